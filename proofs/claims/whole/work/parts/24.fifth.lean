theorem dL_size_0 : decode cL_size 0 = .ok (.aload_n 0, 1) := by decide +kernel
theorem dL_size_1 : decode cL_size 1 = .ok (.getfield 48, 3) := by decide +kernel
theorem dL_size_4 : decode cL_size 4 = .ok (.ireturn, 1) := by decide +kernel
def wp_size (post : Int32 → Sg → Prop) (σ : Sg)  : Prop := post (sG σ 6) σ
set_option maxHeartbeats 4000000 in
set_option maxRecDepth 100000 in
theorem c_size (l : Launch) (D : va_G) (ca : Nat → ClassId) (ad : Nat → Nat → Nat) (σ : Sg)  (sz : Nat) (post : Int32 → Sg → Prop) (hw : wp_size post σ ) : Met l yL_size wsL_size ({ frames := 0, cells := 0, slots := 0, locals := 0 }) (va_Pc [.ref (ad 2 0)] (preX D ca ad σ sz)) (va_Qi post (atX D ca ad (va_A (wX ca ad σ) sz)) (va_A (wX ca ad σ) sz)) 0 0 (va_A (wX ca ad σ) sz) := by
  refine Met.ofW (cc := cL_size) (maxL := 1) (ret := (some .int)) (by decide) rfl ?_
  intro p e s m args below meth c s₁ B hml hv
  obtain ⟨rfl, hsz, hP, hK, hD0, hE⟩ := hv
  have hx := B.exec
  have hb := B.bytes
  have hr := B.returns
  have hts : ∀ w ∈ tbG, w.before _ s = true := fun w h => atoms_spec (ws := wsL_size) B.pre w (List.mem_cons_of_mem _ h)
  have hown : s.vm.findClass RL = some m.cls := findClass_of_methodNamed B.named
  have hlocks := B.notSynchronized
  subst hsz
  have hD := hD0.self (sz := s.heap.size)
  generalize hAe : va_A (wX ca ad σ) s.heap.size = A at hD hE ⊢
  have hA : ∀ q : Nat, s.heap.size ≤ q → A q := fun q h => by rw [← hAe]; exact Or.inr h
  clear hAe
  have hS : va_S A s.heap s.heap [] := va_S.rf
  have hl := lv_entry ([.ref (ad 2 0)]) (n := 1) (Nat.le_of_ble_eq_true rfl)
  rw [lg_entry_eq]
  generalize (lg_sl ([.ref (ad 2 0)]) ++ List.replicate (1 - (lg_sl ([.ref (ad 2 0)])).length) Slot.unset).toArray = ls at hl ⊢
  have hl : lv_has ls 1 [(0, .ref (ad 2 0))] := hl
  unfold wp_size at hw
  have hP : va_P D clX (wX ca ad σ) s.heap := hP
  refine lv_aload_n hx hb dL_size_0 rfl (lv_at hl 0 rfl) ?_
  refine va_get (D := D) (ci := 4) (v := .int (sG σ 6)) (C := RL) (T := TL) (N := 3) hx hb hts inL hown hK hP 2 gX_2 rfl 2 (by decide) (hts _ tw_46) (fun _ h9 => h9) rfl dL_size_1 ?_
  exact W.iret (v := (sG σ 6)) hx hb hr (fun t ht hW => ⟨⟨(sG σ 6), σ, rfl, hw, by rw [ht]; exact hP, va_K.moved hW.alike hK, hD⟩, hS.F ht⟩) hS.2.2 dL_size_4
theorem dC_checkIndex_0 : decode cC_checkIndex 0 = .ok (.iload_n 0, 1) := by decide +kernel
theorem dC_checkIndex_1 : decode cC_checkIndex 1 = .ok (.ifCond .lt 8, 3) := by decide +kernel
theorem dC_checkIndex_4 : decode cC_checkIndex 4 = .ok (.iload_n 0, 1) := by decide +kernel
theorem dC_checkIndex_5 : decode cC_checkIndex 5 = .ok (.iload_n 1, 1) := by decide +kernel
theorem dC_checkIndex_6 : decode cC_checkIndex 6 = .ok (.if_icmp .lt 10, 3) := by decide +kernel
theorem dC_checkIndex_9 : decode cC_checkIndex 9 = .ok (.aload_n 2, 1) := by decide +kernel
theorem dC_checkIndex_10 : decode cC_checkIndex 10 = .ok (.iload_n 0, 1) := by decide +kernel
theorem dC_checkIndex_11 : decode cC_checkIndex 11 = .ok (.iload_n 1, 1) := by decide +kernel
theorem dC_checkIndex_12 : decode cC_checkIndex 12 = .ok (.invokestatic 95, 3) := by decide +kernel
theorem dC_checkIndex_15 : decode cC_checkIndex 15 = .ok (.athrow, 1) := by decide +kernel
theorem dC_checkIndex_16 : decode cC_checkIndex 16 = .ok (.iload_n 0, 1) := by decide +kernel
theorem dC_checkIndex_17 : decode cC_checkIndex 17 = .ok (.ireturn, 1) := by decide +kernel
def wp_checkIndex3 (post : Int32 → Sg → Prop) (σ : Sg) (a0 : Int32) (a1 : Int32) : Prop := (((a0 < 0) → False) ∧ (¬ (a0 < 0) → (((a0 < a1) → post a0 σ) ∧ (¬ (a0 < a1) → False))))
set_option maxHeartbeats 4000000 in
set_option maxRecDepth 100000 in
theorem c_checkIndex3 (l : Launch) (D : va_G) (ca : Nat → ClassId) (ad : Nat → Nat → Nat) (σ : Sg) (a0 : Int32) (a1 : Int32) (sz : Nat) (post : Int32 → Sg → Prop) (hw : wp_checkIndex3 post σ a0 a1) : Met l yC_checkIndex wsC_checkIndex ({ frames := 0, cells := 0, slots := 0, locals := 0 }) (va_Pc [.int a0, .int a1, .null] (preX D ca ad σ sz)) (va_Qi post (atX D ca ad (va_A (wX ca ad σ) sz)) (va_A (wX ca ad σ) sz)) 0 0 (va_A (wX ca ad σ) sz) := by
  refine Met.ofW (cc := cC_checkIndex) (maxL := 3) (ret := (some .int)) (by decide) rfl ?_
  intro p e s m args below meth c s₁ B hml hv
  obtain ⟨rfl, hsz, hP, hK, hD0, hE⟩ := hv
  have hx := B.exec
  have hb := B.bytes
  have hr := B.returns
  have hts : ∀ w ∈ tbG, w.before _ s = true := fun w h => atoms_spec (ws := wsC_checkIndex) B.pre w (List.mem_cons_of_mem _ h)
  have hown : s.vm.findClass RC = some m.cls := findClass_of_methodNamed B.named
  have hlocks := B.notSynchronized
  subst hsz
  have hD := hD0.self (sz := s.heap.size)
  generalize hAe : va_A (wX ca ad σ) s.heap.size = A at hD hE ⊢
  have hA : ∀ q : Nat, s.heap.size ≤ q → A q := fun q h => by rw [← hAe]; exact Or.inr h
  clear hAe
  have hS : va_S A s.heap s.heap [] := va_S.rf
  have hl := lv_entry ([.int a0, .int a1, .null]) (n := 3) (Nat.le_of_ble_eq_true rfl)
  rw [lg_entry_eq]
  generalize (lg_sl ([.int a0, .int a1, .null]) ++ List.replicate (3 - (lg_sl ([.int a0, .int a1, .null])).length) Slot.unset).toArray = ls at hl ⊢
  have hl : lv_has ls 3 [(0, .int a0), (1, .int a1), (2, .null)] := hl
  unfold wp_checkIndex3 at hw
  have hP : va_P D clX (wX ca ad σ) s.heap := hP
  refine lv_iload_n hx hb dC_checkIndex_0 rfl (lv_at hl 0 rfl) ?_
  refine lv_if_lt (tgt := 9) hx hb dC_checkIndex_1 (by decide) (fun c1 => ?_) (fun c1 => ?_)
  · have hw := hw.1 c1
    exact hw.elim
  · have hw := hw.2 c1
    refine lv_iload_n hx hb dC_checkIndex_4 rfl (lv_at hl 0 rfl) ?_
    refine lv_iload_n hx hb dC_checkIndex_5 rfl (lv_at hl 1 rfl) ?_
    refine lv_icmp_lt (tgt := 16) hx hb dC_checkIndex_6 (by decide) (fun c2 => ?_) (fun c2 => ?_)
    · have hw := hw.1 c2
      refine lv_iload_n hx hb dC_checkIndex_16 rfl (lv_at hl 0 rfl) ?_
      exact W.iret (v := a0) hx hb hr (fun t ht hW => ⟨⟨a0, σ, rfl, hw, by rw [ht]; exact hP, va_K.moved hW.alike hK, hD⟩, hS.F ht⟩) hS.2.2 dC_checkIndex_17
    · have hw := hw.2 c2
      exact hw.elim
theorem dO_checkIndex_0 : decode cO_checkIndex 0 = .ok (.iload_n 0, 1) := by decide +kernel
theorem dO_checkIndex_1 : decode cO_checkIndex 1 = .ok (.iload_n 1, 1) := by decide +kernel
theorem dO_checkIndex_2 : decode cO_checkIndex 2 = .ok (.aconst_null, 1) := by decide +kernel
theorem dO_checkIndex_3 : decode cO_checkIndex 3 = .ok (.invokestatic 105, 3) := by decide +kernel
theorem dO_checkIndex_6 : decode cO_checkIndex 6 = .ok (.ireturn, 1) := by decide +kernel
def wp_checkIndex2 (post : Int32 → Sg → Prop) (σ : Sg) (a0 : Int32) (a1 : Int32) : Prop := wp_checkIndex3 (fun r2 s1 => post r2 s1) σ a0 a1
set_option maxHeartbeats 4000000 in
set_option maxRecDepth 100000 in
theorem c_checkIndex2 (l : Launch) (D : va_G) (ca : Nat → ClassId) (ad : Nat → Nat → Nat) (σ : Sg) (a0 : Int32) (a1 : Int32) (sz : Nat) (post : Int32 → Sg → Prop) (hw : wp_checkIndex2 post σ a0 a1) : Met l yO_checkIndex wsO_checkIndex ({ frames := 1, cells := 0, slots := 0, locals := 22 }) (va_Pc [.int a0, .int a1] (preX D ca ad σ sz)) (va_Qi post (atX D ca ad (va_A (wX ca ad σ) sz)) (va_A (wX ca ad σ) sz)) 0 0 (va_A (wX ca ad σ) sz) := by
  refine Met.ofW (cc := cO_checkIndex) (maxL := 2) (ret := (some .int)) (by decide) rfl ?_
  intro p e s m args below meth c s₁ B hml hv
  obtain ⟨rfl, hsz, hP, hK, hD0, hE⟩ := hv
  have hx := B.exec
  have hb := B.bytes
  have hr := B.returns
  have hts : ∀ w ∈ tbG, w.before _ s = true := fun w h => atoms_spec (ws := wsO_checkIndex) B.pre w (List.mem_cons_of_mem _ h)
  have hown : s.vm.findClass RO = some m.cls := findClass_of_methodNamed B.named
  have hlocks := B.notSynchronized
  subst hsz
  have hD := hD0.self (sz := s.heap.size)
  generalize hAe : va_A (wX ca ad σ) s.heap.size = A at hD hE ⊢
  have hA : ∀ q : Nat, s.heap.size ≤ q → A q := fun q h => by rw [← hAe]; exact Or.inr h
  clear hAe
  have hS : va_S A s.heap s.heap [] := va_S.rf
  have hl := lv_entry ([.int a0, .int a1]) (n := 2) (Nat.le_of_ble_eq_true rfl)
  rw [lg_entry_eq]
  generalize (lg_sl ([.int a0, .int a1]) ++ List.replicate (2 - (lg_sl ([.int a0, .int a1])).length) Slot.unset).toArray = ls at hl ⊢
  have hl : lv_has ls 2 [(0, .int a0), (1, .int a1)] := hl
  unfold wp_checkIndex2 at hw
  have hP : va_P D clX (wX ca ad σ) s.heap := hP
  refine lv_iload_n hx hb dO_checkIndex_0 rfl (lv_at hl 0 rfl) ?_
  refine lv_iload_n hx hb dO_checkIndex_1 rfl (lv_at hl 1 rfl) ?_
  refine lv_null hx hb dO_checkIndex_2 ?_
  have hFc := px_free hD hS hA
  refine va_calli (va_runS (As := [.int a0, .int a1, .null]) (rest := []) ⟨hx, hb, hml, hown, hts⟩ (c_checkIndex3 l D ca ad σ a0 a1 _ _ hw) (va_cwS 3 hts (gS tw_577 tw_578 tw_20 tw_579) rfl rfl rfl (by decide +kernel) ⟨Nat.le_of_ble_eq_true rfl, Nat.le_of_ble_eq_true rfl⟩) ⟨px_blind, fun U hU hW => px_pre hP hK hD hE hS hFc hU hW⟩ rfl rfl hl.1 rfl (lv_room (Nat.le_of_ble_eq_true rfl)) dO_checkIndex_3 ⟨Nat.le_of_ble_eq_true rfl, Nat.le_of_ble_eq_true rfl⟩) hS (fun q _ h => hFc q h) hFc (fun r2 s1 t H locs ht hvm hw hB _ _ hS => ?_)
  obtain ⟨hP, -, hD⟩ := hB
  rw [ht] at hP
  have hD := hD.weaken (fun _ _ _ h9 => hFc _ h9)
  exact W.iret (v := r2) hx hb hr (fun t ht hW => ⟨⟨r2, s1, rfl, hw, by rw [ht]; exact hP, va_K.moved hW.alike hK, hD⟩, hS.F ht⟩) hS.2.2 dO_checkIndex_6
theorem dL_elementData_0 : decode cL_elementData 0 = .ok (.aload_n 0, 1) := by decide +kernel
theorem dL_elementData_1 : decode cL_elementData 1 = .ok (.getfield 9, 3) := by decide +kernel
theorem dL_elementData_4 : decode cL_elementData 4 = .ok (.iload_n 1, 1) := by decide +kernel
theorem dL_elementData_5 : decode cL_elementData 5 = .ok (.aaload, 1) := by decide +kernel
theorem dL_elementData_6 : decode cL_elementData 6 = .ok (.areturn, 1) := by decide +kernel
def wp_elementData (post : Option Nat → Sg → Prop) (σ : Sg) (a0 : Int32) : Prop := (sC σ ≠ 0 ∧ vp_in a0 (sC σ) ∧ (((sK σ ((a0).toNatClampNeg)) = none → post none σ) ∧ (∀ j4 : Nat, (sK σ ((a0).toNatClampNeg)) = some j4 → (j4 < sN σ ∧ post (some j4) σ))))
set_option maxHeartbeats 4000000 in
set_option maxRecDepth 100000 in
theorem c_elementData (l : Launch) (D : va_G) (ca : Nat → ClassId) (ad : Nat → Nat → Nat) (σ : Sg) (a0 : Int32) (sz : Nat) (post : Option Nat → Sg → Prop) (hw : wp_elementData post σ a0) : Met l yL_elementData wsL_elementData ({ frames := 0, cells := 0, slots := 0, locals := 0 }) (va_Pc [.ref (ad 2 0), .int a0] (preX D ca ad σ sz)) (va_Qe (ad 10) post (atX D ca ad (va_A (wX ca ad σ) sz)) (va_A (wX ca ad σ) sz)) 0 0 (va_A (wX ca ad σ) sz) := by
  refine Met.ofW (cc := cL_elementData) (maxL := 2) (ret := (some (.object "java/lang/Object"))) (by decide) rfl ?_
  intro p e s m args below meth c s₁ B hml hv
  obtain ⟨rfl, hsz, hP, hK, hD0, hE⟩ := hv
  have hx := B.exec
  have hb := B.bytes
  have hr := B.returns
  have hts : ∀ w ∈ tbG, w.before _ s = true := fun w h => atoms_spec (ws := wsL_elementData) B.pre w (List.mem_cons_of_mem _ h)
  have hown : s.vm.findClass RL = some m.cls := findClass_of_methodNamed B.named
  have hlocks := B.notSynchronized
  subst hsz
  have hD := hD0.self (sz := s.heap.size)
  generalize hAe : va_A (wX ca ad σ) s.heap.size = A at hD hE ⊢
  have hA : ∀ q : Nat, s.heap.size ≤ q → A q := fun q h => by rw [← hAe]; exact Or.inr h
  clear hAe
  have hS : va_S A s.heap s.heap [] := va_S.rf
  have hl := lv_entry ([.ref (ad 2 0), .int a0]) (n := 2) (Nat.le_of_ble_eq_true rfl)
  rw [lg_entry_eq]
  generalize (lg_sl ([.ref (ad 2 0), .int a0]) ++ List.replicate (2 - (lg_sl ([.ref (ad 2 0), .int a0])).length) Slot.unset).toArray = ls at hl ⊢
  have hl : lv_has ls 2 [(0, .ref (ad 2 0)), (1, .int a0)] := hl
  unfold wp_elementData at hw
  have hP : va_P D clX (wX ca ad σ) s.heap := hP
  refine lv_aload_n hx hb dL_elementData_0 rfl (lv_at hl 0 rfl) ?_
  refine va_get (D := D) (ci := 4) (v := .ref (ad 9 0)) (C := RL) (T := TL) (N := 3) hx hb hts inL hown hK hP 2 gX_2 rfl 1 (by decide) (hts _ tw_45) (fun _ h9 => h9) rfl dL_elementData_1 ?_
  refine lv_iload_n hx hb dL_elementData_4 rfl (lv_at hl 1 rfl) ?_
  obtain ⟨h03, hin1, hw⟩ := hw
  refine va_aldq hx hb hK hP (6 + (8 + (8 + (8 + (sN σ + 0))))) 3 (gX_9 h03) rfl hin1 dL_elementData_5 ?_
  refine W.eq (g2 := F0 m 6 ls [va_re (ad 10) (sK σ ((a0).toNatClampNeg))]) rfl ?_
  cases e5 : sK σ ((a0).toNatClampNeg) with
  | none =>
    have hw := hw.1 e5
    try rw [e5]
    exact W.aret (v := va_re (ad 10) none) (rt := .object "java/lang/Object") hx hb hr (Or.inl ⟨_, rfl⟩) (va_re_or _ _) (fun t ht hW => ⟨⟨none, σ, rfl, hw, by rw [ht]; exact hP, va_K.moved hW.alike hK, hD⟩, hS.F ht⟩) hS.2.2 dL_elementData_6
  | some j4 =>
    obtain ⟨hj6, hw⟩ := hw.2 j4 e5
    try rw [e5]
    exact W.aret (v := va_re (ad 10) (some j4)) (rt := .object "java/lang/Object") hx hb hr (Or.inl ⟨_, rfl⟩) (va_re_or _ _) (fun t ht hW => ⟨⟨(some j4), σ, rfl, hw, by rw [ht]; exact hP, va_K.moved hW.alike hK, hD⟩, hS.F ht⟩) hS.2.2 dL_elementData_6
theorem dL_get_0 : decode cL_get 0 = .ok (.iload_n 1, 1) := by decide +kernel
theorem dL_get_1 : decode cL_get 1 = .ok (.aload_n 0, 1) := by decide +kernel
theorem dL_get_2 : decode cL_get 2 = .ok (.getfield 48, 3) := by decide +kernel
theorem dL_get_5 : decode cL_get 5 = .ok (.invokestatic 118, 3) := by decide +kernel
theorem dL_get_8 : decode cL_get 8 = .ok (.pop, 1) := by decide +kernel
theorem dL_get_9 : decode cL_get 9 = .ok (.aload_n 0, 1) := by decide +kernel
theorem dL_get_10 : decode cL_get 10 = .ok (.iload_n 1, 1) := by decide +kernel
theorem dL_get_11 : decode cL_get 11 = .ok (.invokevirtual 123, 3) := by decide +kernel
theorem dL_get_14 : decode cL_get 14 = .ok (.areturn, 1) := by decide +kernel
def wp_get (post : Option Nat → Sg → Prop) (σ : Sg) (a0 : Int32) : Prop := wp_checkIndex2 (fun r2 s1 => wp_elementData (fun r4 s3 => (∃ j5 : Nat, r4 = some j5 ∧ j5 < sN s3 ∧ post (some j5) s3)) s1 a0) σ a0 (sG σ 6)
set_option maxHeartbeats 4000000 in
set_option maxRecDepth 100000 in
theorem c_get (l : Launch) (D : va_G) (ca : Nat → ClassId) (ad : Nat → Nat → Nat) (σ : Sg) (a0 : Int32) (sz : Nat) (post : Option Nat → Sg → Prop) (hw : wp_get post σ a0) : Met l yL_get wsL_get ({ frames := 2, cells := 0, slots := 0, locals := 43 }) (va_Pc [.ref (ad 2 0), .int a0] (preX D ca ad σ sz)) (va_Qe (ad 10) post (atX D ca ad (va_A (wX ca ad σ) sz)) (va_A (wX ca ad σ) sz)) 0 0 (va_A (wX ca ad σ) sz) := by
  refine Met.ofW (cc := cL_get) (maxL := 2) (ret := (some (.object "java/lang/Object"))) (by decide) rfl ?_
  intro p e s m args below meth c s₁ B hml hv
  obtain ⟨rfl, hsz, hP, hK, hD0, hE⟩ := hv
  have hx := B.exec
  have hb := B.bytes
  have hr := B.returns
  have hts : ∀ w ∈ tbG, w.before _ s = true := fun w h => atoms_spec (ws := wsL_get) B.pre w (List.mem_cons_of_mem _ h)
  have hown : s.vm.findClass RL = some m.cls := findClass_of_methodNamed B.named
  have hlocks := B.notSynchronized
  subst hsz
  have hD := hD0.self (sz := s.heap.size)
  generalize hAe : va_A (wX ca ad σ) s.heap.size = A at hD hE ⊢
  have hA : ∀ q : Nat, s.heap.size ≤ q → A q := fun q h => by rw [← hAe]; exact Or.inr h
  clear hAe
  have hS : va_S A s.heap s.heap [] := va_S.rf
  have hl := lv_entry ([.ref (ad 2 0), .int a0]) (n := 2) (Nat.le_of_ble_eq_true rfl)
  rw [lg_entry_eq]
  generalize (lg_sl ([.ref (ad 2 0), .int a0]) ++ List.replicate (2 - (lg_sl ([.ref (ad 2 0), .int a0])).length) Slot.unset).toArray = ls at hl ⊢
  have hl : lv_has ls 2 [(0, .ref (ad 2 0)), (1, .int a0)] := hl
  unfold wp_get at hw
  have hP : va_P D clX (wX ca ad σ) s.heap := hP
  refine lv_iload_n hx hb dL_get_0 rfl (lv_at hl 1 rfl) ?_
  refine lv_aload_n hx hb dL_get_1 rfl (lv_at hl 0 rfl) ?_
  refine va_get (D := D) (ci := 4) (v := .int (sG σ 6)) (C := RL) (T := TL) (N := 3) hx hb hts inL hown hK hP 2 gX_2 rfl 2 (by decide) (hts _ tw_46) (fun _ h9 => h9) rfl dL_get_2 ?_
  have hFc := px_free hD hS hA
  refine va_calli (va_runS (As := [.int a0, .int (sG σ 6)]) (rest := []) ⟨hx, hb, hml, hown, hts⟩ (c_checkIndex2 l D ca ad σ a0 (sG σ 6) _ _ hw) (va_cwS 2 hts (gS tw_574 tw_575 tw_19 tw_576) rfl rfl rfl (by decide +kernel) ⟨Nat.le_of_ble_eq_true rfl, Nat.le_of_ble_eq_true rfl⟩) ⟨px_blind, fun U hU hW => px_pre hP hK hD hE hS hFc hU hW⟩ rfl rfl hl.1 rfl (lv_room (Nat.le_of_ble_eq_true rfl)) dL_get_5 ⟨Nat.le_of_ble_eq_true rfl, Nat.le_of_ble_eq_true rfl⟩) hS (fun q _ h => hFc q h) hFc (fun r2 s1 t H locs ht hvm hw hB _ _ hS => ?_)
  obtain ⟨hP, -, hD⟩ := hB
  rw [ht] at hP
  have hD := hD.weaken (fun _ _ _ h9 => hFc _ h9)
  refine lv_pop hx hb dL_get_8 rfl ?_
  refine lv_aload_n hx hb dL_get_9 rfl (lv_at hl 0 rfl) ?_
  refine lv_iload_n hx hb dL_get_10 rfl (lv_at hl 1 rfl) ?_
  have hFc := px_free hD hS hA
  refine va_calle (va_runV (As := [.int a0]) (rest := []) ⟨hx, hb, hml, hown, hts⟩ (c_elementData l D ca ad s1 a0 _ _ hw) (cwV 1 hts (gV tw_580 tw_581 tw_582 tw_4 tw_583) rfl rfl rfl (by decide +kernel) ⟨Nat.le_of_ble_eq_true rfl, Nat.le_of_ble_eq_true rfl⟩) ⟨px_blind, (px_recv hK hP gX_2 rfl), fun U hU hW => px_pre hP hK hD hE hS hFc hU hW⟩ rfl rfl hl.1 rfl (lv_room (Nat.le_of_ble_eq_true rfl)) dL_get_11 ⟨Nat.le_of_ble_eq_true rfl, Nat.le_of_ble_eq_true rfl⟩) hS (fun q _ h => hFc q h) hFc (fun r4 s3 t H locs ht hvm hw hB _ _ hS => ?_)
  obtain ⟨hP, -, hD⟩ := hB
  rw [ht] at hP
  have hD := hD.weaken (fun _ _ _ h9 => hFc _ h9)
  obtain ⟨j5, e6, hj7, hw⟩ := hw
  subst e6
  exact W.aret (v := va_re (ad 10) (some j5)) (rt := .object "java/lang/Object") hx hb hr (Or.inl ⟨_, rfl⟩) (va_re_or _ _) (fun t ht hW => ⟨⟨(some j5), s3, rfl, hw, by rw [ht]; exact hP, va_K.moved hW.alike hK, hD⟩, hS.F ht⟩) hS.2.2 dL_get_14
theorem dH_history_0 : decode cH_history 0 = .ok (.iload_n 1, 1) := by decide +kernel
theorem dH_history_1 : decode cH_history 1 = .ok (.ifCond .lt 14, 3) := by decide +kernel
theorem dH_history_4 : decode cH_history 4 = .ok (.iload_n 1, 1) := by decide +kernel
theorem dH_history_5 : decode cH_history 5 = .ok (.aload_n 0, 1) := by decide +kernel
theorem dH_history_6 : decode cH_history 6 = .ok (.getfield 18, 3) := by decide +kernel
theorem dH_history_9 : decode cH_history 9 = .ok (.invokevirtual 75, 3) := by decide +kernel
theorem dH_history_12 : decode cH_history 12 = .ok (.if_icmp .lt 13, 3) := by decide +kernel
theorem dH_history_15 : decode cH_history 15 = .ok (.new 172, 3) := by decide +kernel
theorem dH_history_18 : decode cH_history 18 = .ok (.dup, 1) := by decide +kernel
theorem dH_history_19 : decode cH_history 19 = .ok (.ldc 197, 2) := by decide +kernel
theorem dH_history_21 : decode cH_history 21 = .ok (.invokespecial 176, 3) := by decide +kernel
theorem dH_history_24 : decode cH_history 24 = .ok (.athrow, 1) := by decide +kernel
theorem dH_history_25 : decode cH_history 25 = .ok (.aload_n 0, 1) := by decide +kernel
theorem dH_history_26 : decode cH_history 26 = .ok (.getfield 18, 3) := by decide +kernel
theorem dH_history_29 : decode cH_history 29 = .ok (.iload_n 1, 1) := by decide +kernel
theorem dH_history_30 : decode cH_history 30 = .ok (.invokevirtual 199, 3) := by decide +kernel
theorem dH_history_33 : decode cH_history 33 = .ok (.checkcast 84, 3) := by decide +kernel
theorem dH_history_36 : decode cH_history 36 = .ok (.astore_n 3, 1) := by decide +kernel
theorem dH_history_37 : decode cH_history 37 = .ok (.iload_n 2, 1) := by decide +kernel
theorem dH_history_38 : decode cH_history 38 = .ok (.tableswitch 68 0 5 #[38, 43, 48, 53, 58, 63], 38) := by decide +kernel
theorem dH_history_76 : decode cH_history 76 = .ok (.aload_n 3, 1) := by decide +kernel
theorem dH_history_77 : decode cH_history 77 = .ok (.getfield 203, 3) := by decide +kernel
theorem dH_history_80 : decode cH_history 80 = .ok (.ireturn, 1) := by decide +kernel
theorem dH_history_81 : decode cH_history 81 = .ok (.aload_n 3, 1) := by decide +kernel
theorem dH_history_82 : decode cH_history 82 = .ok (.getfield 206, 3) := by decide +kernel
theorem dH_history_85 : decode cH_history 85 = .ok (.ireturn, 1) := by decide +kernel
theorem dH_history_86 : decode cH_history 86 = .ok (.aload_n 3, 1) := by decide +kernel
theorem dH_history_87 : decode cH_history 87 = .ok (.getfield 209, 3) := by decide +kernel
theorem dH_history_90 : decode cH_history 90 = .ok (.ireturn, 1) := by decide +kernel
theorem dH_history_91 : decode cH_history 91 = .ok (.aload_n 3, 1) := by decide +kernel
theorem dH_history_92 : decode cH_history 92 = .ok (.getfield 212, 3) := by decide +kernel
theorem dH_history_95 : decode cH_history 95 = .ok (.ireturn, 1) := by decide +kernel
theorem dH_history_96 : decode cH_history 96 = .ok (.aload_n 3, 1) := by decide +kernel
theorem dH_history_97 : decode cH_history 97 = .ok (.getfield 215, 3) := by decide +kernel
theorem dH_history_100 : decode cH_history 100 = .ok (.ireturn, 1) := by decide +kernel
theorem dH_history_101 : decode cH_history 101 = .ok (.aload_n 3, 1) := by decide +kernel
theorem dH_history_102 : decode cH_history 102 = .ok (.getfield 218, 3) := by decide +kernel
theorem dH_history_105 : decode cH_history 105 = .ok (.ireturn, 1) := by decide +kernel
theorem dH_history_106 : decode cH_history 106 = .ok (.new 172, 3) := by decide +kernel
theorem dH_history_109 : decode cH_history 109 = .ok (.dup, 1) := by decide +kernel
theorem dH_history_110 : decode cH_history 110 = .ok (.ldc 221, 2) := by decide +kernel
theorem dH_history_112 : decode cH_history 112 = .ok (.invokespecial 176, 3) := by decide +kernel
theorem dH_history_115 : decode cH_history 115 = .ok (.athrow, 1) := by decide +kernel
def wp_history (post : Int32 → Sg → Prop) (px : String → Sg → Prop) (σ : Sg) (a0 : Int32) (a1 : Int32) : Prop := (((a0 < 0) → px "java/lang/IndexOutOfBoundsException" σ) ∧ (¬ (a0 < 0) → wp_size (fun r3 s2 => (((a0 < r3) → wp_get (fun r6 s5 => (∃ j7 : Nat, r6 = some j7 ∧ j7 < sN s5 ∧ ((a1 = 0 → post (sH s5 0 j7) s5) ∧ (¬ (a1 = 0) → ((a1 = 1 → post (sH s5 1 j7) s5) ∧ (¬ (a1 = 1) → ((a1 = 2 → post (sH s5 2 j7) s5) ∧ (¬ (a1 = 2) → ((a1 = 3 → post (sH s5 3 j7) s5) ∧ (¬ (a1 = 3) → ((a1 = 4 → post (sH s5 4 j7) s5) ∧ (¬ (a1 = 4) → ((a1 = 5 → post (sH s5 5 j7) s5) ∧ (¬ (a1 = 5) → px "java/lang/IndexOutOfBoundsException" s5)))))))))))))) s2 a0) ∧ (¬ (a0 < r3) → px "java/lang/IndexOutOfBoundsException" s2))) σ))
set_option maxHeartbeats 4000000 in
set_option maxRecDepth 100000 in
theorem c_history (l : Launch) (D : va_G) (ca : Nat → ClassId) (ad : Nat → Nat → Nat) (σ : Sg) (a0 : Int32) (a1 : Int32) (sz : Nat) (post : Int32 → Sg → Prop) (px : String → Sg → Prop) (hl0 : l.stackTraces = false) (hw : wp_history post px σ a0 a1) : vx_Met l yH_history wsH_history ({ frames := 8, cells := 1, slots := 6, locals := 120 }) (va_Pc [.ref (ad 0 0), .int a0, .int a1] (preX D ca ad σ sz)) (va_Qi post (atX D ca ad (va_A (wX ca ad σ) sz)) (va_A (wX ca ad σ) sz)) (vx_X (fun u : String × Sg => px u.1 u.2) (atXx D ca ad (va_A (wX ca ad σ) sz)) (va_A (wX ca ad σ) sz)) 1 6 (va_A (wX ca ad σ) sz) := by
  refine vx_ofW (cc := cH_history) (maxL := 4) (ret := (some .int)) (by decide) rfl ?_
  intro p e s m args below meth c s₁ B hml hexc hv
  obtain ⟨rfl, hsz, hP, hK, hD0, hE⟩ := hv
  have hx := B.exec
  have hb := B.bytes
  have hr := B.returns
  have hts : ∀ w ∈ tbG, w.before _ s = true := fun w h => atoms_spec (ws := wsH_history) B.pre w (List.mem_cons_of_mem _ h)
  have hown : s.vm.findClass RH = some m.cls := findClass_of_methodNamed B.named
  have hlocks := B.notSynchronized
  subst hsz
  have hD := hD0.self (sz := s.heap.size)
  generalize hAe : va_A (wX ca ad σ) s.heap.size = A at hD hE ⊢
  have hA : ∀ q : Nat, s.heap.size ≤ q → A q := fun q h => by rw [← hAe]; exact Or.inr h
  clear hAe
  have hS : va_S A s.heap s.heap [] := va_S.rf
  have hl := lv_entry ([.ref (ad 0 0), .int a0, .int a1]) (n := 4) (Nat.le_of_ble_eq_true rfl)
  rw [lg_entry_eq]
  generalize (lg_sl ([.ref (ad 0 0), .int a0, .int a1]) ++ List.replicate (4 - (lg_sl ([.ref (ad 0 0), .int a0, .int a1])).length) Slot.unset).toArray = ls at hl ⊢
  have hl : lv_has ls 4 [(0, .ref (ad 0 0)), (1, .int a0), (2, .int a1)] := hl
  unfold wp_history at hw
  have hP : va_P D clX (wX ca ad σ) s.heap := hP
  refine lv_iload_n hx hb dH_history_0 rfl (lv_at hl 1 rfl) ?_
  refine lv_if_lt (tgt := 15) hx hb dH_history_1 (by decide) (fun c1 => ?_) (fun c1 => ?_)
  · have hw := hw.1 c1
    obtain ⟨sa9, hstr⟩ := hE.str 10 _ rfl
    exact vx_throwS (names := ["java/lang/RuntimeException", "java/lang/Exception"]) hx hb hl0 hown (by decide +kernel) (by decide +kernel) (hts _ tw_313) (hts _ tw_13) hstr (hE.hat176 hts) gd_176 hE.1 hE.2.1 hS (hl.1.trans hml.symm) dH_history_15 dH_history_18 dH_history_19 dH_history_21 dH_history_24 (fun x9 h9 => (hexc x9 h9).elim) (by decide) (by decide) (by decide) (by decide) hlocks (fun t hv hz hk => ⟨(_, σ), hw, ⟨rfl, hP.kept (fun k9 q9 h9 => hk _ (va_at.lt (hP k9 q9 h9))), va_K.moved hv hK, hD⟩, va_S.F2 hS hz hk⟩) hS.2.2 (by decide) (by decide)
  · have hw := hw.2 c1
    refine lv_iload_n hx hb dH_history_4 rfl (lv_at hl 1 rfl) ?_
    refine lv_aload_n hx hb dH_history_5 rfl (lv_at hl 0 rfl) ?_
    refine va_get (D := D) (ci := 0) (v := .ref (ad 2 0)) (C := RH) (T := TH) (N := 8) hx hb hts inH hown hK hP 0 gX_0 rfl 1 (by decide) (hts _ tw_151) (fun _ h9 => h9) rfl dH_history_6 ?_
    have hFc := px_free hD hS hA
    refine va_calli (va_runV (As := []) (rest := [.int a0]) ⟨hx, hb, hml, hown, hts⟩ (c_size l D ca ad σ  _ _ hw) (cwV 0 hts (gV tw_190 tw_191 tw_192 tw_4 tw_193) rfl rfl rfl (by decide +kernel) ⟨Nat.le_of_ble_eq_true rfl, Nat.le_of_ble_eq_true rfl⟩) ⟨px_blind, (px_recv hK hP gX_2 rfl), fun U hU hW => px_pre hP hK hD hE hS hFc hU hW⟩ rfl rfl hl.1 rfl (lv_room (Nat.le_of_ble_eq_true rfl)) dH_history_9 ⟨Nat.le_of_ble_eq_true rfl, Nat.le_of_ble_eq_true rfl⟩) hS (fun q _ h => hFc q h) hFc (fun r3 s2 t H locs ht hvm hw hB _ _ hS => ?_)
    obtain ⟨hP, -, hD⟩ := hB
    rw [ht] at hP
    have hD := hD.weaken (fun _ _ _ h9 => hFc _ h9)
    refine lv_icmp_lt (tgt := 25) hx hb dH_history_12 (by decide) (fun c4 => ?_) (fun c4 => ?_)
    · have hw := hw.1 c4
      refine lv_aload_n hx hb dH_history_25 rfl (lv_at hl 0 rfl) ?_
      refine va_get (D := D) (ci := 0) (v := .ref (ad 2 0)) (C := RH) (T := TH) (N := 8) hx hb hts inH hown hK hP 0 gX_0 rfl 1 (by decide) (hts _ tw_151) (fun _ h9 => h9) rfl dH_history_26 ?_
      refine lv_iload_n hx hb dH_history_29 rfl (lv_at hl 1 rfl) ?_
      have hFc := px_free hD hS hA
      refine va_calle (va_runV (As := [.int a0]) (rest := []) ⟨hx, hb, hml, hown, hts⟩ (c_get l D ca ad s2 a0 _ _ hw) (cwV 1 hts (gV tw_570 tw_571 tw_572 tw_4 tw_573) rfl rfl rfl (by decide +kernel) ⟨Nat.le_of_ble_eq_true rfl, Nat.le_of_ble_eq_true rfl⟩) ⟨px_blind, (px_recv hK hP gX_2 rfl), fun U hU hW => px_pre hP hK hD hE hS hFc hU hW⟩ rfl rfl hl.1 rfl (lv_room (Nat.le_of_ble_eq_true rfl)) dH_history_30 ⟨Nat.le_of_ble_eq_true rfl, Nat.le_of_ble_eq_true rfl⟩) hS (fun q _ h => hFc q h) hFc (fun r6 s5 t H locs ht hvm hw hB _ _ hS => ?_)
      obtain ⟨hP, -, hD⟩ := hB
      rw [ht] at hP
      have hD := hD.weaken (fun _ _ _ h9 => hFc _ h9)
      obtain ⟨j7, e8, hj9, hw⟩ := hw
      subst e8
      refine va_castS (cC := D.1 2) hx hb hown (hts _ tw_340) (hK.1 2 _ rfl).2 (px_recv hK hP (gX_10 hj9) rfl) dH_history_33 ?_
      refine lv_astore_n (lv' := [(3, .ref (ad 10 j7)), (0, .ref (ad 0 0)), (1, .int a0), (2, .int a1)]) hx hb dH_history_36 rfl hl (by decide) rfl (fun ls hl => ?_)
      refine lv_iload_n hx hb dH_history_37 rfl (lv_at hl 3 rfl) ?_
      by_cases c10 : a1 = 0
      · have hw := hw.1 c10
        refine lv_tableIn (tgt := 76) hx hb dH_history_38 (by rw [c10]; decide) (by rw [c10]; decide) (by rw [c10]; rfl) (by decide) ?_
        refine lv_aload_n hx hb dH_history_76 rfl (lv_at hl 0 rfl) ?_
        refine va_get (D := D) (ci := 2) (v := .int (sH s5 0 j7)) (C := RQ) (T := TQ) (N := 6) hx hb hts inQ hown hK hP (6 + (8 + (8 + (8 + j7)))) (gX_10 hj9) rfl 0 (by decide) (hts _ tw_351) (fun _ h9 => h9) rfl dH_history_77 ?_
        refine W.widen (k := 1) (n := 6) (by decide) (by decide) ?_
        exact vx_ret (W.iret (v := (sH s5 0 j7)) hx hb hr (fun t ht hW => ⟨⟨(sH s5 0 j7), s5, rfl, hw, by rw [ht]; exact hP, va_K.moved hW.alike hK, hD⟩, hS.F ht⟩) hS.2.2 dH_history_80)
      · have hw := hw.2 c10
        by_cases c11 : a1 = 1
        · have hw := hw.1 c11
          refine lv_tableIn (tgt := 81) hx hb dH_history_38 (by rw [c11]; decide) (by rw [c11]; decide) (by rw [c11]; rfl) (by decide) ?_
          refine lv_aload_n hx hb dH_history_81 rfl (lv_at hl 0 rfl) ?_
          refine va_get (D := D) (ci := 2) (v := .int (sH s5 1 j7)) (C := RQ) (T := TQ) (N := 6) hx hb hts inQ hown hK hP (6 + (8 + (8 + (8 + j7)))) (gX_10 hj9) rfl 1 (by decide) (hts _ tw_354) (fun _ h9 => h9) rfl dH_history_82 ?_
          refine W.widen (k := 1) (n := 6) (by decide) (by decide) ?_
          exact vx_ret (W.iret (v := (sH s5 1 j7)) hx hb hr (fun t ht hW => ⟨⟨(sH s5 1 j7), s5, rfl, hw, by rw [ht]; exact hP, va_K.moved hW.alike hK, hD⟩, hS.F ht⟩) hS.2.2 dH_history_85)
        · have hw := hw.2 c11
          by_cases c12 : a1 = 2
          · have hw := hw.1 c12
            refine lv_tableIn (tgt := 86) hx hb dH_history_38 (by rw [c12]; decide) (by rw [c12]; decide) (by rw [c12]; rfl) (by decide) ?_
            refine lv_aload_n hx hb dH_history_86 rfl (lv_at hl 0 rfl) ?_
            refine va_get (D := D) (ci := 2) (v := .int (sH s5 2 j7)) (C := RQ) (T := TQ) (N := 6) hx hb hts inQ hown hK hP (6 + (8 + (8 + (8 + j7)))) (gX_10 hj9) rfl 2 (by decide) (hts _ tw_356) (fun _ h9 => h9) rfl dH_history_87 ?_
            refine W.widen (k := 1) (n := 6) (by decide) (by decide) ?_
            exact vx_ret (W.iret (v := (sH s5 2 j7)) hx hb hr (fun t ht hW => ⟨⟨(sH s5 2 j7), s5, rfl, hw, by rw [ht]; exact hP, va_K.moved hW.alike hK, hD⟩, hS.F ht⟩) hS.2.2 dH_history_90)
          · have hw := hw.2 c12
            by_cases c13 : a1 = 3
            · have hw := hw.1 c13
              refine lv_tableIn (tgt := 91) hx hb dH_history_38 (by rw [c13]; decide) (by rw [c13]; decide) (by rw [c13]; rfl) (by decide) ?_
              refine lv_aload_n hx hb dH_history_91 rfl (lv_at hl 0 rfl) ?_
              refine va_get (D := D) (ci := 2) (v := .int (sH s5 3 j7)) (C := RQ) (T := TQ) (N := 6) hx hb hts inQ hown hK hP (6 + (8 + (8 + (8 + j7)))) (gX_10 hj9) rfl 3 (by decide) (hts _ tw_358) (fun _ h9 => h9) rfl dH_history_92 ?_
              refine W.widen (k := 1) (n := 6) (by decide) (by decide) ?_
              exact vx_ret (W.iret (v := (sH s5 3 j7)) hx hb hr (fun t ht hW => ⟨⟨(sH s5 3 j7), s5, rfl, hw, by rw [ht]; exact hP, va_K.moved hW.alike hK, hD⟩, hS.F ht⟩) hS.2.2 dH_history_95)
            · have hw := hw.2 c13
              by_cases c14 : a1 = 4
              · have hw := hw.1 c14
                refine lv_tableIn (tgt := 96) hx hb dH_history_38 (by rw [c14]; decide) (by rw [c14]; decide) (by rw [c14]; rfl) (by decide) ?_
                refine lv_aload_n hx hb dH_history_96 rfl (lv_at hl 0 rfl) ?_
                refine va_get (D := D) (ci := 2) (v := .int (sH s5 4 j7)) (C := RQ) (T := TQ) (N := 6) hx hb hts inQ hown hK hP (6 + (8 + (8 + (8 + j7)))) (gX_10 hj9) rfl 4 (by decide) (hts _ tw_360) (fun _ h9 => h9) rfl dH_history_97 ?_
                refine W.widen (k := 1) (n := 6) (by decide) (by decide) ?_
                exact vx_ret (W.iret (v := (sH s5 4 j7)) hx hb hr (fun t ht hW => ⟨⟨(sH s5 4 j7), s5, rfl, hw, by rw [ht]; exact hP, va_K.moved hW.alike hK, hD⟩, hS.F ht⟩) hS.2.2 dH_history_100)
              · have hw := hw.2 c14
                by_cases c15 : a1 = 5
                · have hw := hw.1 c15
                  refine lv_tableIn (tgt := 101) hx hb dH_history_38 (by rw [c15]; decide) (by rw [c15]; decide) (by rw [c15]; rfl) (by decide) ?_
                  refine lv_aload_n hx hb dH_history_101 rfl (lv_at hl 0 rfl) ?_
                  refine va_get (D := D) (ci := 2) (v := .int (sH s5 5 j7)) (C := RQ) (T := TQ) (N := 6) hx hb hts inQ hown hK hP (6 + (8 + (8 + (8 + j7)))) (gX_10 hj9) rfl 5 (by decide) (hts _ tw_362) (fun _ h9 => h9) rfl dH_history_102 ?_
                  refine W.widen (k := 1) (n := 6) (by decide) (by decide) ?_
                  exact vx_ret (W.iret (v := (sH s5 5 j7)) hx hb hr (fun t ht hW => ⟨⟨(sH s5 5 j7), s5, rfl, hw, by rw [ht]; exact hP, va_K.moved hW.alike hK, hD⟩, hS.F ht⟩) hS.2.2 dH_history_105)
                · have hw := hw.2 c15
                  refine lv_tableOut (tgt := 106) hx hb dH_history_38 (by first | exact px_out6 c10 c11 c12 c13 c14 c15) (by decide) ?_
                  obtain ⟨sa9, hstr⟩ := hE.str 11 _ rfl
                  exact vx_throwS (names := ["java/lang/RuntimeException", "java/lang/Exception"]) hx hb hl0 hown (by decide +kernel) (by decide +kernel) (hts _ tw_313) (hts _ tw_13) hstr (hE.hat176 hts) gd_176 hE.1 hE.2.1 hS (hl.1.trans hml.symm) dH_history_106 dH_history_109 dH_history_110 dH_history_112 dH_history_115 (fun x9 h9 => (hexc x9 h9).elim) (by decide) (by decide) (by decide) (by decide) hlocks (fun t hv hz hk => ⟨(_, s5), hw, ⟨rfl, hP.kept (fun k9 q9 h9 => hk _ (va_at.lt (hP k9 q9 h9))), va_K.moved hv hK, hD⟩, va_S.F2 hS hz hk⟩) hS.2.2 (by decide) (by decide)
    · have hw := hw.2 c4
      obtain ⟨sa9, hstr⟩ := hE.str 10 _ rfl
      exact vx_throwS (names := ["java/lang/RuntimeException", "java/lang/Exception"]) hx hb hl0 hown (by decide +kernel) (by decide +kernel) (hts _ tw_313) (hts _ tw_13) hstr (hE.hat176 hts) gd_176 hE.1 hE.2.1 hS (hl.1.trans hml.symm) dH_history_15 dH_history_18 dH_history_19 dH_history_21 dH_history_24 (fun x9 h9 => (hexc x9 h9).elim) (by decide) (by decide) (by decide) (by decide) hlocks (fun t hv hz hk => ⟨(_, s2), hw, ⟨rfl, hP.kept (fun k9 q9 h9 => hk _ (va_at.lt (hP k9 q9 h9))), va_K.moved hv hK, hD⟩, va_S.F2 hS hz hk⟩) hS.2.2 (by decide) (by decide)
theorem dH_count_0 : decode cH_count 0 = .ok (.iload_n 1, 1) := by decide +kernel
theorem dH_count_1 : decode cH_count 1 = .ok (.tableswitch 75 0 5 #[39, 44, 52, 57, 65, 70], 39) := by decide +kernel
theorem dH_count_40 : decode cH_count 40 = .ok (.aload_n 0, 1) := by decide +kernel
theorem dH_count_41 : decode cH_count 41 = .ok (.getfield 37, 3) := by decide +kernel
theorem dH_count_44 : decode cH_count 44 = .ok (.ireturn, 1) := by decide +kernel
theorem dH_count_45 : decode cH_count 45 = .ok (.aload_n 0, 1) := by decide +kernel
theorem dH_count_46 : decode cH_count 46 = .ok (.getfield 18, 3) := by decide +kernel
theorem dH_count_49 : decode cH_count 49 = .ok (.invokevirtual 75, 3) := by decide +kernel
theorem dH_count_52 : decode cH_count 52 = .ok (.ireturn, 1) := by decide +kernel
theorem dH_count_53 : decode cH_count 53 = .ok (.aload_n 0, 1) := by decide +kernel
theorem dH_count_54 : decode cH_count 54 = .ok (.getfield 40, 3) := by decide +kernel
theorem dH_count_57 : decode cH_count 57 = .ok (.ireturn, 1) := by decide +kernel
theorem dH_count_58 : decode cH_count 58 = .ok (.aload_n 0, 1) := by decide +kernel
theorem dH_count_59 : decode cH_count 59 = .ok (.getfield 25, 3) := by decide +kernel
theorem dH_count_62 : decode cH_count 62 = .ok (.getfield 223, 3) := by decide +kernel
theorem dH_count_65 : decode cH_count 65 = .ok (.ireturn, 1) := by decide +kernel
theorem dH_count_66 : decode cH_count 66 = .ok (.aload_n 0, 1) := by decide +kernel
theorem dH_count_67 : decode cH_count 67 = .ok (.invokevirtual 226, 3) := by decide +kernel
theorem dH_count_70 : decode cH_count 70 = .ok (.ireturn, 1) := by decide +kernel
theorem dH_count_71 : decode cH_count 71 = .ok (.aload_n 0, 1) := by decide +kernel
theorem dH_count_72 : decode cH_count 72 = .ok (.getfield 33, 3) := by decide +kernel
theorem dH_count_75 : decode cH_count 75 = .ok (.ireturn, 1) := by decide +kernel
theorem dH_count_76 : decode cH_count 76 = .ok (.iconst (-1), 1) := by decide +kernel
theorem dH_count_77 : decode cH_count 77 = .ok (.ireturn, 1) := by decide +kernel
def wp_count (post : Int32 → Sg → Prop) (σ : Sg) (a0 : Int32) : Prop := ((a0 = 0 → post (sG σ 1) σ) ∧ (¬ (a0 = 0) → ((a0 = 1 → wp_size (fun r4 s3 => post r4 s3) σ) ∧ (¬ (a0 = 1) → ((a0 = 2 → post (sG σ 2) σ) ∧ (¬ (a0 = 2) → ((a0 = 3 → post (sG σ 4) σ) ∧ (¬ (a0 = 3) → ((a0 = 4 → wp_howManyWait (fun r9 s8 => post r9 s8) σ) ∧ (¬ (a0 = 4) → ((a0 = 5 → post (sG σ 0) σ) ∧ (¬ (a0 = 5) → post (-1) σ))))))))))))
set_option maxHeartbeats 4000000 in
set_option maxRecDepth 100000 in
theorem c_count (l : Launch) (D : va_G) (ca : Nat → ClassId) (ad : Nat → Nat → Nat) (σ : Sg) (a0 : Int32) (sz : Nat) (post : Int32 → Sg → Prop) (hw : wp_count post σ a0) : Met l yH_count wsH_count ({ frames := 2, cells := 0, slots := 0, locals := 42 }) (va_Pc [.ref (ad 0 0), .int a0] (preX D ca ad σ sz)) (va_Qi post (atX D ca ad (va_A (wX ca ad σ) sz)) (va_A (wX ca ad σ) sz)) 0 0 (va_A (wX ca ad σ) sz) := by
  refine Met.ofW (cc := cH_count) (maxL := 2) (ret := (some .int)) (by decide) rfl ?_
  intro p e s m args below meth c s₁ B hml hv
  obtain ⟨rfl, hsz, hP, hK, hD0, hE⟩ := hv
  have hx := B.exec
  have hb := B.bytes
  have hr := B.returns
  have hts : ∀ w ∈ tbG, w.before _ s = true := fun w h => atoms_spec (ws := wsH_count) B.pre w (List.mem_cons_of_mem _ h)
  have hown : s.vm.findClass RH = some m.cls := findClass_of_methodNamed B.named
  have hlocks := B.notSynchronized
  subst hsz
  have hD := hD0.self (sz := s.heap.size)
  generalize hAe : va_A (wX ca ad σ) s.heap.size = A at hD hE ⊢
  have hA : ∀ q : Nat, s.heap.size ≤ q → A q := fun q h => by rw [← hAe]; exact Or.inr h
  clear hAe
  have hS : va_S A s.heap s.heap [] := va_S.rf
  have hl := lv_entry ([.ref (ad 0 0), .int a0]) (n := 2) (Nat.le_of_ble_eq_true rfl)
  rw [lg_entry_eq]
  generalize (lg_sl ([.ref (ad 0 0), .int a0]) ++ List.replicate (2 - (lg_sl ([.ref (ad 0 0), .int a0])).length) Slot.unset).toArray = ls at hl ⊢
  have hl : lv_has ls 2 [(0, .ref (ad 0 0)), (1, .int a0)] := hl
  unfold wp_count at hw
  have hP : va_P D clX (wX ca ad σ) s.heap := hP
  refine lv_iload_n hx hb dH_count_0 rfl (lv_at hl 1 rfl) ?_
  by_cases c1 : a0 = 0
  · have hw := hw.1 c1
    refine lv_tableIn (tgt := 40) hx hb dH_count_1 (by rw [c1]; decide) (by rw [c1]; decide) (by rw [c1]; rfl) (by decide) ?_
    refine lv_aload_n hx hb dH_count_40 rfl (lv_at hl 0 rfl) ?_
    refine va_get (D := D) (ci := 0) (v := .int (sG σ 1)) (C := RH) (T := TH) (N := 8) hx hb hts inH hown hK hP 0 gX_0 rfl 5 (by decide) (hts _ tw_155) (fun _ h9 => h9) rfl dH_count_41 ?_
    exact W.iret (v := (sG σ 1)) hx hb hr (fun t ht hW => ⟨⟨(sG σ 1), σ, rfl, hw, by rw [ht]; exact hP, va_K.moved hW.alike hK, hD⟩, hS.F ht⟩) hS.2.2 dH_count_44
  · have hw := hw.2 c1
    by_cases c2 : a0 = 1
    · have hw := hw.1 c2
      refine lv_tableIn (tgt := 45) hx hb dH_count_1 (by rw [c2]; decide) (by rw [c2]; decide) (by rw [c2]; rfl) (by decide) ?_
      refine lv_aload_n hx hb dH_count_45 rfl (lv_at hl 0 rfl) ?_
      refine va_get (D := D) (ci := 0) (v := .ref (ad 2 0)) (C := RH) (T := TH) (N := 8) hx hb hts inH hown hK hP 0 gX_0 rfl 1 (by decide) (hts _ tw_151) (fun _ h9 => h9) rfl dH_count_46 ?_
      have hFc := px_free hD hS hA
      refine va_calli (va_runV (As := []) (rest := []) ⟨hx, hb, hml, hown, hts⟩ (c_size l D ca ad σ  _ _ hw) (cwV 0 hts (gV tw_190 tw_191 tw_192 tw_4 tw_193) rfl rfl rfl (by decide +kernel) ⟨Nat.le_of_ble_eq_true rfl, Nat.le_of_ble_eq_true rfl⟩) ⟨px_blind, (px_recv hK hP gX_2 rfl), fun U hU hW => px_pre hP hK hD hE hS hFc hU hW⟩ rfl rfl hl.1 rfl (lv_room (Nat.le_of_ble_eq_true rfl)) dH_count_49 ⟨Nat.le_of_ble_eq_true rfl, Nat.le_of_ble_eq_true rfl⟩) hS (fun q _ h => hFc q h) hFc (fun r4 s3 t H locs ht hvm hw hB _ _ hS => ?_)
      obtain ⟨hP, -, hD⟩ := hB
      rw [ht] at hP
      have hD := hD.weaken (fun _ _ _ h9 => hFc _ h9)
      exact W.iret (v := r4) hx hb hr (fun t ht hW => ⟨⟨r4, s3, rfl, hw, by rw [ht]; exact hP, va_K.moved hW.alike hK, hD⟩, hS.F ht⟩) hS.2.2 dH_count_52
    · have hw := hw.2 c2
      by_cases c5 : a0 = 2
      · have hw := hw.1 c5
        refine lv_tableIn (tgt := 53) hx hb dH_count_1 (by rw [c5]; decide) (by rw [c5]; decide) (by rw [c5]; rfl) (by decide) ?_
        refine lv_aload_n hx hb dH_count_53 rfl (lv_at hl 0 rfl) ?_
        refine va_get (D := D) (ci := 0) (v := .int (sG σ 2)) (C := RH) (T := TH) (N := 8) hx hb hts inH hown hK hP 0 gX_0 rfl 6 (by decide) (hts _ tw_156) (fun _ h9 => h9) rfl dH_count_54 ?_
        exact W.iret (v := (sG σ 2)) hx hb hr (fun t ht hW => ⟨⟨(sG σ 2), σ, rfl, hw, by rw [ht]; exact hP, va_K.moved hW.alike hK, hD⟩, hS.F ht⟩) hS.2.2 dH_count_57
      · have hw := hw.2 c5
        by_cases c6 : a0 = 3
        · have hw := hw.1 c6
          refine lv_tableIn (tgt := 58) hx hb dH_count_1 (by rw [c6]; decide) (by rw [c6]; decide) (by rw [c6]; rfl) (by decide) ?_
          refine lv_aload_n hx hb dH_count_58 rfl (lv_at hl 0 rfl) ?_
          refine va_get (D := D) (ci := 0) (v := .ref (ad 3 0)) (C := RH) (T := TH) (N := 8) hx hb hts inH hown hK hP 0 gX_0 rfl 2 (by decide) (hts _ tw_152) (fun _ h9 => h9) rfl dH_count_59 ?_
          refine va_get (D := D) (ci := 3) (v := .int (sG σ 4)) (C := RG) (T := TG) (N := 2) hx hb hts inG hown hK hP 3 gX_3 rfl 1 (by decide) (hts _ tw_65) (fun _ h9 => h9) rfl dH_count_62 ?_
          exact W.iret (v := (sG σ 4)) hx hb hr (fun t ht hW => ⟨⟨(sG σ 4), σ, rfl, hw, by rw [ht]; exact hP, va_K.moved hW.alike hK, hD⟩, hS.F ht⟩) hS.2.2 dH_count_65
        · have hw := hw.2 c6
          by_cases c7 : a0 = 4
          · have hw := hw.1 c7
            refine lv_tableIn (tgt := 66) hx hb dH_count_1 (by rw [c7]; decide) (by rw [c7]; decide) (by rw [c7]; rfl) (by decide) ?_
            refine lv_aload_n hx hb dH_count_66 rfl (lv_at hl 0 rfl) ?_
            have hFc := px_free hD hS hA
            refine va_calli (va_runV (As := []) (rest := []) ⟨hx, hb, hml, hown, hts⟩ (c_howManyWait l D ca ad σ  _ _ hw) (cwV 0 hts (gV tw_194 tw_196 tp_0 tw_1 tw_197) rfl rfl rfl (by decide +kernel) ⟨Nat.le_of_ble_eq_true rfl, Nat.le_of_ble_eq_true rfl⟩) ⟨px_blind, (px_recv hK hP gX_0 rfl), fun U hU hW => px_pre hP hK hD hE hS hFc hU hW⟩ rfl rfl hl.1 rfl (lv_room (Nat.le_of_ble_eq_true rfl)) dH_count_67 ⟨Nat.le_of_ble_eq_true rfl, Nat.le_of_ble_eq_true rfl⟩) hS (fun q _ h => hFc q h) hFc (fun r9 s8 t H locs ht hvm hw hB _ _ hS => ?_)
            obtain ⟨hP, -, hD⟩ := hB
            rw [ht] at hP
            have hD := hD.weaken (fun _ _ _ h9 => hFc _ h9)
            exact W.iret (v := r9) hx hb hr (fun t ht hW => ⟨⟨r9, s8, rfl, hw, by rw [ht]; exact hP, va_K.moved hW.alike hK, hD⟩, hS.F ht⟩) hS.2.2 dH_count_70
          · have hw := hw.2 c7
            by_cases c10 : a0 = 5
            · have hw := hw.1 c10
              refine lv_tableIn (tgt := 71) hx hb dH_count_1 (by rw [c10]; decide) (by rw [c10]; decide) (by rw [c10]; rfl) (by decide) ?_
              refine lv_aload_n hx hb dH_count_71 rfl (lv_at hl 0 rfl) ?_
              refine va_get (D := D) (ci := 0) (v := .int (sG σ 0)) (C := RH) (T := TH) (N := 8) hx hb hts inH hown hK hP 0 gX_0 rfl 4 (by decide) (hts _ tw_154) (fun _ h9 => h9) rfl dH_count_72 ?_
              exact W.iret (v := (sG σ 0)) hx hb hr (fun t ht hW => ⟨⟨(sG σ 0), σ, rfl, hw, by rw [ht]; exact hP, va_K.moved hW.alike hK, hD⟩, hS.F ht⟩) hS.2.2 dH_count_75
            · have hw := hw.2 c10
              refine lv_tableOut (tgt := 76) hx hb dH_count_1 (by first | exact px_out6 c1 c2 c5 c6 c7 c10) (by decide) ?_
              refine lv_iconst (v := (-1)) hx hb dH_count_76 (by decide) ?_
              exact W.iret (v := (-1)) hx hb hr (fun t ht hW => ⟨⟨(-1), σ, rfl, hw, by rw [ht]; exact hP, va_K.moved hW.alike hK, hD⟩, hS.F ht⟩) hS.2.2 dH_count_77
