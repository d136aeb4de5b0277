/-! THE LIST: what its methods make of the class's cells -/
theorem px_l {α : Type} {l1 l2 : List α} {k : Nat} {q : α} (h : l1[k]? = some q) : (l1 ++ l2)[k]? = some q := by
  rw [List.getElem?_append_left (List.getElem?_eq_some_iff.mp h).1]; exact h
theorem px_e {α : Type} {l1 : List α} {q : α} : (l1 ++ [q])[l1.length + 0]? = some q := by
  rw [px_ar _ rfl]; rfl
theorem px_es {α : Type} {l1 : List α} {q q' : α} : (l1 ++ [q]).set (l1.length + 0) q' = l1 ++ [q'] := by
  rw [px_sr _ rfl]; rfl
/-- the array that a copy makes -/
def cpA (ca : Nat → ClassId) (ad : Nat → Nat → Nat) (σ : Sg) (m : Nat) : va_E := .inl (ca 3, m, .inr (.inr (.inr (.inr (va_cpy (eD ad σ) (fun _ => none) 0 0 (sC σ))))))
/-- what the list's methods ask of the cells outside: the class object, the array class, the static array that is empty -/
def eL (t0 mi : Nat) (A : Nat → Prop) (U : State) : Prop := va_Mi "[Ljava/lang/Object;" mi U ∧ va_AO "java/lang/Object" U ∧ va_Dc U ∧ va_Z "java/util/ArrayList" "DEFAULTCAPACITY_EMPTY_ELEMENTDATA" "[Ljava/lang/Object;" (.ref t0) A U U.heap ∧ va_T (.object "java/lang/Object") t0 0 (fun _ => .null) A U U.heap
theorem eL.to {t0 mi : Nat} {A B : Nat → Prop} {s U : State} {H : Heap} {locs : List Loc} (h : eL t0 mi A s) (hS : va_S A s.heap H locs) (hB : ∀ q, B q → A q) (hU : U.heap = H) (hW : s.WarmedH U.vm) : eL t0 mi B U := by
  have hk : ∀ a : Nat, a < s.heap.size → ¬ A a → U.heap[a]? = s.heap[a]? := fun a h1 h2 => by rw [hU]; exact hS.2.1 a h1 h2
  exact ⟨h.1.moved hW.alike, h.2.1.moved hW.alike, h.2.2.1.moved hW.alike, ((h.2.2.2.1.kept hk).moved hW.alike).narrow hB, ((h.2.2.2.2.kept hk).moved hW.alike).narrow hB⟩
theorem eL.blind {t0 mi : Nat} {A : Nat → Prop} {U : State} (g : JFrame) (mk : MethodId) (a : Array Value) (h : eL t0 mi A U) : eL t0 mi A (U.calling g mk a) :=
  ⟨h.1.moved (Vm.Alike.refl U.vm), h.2.1.moved (Vm.Alike.refl U.vm), h.2.2.1.moved (Vm.Alike.refl U.vm), h.2.2.2.1.moved (Vm.Alike.refl U.vm), h.2.2.2.2.moved (Vm.Alike.refl U.vm)⟩
abbrev preA (D : va_G) (ca : Nat → ClassId) (ad : Nat → Nat → Nat) (σ : Sg) (t0 mi sz : Nat) (U : State) : Prop := preX D ca ad σ sz U ∧ eL t0 mi (va_A (wX ca ad σ) sz) U
theorem pa_blind {D : va_G} {ca : Nat → ClassId} {ad : Nat → Nat → Nat} {σ : Sg} {t0 mi sz : Nat} {av : List Value} : FrameBlind (va_Pc av (preA D ca ad σ t0 mi sz)) := fun a U g mk q => by
  obtain ⟨q0, qX, qL⟩ := q
  exact ⟨q0, (px_blind (av := av) a U g mk ⟨q0, qX⟩).2, qL.blind g mk a⟩
theorem pa_pre {D : va_G} {ca : Nat → ClassId} {ad : Nat → Nat → Nat} {σ : Sg} {t0 mi : Nat} {A : Nat → Prop} {s U : State} {H : Heap} {locs : List Loc} {av : List Value} (hP : va_P D clX (wX ca ad σ) H) (hK : va_K D clX (tyA ca) s) (hD : va_D A (wX ca ad σ)) (hE : eX A s) (hL : eL t0 mi A s) (hS : va_S A s.heap H locs) (hF : ∀ q, va_A (wX ca ad σ) H.size q → A q) (hU : U.heap = H) (hW : s.WarmedH U.vm) : va_Pc av (preA D ca ad σ t0 mi H.size) av.toArray U :=
  ⟨rfl, (px_pre (av := av) hP hK hD hE hS hF hU hW).2, hL.to hS hF hU hW⟩

theorem dA7_copyOf__0 : decode cA7_copyOf_ 0 = .ok (.aload_n 2, 1) := by decide +kernel
theorem dA7_copyOf__1 : decode cA7_copyOf_ 1 = .ok (.ldc 110, 2) := by decide +kernel
theorem dA7_copyOf__3 : decode cA7_copyOf_ 3 = .ok (.if_acmp .ne 10, 3) := by decide +kernel
theorem dA7_copyOf__6 : decode cA7_copyOf_ 6 = .ok (.iload_n 1, 1) := by decide +kernel
theorem dA7_copyOf__7 : decode cA7_copyOf_ 7 = .ok (.anewarray 2, 3) := by decide +kernel
theorem dA7_copyOf__10 : decode cA7_copyOf_ 10 = .ok (.goto 14, 3) := by decide +kernel
theorem dA7_copyOf__13 : decode cA7_copyOf_ 13 = .ok (.aload_n 2, 1) := by decide +kernel
theorem dA7_copyOf__14 : decode cA7_copyOf_ 14 = .ok (.invokevirtual 90, 3) := by decide +kernel
theorem dA7_copyOf__17 : decode cA7_copyOf_ 17 = .ok (.iload_n 1, 1) := by decide +kernel
theorem dA7_copyOf__18 : decode cA7_copyOf_ 18 = .ok (.invokestatic 95, 3) := by decide +kernel
theorem dA7_copyOf__21 : decode cA7_copyOf_ 21 = .ok (.checkcast 110, 3) := by decide +kernel
theorem dA7_copyOf__24 : decode cA7_copyOf_ 24 = .ok (.astore_n 3, 1) := by decide +kernel
theorem dA7_copyOf__25 : decode cA7_copyOf_ 25 = .ok (.aload_n 0, 1) := by decide +kernel
theorem dA7_copyOf__26 : decode cA7_copyOf_ 26 = .ok (.iconst 0, 1) := by decide +kernel
theorem dA7_copyOf__27 : decode cA7_copyOf_ 27 = .ok (.aload_n 3, 1) := by decide +kernel
theorem dA7_copyOf__28 : decode cA7_copyOf_ 28 = .ok (.iconst 0, 1) := by decide +kernel
theorem dA7_copyOf__29 : decode cA7_copyOf_ 29 = .ok (.aload_n 0, 1) := by decide +kernel
theorem dA7_copyOf__30 : decode cA7_copyOf_ 30 = .ok (.arraylength, 1) := by decide +kernel
theorem dA7_copyOf__31 : decode cA7_copyOf_ 31 = .ok (.iload_n 1, 1) := by decide +kernel
theorem dA7_copyOf__32 : decode cA7_copyOf_ 32 = .ok (.invokestatic 304, 3) := by decide +kernel
theorem dA7_copyOf__35 : decode cA7_copyOf_ 35 = .ok (.invokestatic 150, 3) := by decide +kernel
theorem dA7_copyOf__38 : decode cA7_copyOf_ 38 = .ok (.aload_n 3, 1) := by decide +kernel
theorem dA7_copyOf__39 : decode cA7_copyOf_ 39 = .ok (.areturn, 1) := by decide +kernel
set_option maxHeartbeats 4000000 in
set_option maxRecDepth 100000 in
theorem c_copyOf3 (l : Launch) (D : va_G) (ca : Nat → ClassId) (ad : Nat → Nat → Nat) (σ : Sg) (t0 mi mm sz : Nat) (hc : sC σ ≠ 0) (hcm : sC σ ≤ mm) (hm : mm ≤ 3000) (hk : ∀ i, i < sC σ → ∀ j, sK σ i = some j → j < sN σ) : Met l yA7_copyOf_ wsA7_copyOf_ ({ frames := 1, cells := 1, slots := 3000, locals := 60 }) (va_Pc [.ref (ad 9 0), .int (nI mm), .ref mi] (preA D ca ad σ t0 mi sz)) (va_Qr (fun _ : Unit => True) (fun _ r t => va_P D clX (wX ca ad σ ++ [(r, cpA ca ad σ mm)]) t.heap ∧ va_K D clX (tyA ca) t ∧ va_D (va_A (wX ca ad σ) sz) (wX ca ad σ ++ [(r, cpA ca ad σ mm)])) (va_A (wX ca ad σ) sz)) 1 3000 (va_A (wX ca ad σ) sz) := by
  refine Met.ofW (cc := cA7_copyOf_) (maxL := 4) (ret := (some (.array (.object "java/lang/Object")))) (by decide) rfl ?_
  intro p e s m args below meth c s₁ B hml hv
  obtain ⟨rfl, ⟨hsz, hP, hK, hD0, hE⟩, hL⟩ := hv
  have hx := B.exec
  have hb := B.bytes
  have hr := B.returns
  have hts : ∀ w ∈ tbG, w.before _ s = true := fun w h => atoms_spec (ws := wsA7_copyOf_) B.pre w (List.mem_cons_of_mem _ h)
  have hown : s.vm.findClass RA7 = some m.cls := findClass_of_methodNamed B.named
  have hlocks := B.notSynchronized
  subst hsz
  have hD := hD0.self (sz := s.heap.size)
  generalize hAe : va_A (wX ca ad σ) s.heap.size = A at hD hE hL ⊢
  have hA : ∀ q : Nat, s.heap.size ≤ q → A q := fun q h => by rw [← hAe]; exact Or.inr h
  clear hAe
  have hS : va_S A s.heap s.heap [] := va_S.rf
  have hl := lv_entry ([.ref (ad 9 0), .int (nI mm), .ref mi]) (n := 4) (Nat.le_of_ble_eq_true rfl)
  rw [lg_entry_eq]
  generalize (lg_sl ([.ref (ad 9 0), .int (nI mm), .ref mi]) ++ List.replicate (4 - (lg_sl ([.ref (ad 9 0), .int (nI mm), .ref mi])).length) Slot.unset).toArray = ls at hl ⊢
  have hl : lv_has ls 4 [(0, .ref (ad 9 0)), (1, .int (nI mm)), (2, .ref mi)] := hl
  refine lv_aload_n hx hb dA7_copyOf__0 rfl (lv_at hl 2 rfl) ?_
  refine va_ldcM hx hb hown (hts _ tw_421) hL.1 dA7_copyOf__1 ?_
  refine lv_acmp_ne (rx := some mi) (ry := some mi) (tgt := 13) hx hb dA7_copyOf__3 (by decide) (fun c9 => absurd rfl c9) (fun _ => ?_)
  refine lv_iload_n hx hb dA7_copyOf__6 rfl (lv_at hl 1 rfl) ?_
  refine va_newq (C := "java/lang/Object") hx hb hown (hts _ tw_423) hL.2.1 hK hP hD hS hA (nI_pos (by omega)) (N' := mm) (nI_clamp (by omega)) (by omega) (Nat.le_of_ble_eq_true rfl) (by show 0 + mm ≤ 3000; omega) dA7_copyOf__7 (fun q cA H hK hP hD hS => ?_)
  have e1 : cA = ca 3 := px_ra (hK.2 4 _ rfl).2 (hK.2 3 _ rfl).2
  subst e1
  have hK := hK.sub (tys' := tyA ca) [0, 1, 2, 3] rfl
  refine W.widen (k := 1) (n := 3000) (by omega) (by omega) ?_
  refine lv_goto (tgt := 24) hx hb dA7_copyOf__10 (by decide) ?_
  refine lv_astore_n (lv' := [(3, .ref q), (0, .ref (ad 9 0)), (1, .int (nI mm)), (2, .ref mi)]) hx hb dA7_copyOf__24 rfl hl (by decide) rfl (fun ls hl => ?_)
  refine lv_aload_n hx hb dA7_copyOf__25 rfl (lv_at hl 1 rfl) ?_
  refine lv_iconst (v := 0) hx hb dA7_copyOf__26 (by decide) ?_
  refine lv_aload_n hx hb dA7_copyOf__27 rfl (lv_at hl 0 rfl) ?_
  refine lv_iconst (v := 0) hx hb dA7_copyOf__28 (by decide) ?_
  refine lv_aload_n hx hb dA7_copyOf__29 rfl (lv_at hl 1 rfl) ?_
  refine va_alen (v := nI (sC σ)) hx hb hK hP (6 + (8 + (8 + (8 + (sN σ + 0))))) 3 (px_l (gX_9 hc)) rfl rfl dA7_copyOf__30 ?_
  refine lv_iload_n hx hb dA7_copyOf__31 rfl (lv_at hl 2 rfl) ?_
  refine va_mmin hx hb (hml.trans hl.1.symm) hown (hts _ tw_424) (hts _ tw_425) (hts _ tw_16) (hts _ tw_426) (by decide) (Nat.le_of_ble_eq_true rfl) (by decide) (by decide) dA7_copyOf__32 ?_
  rw [if_neg (nI_nlt hcm (by omega))]
  refine va_copyq (C := "PatronHall$Asking") hx hb (hml.trans hl.1.symm) hown (hts _ tw_427) (hts _ tw_429) (hts _ tw_428) (hts _ tw_18) hK hP hD hS (6 + (8 + (8 + (8 + (sN σ + 0))))) ((wX ca ad σ).length + 0) 3 3 (px_l (gX_9 hc)) px_e rfl rfl (by decide) (by decide) (nI_pos (by omega)) (by rw [nI_clamp (by omega)]; show 0 + sC σ ≤ sC σ; omega) (by rw [nI_clamp (by omega)]; show 0 + sC σ ≤ mm; omega) ?_ (fun comp c0 h1 h2 => vb_asgC (hE.bad (.castable "PatronHall$Asking" "java/lang/Object") (by decide +kernel)) comp c0 h1 h2) (by decide) (by decide +kernel) dA7_copyOf__35 (fun H locs hP hD hS => ?_)
  · intro i hi y hy
    rw [nI_clamp (by omega)] at hi
    have hy2 : (sK σ (0 + i)).map (ad 10) = some y := hy
    rw [Nat.zero_add] at hy2
    obtain ⟨j, hj, rfl⟩ := Option.map_eq_some_iff.mp hy2
    exact px_recv hK hP (px_l (gX_10 (hk i hi j hj))) rfl
  · rw [px_es] at hP hD
    rw [nI_clamp (show sC σ < 2 ^ 31 by omega)] at hP hD
    have hP : va_P D clX (wX ca ad σ ++ [(q, cpA ca ad σ mm)]) H := hP
    have hD : va_D A (wX ca ad σ ++ [(q, cpA ca ad σ mm)]) := hD
    refine lv_aload_n hx hb dA7_copyOf__38 rfl (lv_at hl 0 rfl) ?_
    exact W.aret (v := .ref q) (rt := .array (.object "java/lang/Object")) hx hb hr (Or.inr ⟨_, rfl⟩) (Or.inr ⟨_, rfl⟩) (fun t ht hW => ⟨⟨(), q, rfl, trivial, by rw [ht]; exact hP, va_K.moved hW.alike hK, hD⟩, hS.F ht⟩) hS.2.2 dA7_copyOf__39

theorem dA7_copyOf_0 : decode cA7_copyOf 0 = .ok (.aload_n 0, 1) := by decide +kernel
theorem dA7_copyOf_1 : decode cA7_copyOf 1 = .ok (.iload_n 1, 1) := by decide +kernel
theorem dA7_copyOf_2 : decode cA7_copyOf 2 = .ok (.aload_n 0, 1) := by decide +kernel
theorem dA7_copyOf_3 : decode cA7_copyOf 3 = .ok (.invokevirtual 86, 3) := by decide +kernel
theorem dA7_copyOf_6 : decode cA7_copyOf 6 = .ok (.invokestatic 300, 3) := by decide +kernel
theorem dA7_copyOf_9 : decode cA7_copyOf 9 = .ok (.areturn, 1) := by decide +kernel
set_option maxHeartbeats 4000000 in
set_option maxRecDepth 100000 in
theorem c_copyOf2 (l : Launch) (D : va_G) (ca : Nat → ClassId) (ad : Nat → Nat → Nat) (σ : Sg) (t0 mi mm sz : Nat) (hc : sC σ ≠ 0) (hcm : sC σ ≤ mm) (hm : mm ≤ 3000) (hk : ∀ i, i < sC σ → ∀ j, sK σ i = some j → j < sN σ) : Met l yA7_copyOf wsA7_copyOf ({ frames := 2, cells := 1, slots := 3000, locals := 83 }) (va_Pc [.ref (ad 9 0), .int (nI mm)] (preA D ca ad σ t0 mi sz)) (va_Qr (fun _ : Unit => True) (fun _ r t => va_P D clX (wX ca ad σ ++ [(r, cpA ca ad σ mm)]) t.heap ∧ va_K D clX (tyA ca) t ∧ va_D (va_A (wX ca ad σ) sz) (wX ca ad σ ++ [(r, cpA ca ad σ mm)])) (va_A (wX ca ad σ) sz)) 1 3000 (va_A (wX ca ad σ) sz) := by
  refine Met.ofW (cc := cA7_copyOf) (maxL := 2) (ret := (some (.array (.object "java/lang/Object")))) (by decide) rfl ?_
  intro p e s m args below meth c s₁ B hml hv
  obtain ⟨rfl, ⟨hsz, hP, hK, hD0, hE⟩, hL⟩ := hv
  have hx := B.exec
  have hb := B.bytes
  have hr := B.returns
  have hts : ∀ w ∈ tbG, w.before _ s = true := fun w h => atoms_spec (ws := wsA7_copyOf) B.pre w (List.mem_cons_of_mem _ h)
  have hown : s.vm.findClass RA7 = some m.cls := findClass_of_methodNamed B.named
  have hlocks := B.notSynchronized
  subst hsz
  have hD := hD0.self (sz := s.heap.size)
  generalize hAe : va_A (wX ca ad σ) s.heap.size = A at hD hE hL ⊢
  have hA : ∀ q : Nat, s.heap.size ≤ q → A q := fun q h => by rw [← hAe]; exact Or.inr h
  clear hAe
  have hS : va_S A s.heap s.heap [] := va_S.rf
  have hl := lv_entry ([.ref (ad 9 0), .int (nI mm)]) (n := 2) (Nat.le_of_ble_eq_true rfl)
  rw [lg_entry_eq]
  generalize (lg_sl ([.ref (ad 9 0), .int (nI mm)]) ++ List.replicate (2 - (lg_sl ([.ref (ad 9 0), .int (nI mm)])).length) Slot.unset).toArray = ls at hl ⊢
  have hl : lv_has ls 2 [(0, .ref (ad 9 0)), (1, .int (nI mm))] := hl
  refine lv_aload_n hx hb dA7_copyOf_0 rfl (lv_at hl 0 rfl) ?_
  refine lv_iload_n hx hb dA7_copyOf_1 rfl (lv_at hl 1 rfl) ?_
  refine lv_aload_n hx hb dA7_copyOf_2 rfl (lv_at hl 0 rfl) ?_
  refine va_getC (C := "[Ljava/lang/Object;") hx hb (hml.trans hl.1.symm) hown (hts _ tw_405) hL.2.2.1.use (hts _ tw_771) (hts _ tw_406) (hts _ tw_417) hL.1 ⟨_, hP _ _ (gX_9 hc), rfl, va_nmO (hK.2 3 _ rfl).2 (by decide)⟩ (by decide) (Nat.le_of_ble_eq_true rfl) dA7_copyOf_3 ?_
  have hFc := px_free hD hS hA
  refine va_callr (va_runS (As := [.ref (ad 9 0), .int (nI mm), .ref mi]) (rest := []) ⟨hx, hb, hml, hown, hts⟩ (c_copyOf3 l D ca ad σ t0 mi mm _ hc hcm hm hk) (va_cwS 3 hts (gS tw_418 tw_419 tw_17 tw_420) rfl rfl rfl (by decide +kernel) ⟨Nat.le_of_ble_eq_true rfl, Nat.le_of_ble_eq_true rfl⟩) ⟨pa_blind, fun U hU hW => pa_pre hP hK hD hE hL hS hFc hU hW⟩ rfl rfl hl.1 rfl (lv_room (Nat.le_of_ble_eq_true rfl)) dA7_copyOf_6 ⟨Nat.le_of_ble_eq_true rfl, Nat.le_of_ble_eq_true rfl⟩) hS (fun q _ h => hFc q h) hFc (fun u q t H locs ht hvm hw hB _ _ hS => ?_)
  obtain ⟨hP, -, hD⟩ := hB
  rw [ht] at hP
  have hD := hD.weaken (fun _ _ _ h9 => hFc _ h9)
  refine W.widen (k := 1) (n := 3000) (Nat.le_of_ble_eq_true rfl) (Nat.le_of_ble_eq_true rfl) ?_
  exact W.aret (v := .ref q) (rt := .array (.object "java/lang/Object")) hx hb hr (Or.inr ⟨_, rfl⟩) (Or.inr ⟨_, rfl⟩) (fun t ht hW => ⟨⟨(), q, rfl, trivial, by rw [ht]; exact hP, va_K.moved hW.alike hK, hD⟩, hS.F ht⟩) hS.2.2 dA7_copyOf_9

theorem dA8_newLength_0 : decode cA8_newLength 0 = .ok (.iload_n 0, 1) := by decide +kernel
theorem dA8_newLength_1 : decode cA8_newLength 1 = .ok (.iload_n 1, 1) := by decide +kernel
theorem dA8_newLength_2 : decode cA8_newLength 2 = .ok (.iload_n 2, 1) := by decide +kernel
theorem dA8_newLength_3 : decode cA8_newLength 3 = .ok (.invokestatic 194, 3) := by decide +kernel
theorem dA8_newLength_6 : decode cA8_newLength 6 = .ok (.iadd, 1) := by decide +kernel
theorem dA8_newLength_7 : decode cA8_newLength 7 = .ok (.istore_n 3, 1) := by decide +kernel
theorem dA8_newLength_8 : decode cA8_newLength 8 = .ok (.iconst 0, 1) := by decide +kernel
theorem dA8_newLength_9 : decode cA8_newLength 9 = .ok (.iload_n 3, 1) := by decide +kernel
theorem dA8_newLength_10 : decode cA8_newLength 10 = .ok (.if_icmp .ge 11, 3) := by decide +kernel
theorem dA8_newLength_13 : decode cA8_newLength 13 = .ok (.iload_n 3, 1) := by decide +kernel
theorem dA8_newLength_14 : decode cA8_newLength 14 = .ok (.ldc 200, 2) := by decide +kernel
theorem dA8_newLength_16 : decode cA8_newLength 16 = .ok (.if_icmp .gt 5, 3) := by decide +kernel
theorem dA8_newLength_19 : decode cA8_newLength 19 = .ok (.iload_n 3, 1) := by decide +kernel
theorem dA8_newLength_20 : decode cA8_newLength 20 = .ok (.ireturn, 1) := by decide +kernel
theorem dA8_newLength_21 : decode cA8_newLength 21 = .ok (.iload_n 0, 1) := by decide +kernel
theorem dA8_newLength_22 : decode cA8_newLength 22 = .ok (.iload_n 1, 1) := by decide +kernel
theorem dA8_newLength_23 : decode cA8_newLength 23 = .ok (.invokestatic 201, 3) := by decide +kernel
theorem dA8_newLength_26 : decode cA8_newLength 26 = .ok (.ireturn, 1) := by decide +kernel
def wp_newLength (post : Int32 → Sg → Prop) (σ : Sg) (a0 : Int32) (a1 : Int32) (a2 : Int32) : Prop := ((((a0 + (if a1 < a2 then a2 else a1)) ≤ 0) → False) ∧ (¬ ((a0 + (if a1 < a2 then a2 else a1)) ≤ 0) → (((2147483639 < (a0 + (if a1 < a2 then a2 else a1))) → False) ∧ (¬ (2147483639 < (a0 + (if a1 < a2 then a2 else a1))) → post (a0 + (if a1 < a2 then a2 else a1)) σ))))
set_option maxHeartbeats 4000000 in
set_option maxRecDepth 100000 in
theorem c_newLength (l : Launch) (D : va_G) (ca : Nat → ClassId) (ad : Nat → Nat → Nat) (σ : Sg) (a0 : Int32) (a1 : Int32) (a2 : Int32) (sz : Nat) (post : Int32 → Sg → Prop) (hw : wp_newLength post σ a0 a1 a2) : Met l yA8_newLength wsA8_newLength ({ frames := 1, cells := 0, slots := 0, locals := 21 }) (va_Pc [.int a0, .int a1, .int a2] (preX D ca ad σ sz)) (va_Qi post (atX D ca ad (va_A (wX ca ad σ) sz)) (va_A (wX ca ad σ) sz)) 0 0 (va_A (wX ca ad σ) sz) := by
  refine Met.ofW (cc := cA8_newLength) (maxL := 4) (ret := (some .int)) (by decide) rfl ?_
  intro p e s m args below meth c s₁ B hml hv
  obtain ⟨rfl, hsz, hP, hK, hD0, hE⟩ := hv
  have hx := B.exec
  have hb := B.bytes
  have hr := B.returns
  have hts : ∀ w ∈ tbG, w.before _ s = true := fun w h => atoms_spec (ws := wsA8_newLength) B.pre w (List.mem_cons_of_mem _ h)
  have hown : s.vm.findClass RA8 = some m.cls := findClass_of_methodNamed B.named
  have hlocks := B.notSynchronized
  subst hsz
  have hD := hD0.self (sz := s.heap.size)
  generalize hAe : va_A (wX ca ad σ) s.heap.size = A at hD hE ⊢
  have hA : ∀ q : Nat, s.heap.size ≤ q → A q := fun q h => by rw [← hAe]; exact Or.inr h
  clear hAe
  have hS : va_S A s.heap s.heap [] := va_S.rf
  have hl := lv_entry ([.int a0, .int a1, .int a2]) (n := 4) (Nat.le_of_ble_eq_true rfl)
  rw [lg_entry_eq]
  generalize (lg_sl ([.int a0, .int a1, .int a2]) ++ List.replicate (4 - (lg_sl ([.int a0, .int a1, .int a2])).length) Slot.unset).toArray = ls at hl ⊢
  have hl : lv_has ls 4 [(0, .int a0), (1, .int a1), (2, .int a2)] := hl
  unfold wp_newLength at hw
  have hP : va_P D clX (wX ca ad σ) s.heap := hP
  refine lv_iload_n hx hb dA8_newLength_0 rfl (lv_at hl 0 rfl) ?_
  refine lv_iload_n hx hb dA8_newLength_1 rfl (lv_at hl 1 rfl) ?_
  refine lv_iload_n hx hb dA8_newLength_2 rfl (lv_at hl 2 rfl) ?_
  refine va_mmax hx hb (hml.trans hl.1.symm) hown (hts _ tw_395) (hts _ tw_396) (hts _ tw_16) (hts _ tw_397) (by decide) (Nat.le_of_ble_eq_true rfl) (by decide) (by decide) dA8_newLength_3 ?_
  refine lv_iadd hx hb dA8_newLength_6 ?_
  refine lv_istore_n (lv' := [(3, .int (a0 + (if a1 < a2 then a2 else a1))), (0, .int a0), (1, .int a1), (2, .int a2)]) hx hb dA8_newLength_7 rfl hl (by decide) rfl (fun ls hl => ?_)
  refine lv_iconst (v := 0) hx hb dA8_newLength_8 (by decide) ?_
  refine lv_iload_n hx hb dA8_newLength_9 rfl (lv_at hl 0 rfl) ?_
  refine lv_icmp_ge (tgt := 21) hx hb dA8_newLength_10 (by decide) (fun c1 => ?_) (fun c1 => ?_)
  · have hw := hw.1 c1
    exact hw.elim
  · have hw := hw.2 c1
    refine lv_iload_n hx hb dA8_newLength_13 rfl (lv_at hl 0 rfl) ?_
    refine lv_ldc (own := RA8) (index := 200) (v := 2147483639) hx hb hown (hts _ tw_398) dA8_newLength_14 ?_
    refine lv_icmp_gt (tgt := 21) hx hb dA8_newLength_16 (by decide) (fun c2 => ?_) (fun c2 => ?_)
    · have hw := hw.1 c2
      exact hw.elim
    · have hw := hw.2 c2
      refine lv_iload_n hx hb dA8_newLength_19 rfl (lv_at hl 0 rfl) ?_
      exact W.iret (v := (a0 + (if a1 < a2 then a2 else a1))) hx hb hr (fun t ht hW => ⟨⟨(a0 + (if a1 < a2 then a2 else a1)), σ, rfl, hw, by rw [ht]; exact hP, va_K.moved hW.alike hK, hD⟩, hS.F ht⟩) hS.2.2 dA8_newLength_20
/-- how many places a list of c has when it grows -/
def grM (c : Nat) : Nat := if c = 0 then 10 else c + (if 1 < c / 2 then c / 2 else 1)
theorem grM_lt (c : Nat) : c < grM c := by unfold grM; split <;> (try split) <;> omega
theorem grM_le {c : Nat} (h : c ≤ 1900) : grM c ≤ 3000 := by unfold grM; split <;> (try split) <;> omega
/-- the state with the list's array of m places -/
def gC (m : Nat) (σ : Sg) : Sg := uC m (uK (va_cpy (sK σ) (fun _ => none) 0 0 (sC σ)) σ)
theorem px_Dby {A : Nat → Prop} {ws ws' : va_W} (hD : va_D A ws) (g : Nat → Nat) (hg : ∀ (k : Nat) (q : Nat × va_E), ws'[k]? = some q → ws[g k]? = some q) (hi : ∀ i j, i < ws'.length → j < ws'.length → g i = g j → i = j) : va_D A ws' :=
  ⟨fun i j p q h1 h2 e => hi i j (List.getElem?_eq_some_iff.mp h1).1 (List.getElem?_eq_some_iff.mp h2).1 (hD.1 (g i) (g j) p q (hg i p h1) (hg j q h2) e), fun k q h => hD.2 (g k) q (hg k q h)⟩
theorem px_dg {Y E Z : va_W} (k : Nat) (q : Nat × va_E) (h : (Y ++ Z)[k]? = some q) : ((Y ++ E) ++ Z)[if k < Y.length then k else k + E.length]? = some q := by
  by_cases c : k < Y.length
  · rw [if_pos c, List.append_assoc, List.getElem?_append_left c]
    rw [List.getElem?_append_left c] at h
    exact h
  · rw [if_neg c, List.getElem?_append_right (by rw [List.length_append]; omega)]
    rw [List.getElem?_append_right (by omega)] at h
    rw [List.length_append, show k + E.length - (Y.length + E.length) = k - Y.length by omega]
    exact h
theorem px_dP {D : va_G} {cl : List vw_C} {Y E Z : va_W} {H : Heap} (h : va_P D cl ((Y ++ E) ++ Z) H) : va_P D cl (Y ++ Z) H := va_P.by h _ px_dg
theorem px_dD {A : Nat → Prop} {Y E Z : va_W} (h : va_D A ((Y ++ E) ++ Z)) : va_D A (Y ++ Z) := px_Dby h _ px_dg (fun i j _ _ e => by
  by_cases a : i < Y.length <;> by_cases b : j < Y.length <;> simp only [a, b, if_true, if_false] at e <;> omega)
theorem eD_gC {ad : Nat → Nat → Nat} {σ : Sg} {r m : Nat} : eD (up2 ad 9 0 r) (gC m σ) = va_cpy (eD ad σ) (fun _ => none) 0 0 (sC σ) := by
  funext j
  show (va_cpy (sK σ) (fun _ => none) 0 0 (sC σ) j).map (ad 10) = _
  by_cases c : j < sC σ
  · rw [pk_cpy_in (Nat.zero_le _) (by omega), pk_cpy_in (Nat.zero_le _) (by omega)]
    rfl
  · rw [pk_cpy_out (by omega), pk_cpy_out (by omega)]
    rfl
/-- the class's cells but the list's array, the list's own cell with r -/
def wY (ca : Nat → ClassId) (ad : Nat → Nat → Nat) (σ : Sg) (r : Nat) : va_W := (w0 ca ad σ).set 2 (ad 2 0, .inr (4, (fL ad σ).set 1 (.ref r))) ++ (w6 ad σ ++ (w7 ca ad σ ++ (w8 ca ad σ ++ wQ ad σ)))
theorem wX_grown {ca : Nat → ClassId} {ad : Nat → Nat → Nat} {σ : Sg} {r m : Nat} (hm : m ≠ 0) : wX ca (up2 ad 9 0 r) (gC m σ) = wY ca ad σ r ++ [(r, cpA ca ad σ m)] := by
  have e : wE ca (up2 ad 9 0 r) (gC m σ) = [(r, cpA ca ad σ m)] := by
    unfold wE
    rw [if_neg (show ¬ sC (gC m σ) = 0 from hm), eD_gC]
    rfl
  unfold wX
  rw [e]
  simp only [wY, List.append_assoc]
  rfl
theorem wX_put {ca : Nat → ClassId} {ad : Nat → Nat → Nat} {σ : Sg} {r : Nat} {x : Nat × va_E} : (wX ca ad σ ++ [x]).set 2 (ad 2 0, .inr (4, (fL ad σ).set 1 (.ref r))) = (wY ca ad σ r ++ wE ca ad σ) ++ [x] := by
  unfold wX wY
  rw [px_sl (by simp [w0])]
  rw [px_sl (by simp [w0])]
  simp only [List.append_assoc]

theorem dL_grow__0 : decode cL_grow_ 0 = .ok (.aload_n 0, 1) := by decide +kernel
theorem dL_grow__1 : decode cL_grow_ 1 = .ok (.getfield 9, 3) := by decide +kernel
theorem dL_grow__4 : decode cL_grow_ 4 = .ok (.arraylength, 1) := by decide +kernel
theorem dL_grow__5 : decode cL_grow_ 5 = .ok (.istore_n 2, 1) := by decide +kernel
theorem dL_grow__6 : decode cL_grow_ 6 = .ok (.iload_n 2, 1) := by decide +kernel
theorem dL_grow__7 : decode cL_grow_ 7 = .ok (.ifCond .gt 13, 3) := by decide +kernel
theorem dL_grow__10 : decode cL_grow_ 10 = .ok (.aload_n 0, 1) := by decide +kernel
theorem dL_grow__11 : decode cL_grow_ 11 = .ok (.getfield 9, 3) := by decide +kernel
theorem dL_grow__14 : decode cL_grow_ 14 = .ok (.getstatic 39, 3) := by decide +kernel
theorem dL_grow__17 : decode cL_grow_ 17 = .ok (.if_acmp .eq 28, 3) := by decide +kernel
theorem dL_grow__20 : decode cL_grow_ 20 = .ok (.iload_n 2, 1) := by decide +kernel
theorem dL_grow__21 : decode cL_grow_ 21 = .ok (.iload_n 1, 1) := by decide +kernel
theorem dL_grow__22 : decode cL_grow_ 22 = .ok (.iload_n 2, 1) := by decide +kernel
theorem dL_grow__23 : decode cL_grow_ 23 = .ok (.isub, 1) := by decide +kernel
theorem dL_grow__24 : decode cL_grow_ 24 = .ok (.iload_n 2, 1) := by decide +kernel
theorem dL_grow__25 : decode cL_grow_ 25 = .ok (.iconst 1, 1) := by decide +kernel
theorem dL_grow__26 : decode cL_grow_ 26 = .ok (.ishr, 1) := by decide +kernel
theorem dL_grow__27 : decode cL_grow_ 27 = .ok (.invokestatic 73, 3) := by decide +kernel
theorem dL_grow__30 : decode cL_grow_ 30 = .ok (.istore_n 3, 1) := by decide +kernel
theorem dL_grow__31 : decode cL_grow_ 31 = .ok (.aload_n 0, 1) := by decide +kernel
theorem dL_grow__32 : decode cL_grow_ 32 = .ok (.aload_n 0, 1) := by decide +kernel
theorem dL_grow__33 : decode cL_grow_ 33 = .ok (.getfield 9, 3) := by decide +kernel
theorem dL_grow__36 : decode cL_grow_ 36 = .ok (.iload_n 3, 1) := by decide +kernel
theorem dL_grow__37 : decode cL_grow_ 37 = .ok (.invokestatic 66, 3) := by decide +kernel
theorem dL_grow__40 : decode cL_grow_ 40 = .ok (.dup_x1, 1) := by decide +kernel
theorem dL_grow__41 : decode cL_grow_ 41 = .ok (.putfield 9, 3) := by decide +kernel
theorem dL_grow__44 : decode cL_grow_ 44 = .ok (.areturn, 1) := by decide +kernel
theorem dL_grow__45 : decode cL_grow_ 45 = .ok (.aload_n 0, 1) := by decide +kernel
theorem dL_grow__46 : decode cL_grow_ 46 = .ok (.bipush 10, 2) := by decide +kernel
theorem dL_grow__48 : decode cL_grow_ 48 = .ok (.iload_n 1, 1) := by decide +kernel
theorem dL_grow__49 : decode cL_grow_ 49 = .ok (.invokestatic 79, 3) := by decide +kernel
theorem dL_grow__52 : decode cL_grow_ 52 = .ok (.anewarray 7, 3) := by decide +kernel
theorem dL_grow__55 : decode cL_grow_ 55 = .ok (.dup_x1, 1) := by decide +kernel
theorem dL_grow__56 : decode cL_grow_ 56 = .ok (.putfield 9, 3) := by decide +kernel
theorem dL_grow__59 : decode cL_grow_ 59 = .ok (.areturn, 1) := by decide +kernel
theorem dL_grow_0 : decode cL_grow 0 = .ok (.aload_n 0, 1) := by decide +kernel
theorem dL_grow_1 : decode cL_grow 1 = .ok (.aload_n 0, 1) := by decide +kernel
theorem dL_grow_2 : decode cL_grow 2 = .ok (.getfield 48, 3) := by decide +kernel
theorem dL_grow_5 : decode cL_grow 5 = .ok (.iconst 1, 1) := by decide +kernel
theorem dL_grow_6 : decode cL_grow 6 = .ok (.iadd, 1) := by decide +kernel
theorem dL_grow_7 : decode cL_grow 7 = .ok (.invokevirtual 69, 3) := by decide +kernel
theorem dL_grow_10 : decode cL_grow 10 = .ok (.areturn, 1) := by decide +kernel
set_option maxHeartbeats 4000000 in
set_option maxRecDepth 100000 in
theorem c_grow1 (l : Launch) (D : va_G) (ca : Nat → ClassId) (ad : Nat → Nat → Nat) (σ : Sg) (t0 mi sz : Nat) (h9 : sC σ = 0 → ad 9 0 = t0) (hc9 : sC σ ≤ 1900) (hk : ∀ i, i < sC σ → ∀ j, sK σ i = some j → j < sN σ) : Met l yL_grow_ wsL_grow_ ({ frames := 3, cells := 1, slots := 3000, locals := 104 }) (va_Pc [.ref (ad 2 0), .int (nI (sC σ + 1))] (preA D ca ad σ t0 mi sz)) (va_Qr (fun _ : Nat => True) (fun r a t => a = r ∧ va_P D clX (wX ca (up2 ad 9 0 r) (gC (grM (sC σ)) σ)) t.heap ∧ va_K D clX (tyA ca) t ∧ va_D (va_A (wX ca ad σ) sz) (wX ca (up2 ad 9 0 r) (gC (grM (sC σ)) σ))) (va_A (wX ca ad σ) sz)) 1 3000 (va_A (wX ca ad σ) sz) := by
  refine Met.ofW (cc := cL_grow_) (maxL := 4) (ret := (some (.array (.object "java/lang/Object")))) (by decide) rfl ?_
  intro p e s m args below meth c s₁ B hml hv
  obtain ⟨rfl, ⟨hsz, hP, hK, hD0, hE⟩, hL⟩ := hv
  have hx := B.exec
  have hb := B.bytes
  have hr := B.returns
  have hts : ∀ w ∈ tbG, w.before _ s = true := fun w h => atoms_spec (ws := wsL_grow_) B.pre w (List.mem_cons_of_mem _ h)
  have hown : s.vm.findClass RL = some m.cls := findClass_of_methodNamed B.named
  have hlocks := B.notSynchronized
  subst hsz
  have hD := hD0.self (sz := s.heap.size)
  generalize hAe : va_A (wX ca ad σ) s.heap.size = A at hD hE hL ⊢
  have hA : ∀ q : Nat, s.heap.size ≤ q → A q := fun q h => by rw [← hAe]; exact Or.inr h
  clear hAe
  have hS : va_S A s.heap s.heap [] := va_S.rf
  have hl := lv_entry ([.ref (ad 2 0), .int (nI (sC σ + 1))]) (n := 4) (Nat.le_of_ble_eq_true rfl)
  rw [lg_entry_eq]
  generalize (lg_sl ([.ref (ad 2 0), .int (nI (sC σ + 1))]) ++ List.replicate (4 - (lg_sl ([.ref (ad 2 0), .int (nI (sC σ + 1))])).length) Slot.unset).toArray = ls at hl ⊢
  have hl : lv_has ls 4 [(0, .ref (ad 2 0)), (1, .int (nI (sC σ + 1)))] := hl
  refine lv_aload_n hx hb dL_grow__0 rfl (lv_at hl 0 rfl) ?_
  refine va_get (D := D) (ci := 4) (v := .ref (ad 9 0)) (C := RL) (T := TL) (N := 3) hx hb hts inL hown hK hP 2 gX_2 rfl 1 (by decide) (hts _ tw_45) (fun _ h9 => h9) rfl dL_grow__1 ?_
  by_cases hc : sC σ = 0
  · have e9 := h9 hc
    rw [e9]
    refine va_tlen (v := 0) hx hb hL.2.2.2.2 hS rfl dL_grow__4 ?_
    refine lv_istore_n (lv' := [(2, .int 0), (0, .ref (ad 2 0)), (1, .int (nI (sC σ + 1)))]) hx hb dL_grow__5 rfl hl (by decide) rfl (fun ls hl => ?_)
    refine lv_iload_n hx hb dL_grow__6 rfl (lv_at hl 0 rfl) ?_
    refine lv_if_gt (tgt := 20) hx hb dL_grow__7 (by decide) (fun c9 => absurd c9 (by decide)) (fun _ => ?_)
    refine lv_aload_n hx hb dL_grow__10 rfl (lv_at hl 1 rfl) ?_
    refine va_get (D := D) (ci := 4) (v := .ref (ad 9 0)) (C := RL) (T := TL) (N := 3) hx hb hts inL hown hK hP 2 gX_2 rfl 1 (by decide) (hts _ tw_45) (fun _ h9 => h9) rfl dL_grow__11 ?_
    rw [e9]
    refine va_gets (v := .ref t0) hx hb hL.2.2.2.1 hS hown (hts _ tw_43) (fun _ h9 => h9) dL_grow__14 ?_
    refine lv_acmp_eq (rx := some t0) (ry := some t0) (tgt := 45) hx hb dL_grow__17 (by decide) (fun _ => ?_) (fun c9 => absurd rfl c9)
    refine lv_aload_n hx hb dL_grow__45 rfl (lv_at hl 1 rfl) ?_
    refine lv_bipush (v := 10) hx hb dL_grow__46 (by decide) ?_
    refine lv_iload_n hx hb dL_grow__48 rfl (lv_at hl 2 rfl) ?_
    refine va_mmax hx hb (hml.trans hl.1.symm) hown (hts _ tw_430) (hts _ tw_396) (hts _ tw_16) (hts _ tw_397) (by decide) (Nat.le_of_ble_eq_true rfl) (by decide) (by decide) dL_grow__49 ?_
    rw [if_neg (show ¬ (10 : Int32) < nI (sC σ + 1) by rw [hc]; decide)]
    refine va_newq (C := "java/lang/Object") hx hb hown (hts _ tw_431) hL.2.1 hK hP hD hS hA (by decide) (N' := 10) (by decide) (by decide) (Nat.le_of_ble_eq_true rfl) (Nat.le_of_ble_eq_true rfl) dL_grow__52 (fun q cA H hK hP hD hS => ?_)
    have e1 : cA = ca 3 := px_ra (hK.2 4 _ rfl).2 (hK.2 3 _ rfl).2
    subst e1
    have hK := hK.sub (tys' := tyA ca) [0, 1, 2, 3] rfl
    have e2 : (.inl (ca 3, 10, .inr (.inr (.inr (.inr (fun _ => none))))) : va_E) = cpA ca ad σ (grM (sC σ)) := by
      unfold cpA grM
      rw [if_pos hc, hc]
      have e3 : (fun _ => none : Nat → Option Nat) = va_cpy (eD ad σ) (fun _ => none) 0 0 0 := by
        funext j
        rw [pk_cpy_out (by omega)]
      rw [← e3]
    rw [e2] at hP hD
    refine W.widen (k := 1) (n := 3000) (Nat.le_of_ble_eq_true rfl) (Nat.le_of_ble_eq_true rfl) ?_
    refine lv_dup_x1 hx hb dL_grow__55 rfl rfl ?_
    refine va_put (D := D) (ci := 4) (v := .ref q) (ty := .array (.object "java/lang/Object")) (C := RL) (T := TL) (N := 3) hx hb hts inL tyL tyL_ok nmL hown hK hP hD hS 2 (px_l gX_2) rfl 1 (by decide) (hts _ tw_45) (fun _ h9 => h9) rfl (by decide +kernel) rfl rfl (Nat.le_of_ble_eq_true rfl) dL_grow__56 (fun H locs hP hD hS => ?_)
    rw [wX_put] at hP hD
    have hP := px_dP hP
    have hD := px_dD hD
    rw [← wX_grown (by unfold grM; split <;> (try split) <;> omega)] at hP hD
    refine W.widen (k := 1) (n := 3000) (Nat.le_of_ble_eq_true rfl) (Nat.le_of_ble_eq_true rfl) ?_
    exact W.aret (v := .ref q) (rt := .array (.object "java/lang/Object")) hx hb hr (Or.inr ⟨_, rfl⟩) (Or.inr ⟨_, rfl⟩) (fun t ht hW => ⟨⟨q, q, rfl, trivial, rfl, by rw [ht]; exact hP, va_K.moved hW.alike hK, hD⟩, hS.F ht⟩) hS.2.2 dL_grow__59
  · have hpos : 0 < sC σ := Nat.pos_of_ne_zero hc
    refine va_alen (v := nI (sC σ)) hx hb hK hP (6 + (8 + (8 + (8 + (sN σ + 0))))) 3 (gX_9 hc) rfl rfl dL_grow__4 ?_
    refine lv_istore_n (lv' := [(2, .int (nI (sC σ))), (0, .ref (ad 2 0)), (1, .int (nI (sC σ + 1)))]) hx hb dL_grow__5 rfl hl (by decide) rfl (fun ls hl => ?_)
    refine lv_iload_n hx hb dL_grow__6 rfl (lv_at hl 0 rfl) ?_
    refine lv_if_gt (tgt := 20) hx hb dL_grow__7 (by decide) (fun _ => ?_) (fun c9 => absurd (nI_lt (a := 0) hpos (by omega)) c9)
    refine lv_iload_n hx hb dL_grow__20 rfl (lv_at hl 0 rfl) ?_
    refine lv_iload_n hx hb dL_grow__21 rfl (lv_at hl 2 rfl) ?_
    refine lv_iload_n hx hb dL_grow__22 rfl (lv_at hl 0 rfl) ?_
    refine lv_isub hx hb dL_grow__23 ?_
    refine lv_iload_n hx hb dL_grow__24 rfl (lv_at hl 0 rfl) ?_
    refine lv_iconst (v := 1) hx hb dL_grow__25 (by decide) ?_
    refine lv_ishr hx hb dL_grow__26 ?_
    have e1 : nI (sC σ + 1) - nI (sC σ) = nI 1 := by
      have k := pk_sub (a := sC σ + 1) (b := sC σ) (by omega)
      rw [Nat.add_sub_cancel_left] at k
      exact k
    have e2 : nI (sC σ) >>> ((1 : Int32) &&& 31) = nI (sC σ / 2) := by
      have k := pk_shrN (n := sC σ) (by omega) ((1 : Int32) &&& 31) 1 (by decide)
      rw [Nat.pow_one] at k
      exact k
    rw [e1, e2]
    have e3 : nI (sC σ) + (if nI 1 < nI (sC σ / 2) then nI (sC σ / 2) else nI 1) = nI (grM (sC σ)) := by
      unfold grM
      rw [if_neg hc]
      by_cases c : 1 < sC σ / 2
      · rw [if_pos (nI_lt c (by omega)), if_pos c]
        exact nI_add _ _
      · rw [if_neg (nI_nlt (by omega) (by decide)), if_neg c]
        exact nI_add _ _
    have hgm : grM (sC σ) ≤ 3000 := grM_le hc9
    have hgp : 0 < grM (sC σ) := Nat.lt_of_le_of_lt (Nat.zero_le _) (grM_lt (sC σ))
    have hFc := px_free hD hS hA
    have hwn : wp_newLength (fun r u => r = nI (grM (sC σ)) ∧ u = σ) σ (nI (sC σ)) (nI 1) (nI (sC σ / 2)) := by
      unfold wp_newLength
      rw [e3]
      first
        | exact ⟨fun c => absurd (nI_lt (a := 0) hgp (by omega)) (by intro q; exact absurd c (nI_ge hgp (by omega))), fun _ => ⟨fun c => absurd c (nI_nlt (a := 2147483639) (by omega) (by decide)), fun _ => ⟨rfl, rfl⟩⟩⟩
        | exact ⟨fun c => absurd c (nI_ge hgp (by omega)), fun _ => ⟨fun c => absurd c (nI_nlt (a := 2147483639) (by omega) (by decide)), fun _ => ⟨rfl, rfl⟩⟩⟩
    refine va_calli (va_runS (As := [.int (nI (sC σ)), .int (nI 1), .int (nI (sC σ / 2))]) (rest := []) ⟨hx, hb, hml, hown, hts⟩ (c_newLength l D ca ad σ (nI (sC σ)) (nI 1) (nI (sC σ / 2)) _ _ hwn) (va_cwS 3 hts (gS tw_392 tw_393 tw_15 tw_394) rfl rfl rfl (by decide +kernel) ⟨Nat.le_of_ble_eq_true rfl, Nat.le_of_ble_eq_true rfl⟩) ⟨px_blind, fun U hU hW => px_pre hP hK hD hE hS hFc hU hW⟩ rfl rfl hl.1 rfl (lv_room (Nat.le_of_ble_eq_true rfl)) dL_grow__27 ⟨Nat.le_of_ble_eq_true rfl, Nat.le_of_ble_eq_true rfl⟩) hS (fun q _ h => hFc q h) hFc (fun r u t H locs ht hvm hw hB _ _ hS => ?_)
    obtain ⟨er, eu⟩ := hw
    rw [er]
    obtain ⟨hP, -, hD⟩ := hB
    rw [ht] at hP
    rw [eu] at hP hD
    have hD := hD.weaken (fun _ _ _ h9 => hFc _ h9)
    refine lv_istore_n (lv' := [(3, .int (nI (grM (sC σ)))), (2, .int (nI (sC σ))), (0, .ref (ad 2 0)), (1, .int (nI (sC σ + 1)))]) hx hb dL_grow__30 rfl hl (by decide) rfl (fun ls hl => ?_)
    refine lv_aload_n hx hb dL_grow__31 rfl (lv_at hl 2 rfl) ?_
    refine lv_aload_n hx hb dL_grow__32 rfl (lv_at hl 2 rfl) ?_
    refine va_get (D := D) (ci := 4) (v := .ref (ad 9 0)) (C := RL) (T := TL) (N := 3) hx hb hts inL hown hK hP 2 gX_2 rfl 1 (by decide) (hts _ tw_45) (fun _ h9 => h9) rfl dL_grow__33 ?_
    refine lv_iload_n hx hb dL_grow__36 rfl (lv_at hl 0 rfl) ?_
    have hFc := px_free hD hS hA
    refine va_callr (va_runS (As := [.ref (ad 9 0), .int (nI (grM (sC σ)))]) (rest := [.ref (ad 2 0)]) ⟨hx, hb, hml, hown, hts⟩ (c_copyOf2 l D ca ad σ t0 mi (grM (sC σ)) _ hc (Nat.le_of_lt (grM_lt _)) hgm hk) (va_cwS 2 hts (gS tw_402 tw_403 tw_17 tw_404) rfl rfl rfl (by decide +kernel) ⟨Nat.le_of_ble_eq_true rfl, Nat.le_of_ble_eq_true rfl⟩) ⟨pa_blind, fun U hU hW => pa_pre hP hK hD hE hL hS hFc hU hW⟩ rfl rfl hl.1 rfl (lv_room (Nat.le_of_ble_eq_true rfl)) dL_grow__37 ⟨Nat.le_of_ble_eq_true rfl, Nat.le_of_ble_eq_true rfl⟩) hS (fun q _ h => hFc q h) hFc (fun u q t H locs ht hvm hw hB _ _ hS => ?_)
    obtain ⟨hP, -, hD⟩ := hB
    rw [ht] at hP
    have hD := hD.weaken (fun _ _ _ h9 => hFc _ h9)
    refine W.widen (k := 1) (n := 3000) (Nat.le_of_ble_eq_true rfl) (Nat.le_of_ble_eq_true rfl) ?_
    refine lv_dup_x1 hx hb dL_grow__40 rfl rfl ?_
    refine va_put (D := D) (ci := 4) (v := .ref q) (ty := .array (.object "java/lang/Object")) (C := RL) (T := TL) (N := 3) hx hb hts inL tyL tyL_ok nmL hown hK hP hD hS 2 (px_l gX_2) rfl 1 (by decide) (hts _ tw_45) (fun _ h9 => h9) rfl (by decide +kernel) rfl rfl (Nat.le_of_ble_eq_true rfl) dL_grow__41 (fun H locs hP hD hS => ?_)
    rw [wX_put] at hP hD
    have hP := px_dP hP
    have hD := px_dD hD
    rw [← wX_grown (by unfold grM; split <;> (try split) <;> omega)] at hP hD
    refine W.widen (k := 1) (n := 3000) (Nat.le_of_ble_eq_true rfl) (Nat.le_of_ble_eq_true rfl) ?_
    exact W.aret (v := .ref q) (rt := .array (.object "java/lang/Object")) hx hb hr (Or.inr ⟨_, rfl⟩) (Or.inr ⟨_, rfl⟩) (fun t ht hW => ⟨⟨q, q, rfl, trivial, rfl, by rw [ht]; exact hP, va_K.moved hW.alike hK, hD⟩, hS.F ht⟩) hS.2.2 dL_grow__44

set_option maxHeartbeats 4000000 in
set_option maxRecDepth 100000 in
theorem c_grow0 (l : Launch) (D : va_G) (ca : Nat → ClassId) (ad : Nat → Nat → Nat) (σ : Sg) (t0 mi sz : Nat) (h9 : sC σ = 0 → ad 9 0 = t0) (hc9 : sC σ ≤ 1900) (hk : ∀ i, i < sC σ → ∀ j, sK σ i = some j → j < sN σ) (hs6 : sG σ 6 = nI (sC σ)) : Met l yL_grow wsL_grow ({ frames := 4, cells := 1, slots := 3000, locals := 127 }) (va_Pc [.ref (ad 2 0)] (preA D ca ad σ t0 mi sz)) (va_Qr (fun _ : Nat => True) (fun r a t => a = r ∧ va_P D clX (wX ca (up2 ad 9 0 r) (gC (grM (sC σ)) σ)) t.heap ∧ va_K D clX (tyA ca) t ∧ va_D (va_A (wX ca ad σ) sz) (wX ca (up2 ad 9 0 r) (gC (grM (sC σ)) σ))) (va_A (wX ca ad σ) sz)) 1 3000 (va_A (wX ca ad σ) sz) := by
  refine Met.ofW (cc := cL_grow) (maxL := 1) (ret := (some (.array (.object "java/lang/Object")))) (by decide) rfl ?_
  intro p e s m args below meth c s₁ B hml hv
  obtain ⟨rfl, ⟨hsz, hP, hK, hD0, hE⟩, hL⟩ := hv
  have hx := B.exec
  have hb := B.bytes
  have hr := B.returns
  have hts : ∀ w ∈ tbG, w.before _ s = true := fun w h => atoms_spec (ws := wsL_grow) B.pre w (List.mem_cons_of_mem _ h)
  have hown : s.vm.findClass RL = some m.cls := findClass_of_methodNamed B.named
  have hlocks := B.notSynchronized
  subst hsz
  have hD := hD0.self (sz := s.heap.size)
  generalize hAe : va_A (wX ca ad σ) s.heap.size = A at hD hE hL ⊢
  have hA : ∀ q : Nat, s.heap.size ≤ q → A q := fun q h => by rw [← hAe]; exact Or.inr h
  clear hAe
  have hS : va_S A s.heap s.heap [] := va_S.rf
  have hl := lv_entry ([.ref (ad 2 0)]) (n := 1) (Nat.le_of_ble_eq_true rfl)
  rw [lg_entry_eq]
  generalize (lg_sl ([.ref (ad 2 0)]) ++ List.replicate (1 - (lg_sl ([.ref (ad 2 0)])).length) Slot.unset).toArray = ls at hl ⊢
  have hl : lv_has ls 1 [(0, .ref (ad 2 0))] := hl
  refine lv_aload_n hx hb dL_grow_0 rfl (lv_at hl 0 rfl) ?_
  refine lv_aload_n hx hb dL_grow_1 rfl (lv_at hl 0 rfl) ?_
  refine va_get (D := D) (ci := 4) (v := .int (sG σ 6)) (C := RL) (T := TL) (N := 3) hx hb hts inL hown hK hP 2 gX_2 rfl 2 (by decide) (hts _ tw_46) (fun _ h9 => h9) rfl dL_grow_2 ?_
  refine lv_iconst (v := 1) hx hb dL_grow_5 (by decide) ?_
  refine lv_iadd hx hb dL_grow_6 ?_
  rw [hs6, nI_1]
  have hFc := px_free hD hS hA
  refine va_callr (va_runV (As := [.int (nI (sC σ + 1))]) (rest := []) ⟨hx, hb, hml, hown, hts⟩ (c_grow1 l D ca ad σ t0 mi _ h9 hc9 hk) (cwV 1 hts (gV tw_388 tw_390 tp_7 tw_4 tw_391) rfl rfl rfl (by decide +kernel) ⟨Nat.le_of_ble_eq_true rfl, Nat.le_of_ble_eq_true rfl⟩) ⟨pa_blind, px_recv hK hP gX_2 rfl, fun U hU hW => pa_pre hP hK hD hE hL hS hFc hU hW⟩ rfl rfl hl.1 rfl (lv_room (Nat.le_of_ble_eq_true rfl)) dL_grow_7 ⟨Nat.le_of_ble_eq_true rfl, Nat.le_of_ble_eq_true rfl⟩) hS (fun q _ h => hFc q h) hFc (fun u q t H locs ht hvm hw hB _ _ hS => ?_)
  obtain ⟨rfl, hP, -, hD⟩ := hB
  rw [ht] at hP
  have hD := hD.weaken (fun _ _ _ h9 => hFc _ h9)
  refine W.widen (k := 1) (n := 3000) (Nat.le_of_ble_eq_true rfl) (Nat.le_of_ble_eq_true rfl) ?_
  exact W.aret (v := .ref q) (rt := .array (.object "java/lang/Object")) hx hb hr (Or.inr ⟨_, rfl⟩) (Or.inr ⟨_, rfl⟩) (fun t ht hW => ⟨⟨q, q, rfl, trivial, rfl, by rw [ht]; exact hP, va_K.moved hW.alike hK, hD⟩, hS.F ht⟩) hS.2.2 dL_grow_10

