/-- an array's contents matter up to its length alone -/
theorem px_cell {cA : ClassId} {n : Nat} {f g : Nat → Option Nat} (h : ∀ j, j < n → f j = g j) : vp_cell cA (n, .inr (.inr (.inr (.inr f)))) = vp_cell cA (n, .inr (.inr (.inr (.inr g)))) := by
  show arrV cA n (fun j => va_rf (f j)) = arrV cA n (fun j => va_rf (g j))
  unfold arrV
  congr 1
  apply Array.ext
  · simp
  · intro i h1 h2
    have hi : i < n := by simpa using h1
    simp [h i hi]
theorem px_cg {D : va_G} {cl : List vw_C} {ws : va_W} {H : Heap} {a n : Nat} {cA : ClassId} {f g : Nat → Option Nat} (hP : va_P D cl ws H) (k : Nat) (hk : ws[k]? = some (a, .inl (cA, n, .inr (.inr (.inr (.inr f)))))) (h : ∀ j, j < n → f j = g j) : va_P D cl (ws.set k (a, .inl (cA, n, .inr (.inr (.inr (.inr g)))))) H := by
  intro i q hq
  rw [List.getElem?_set] at hq
  by_cases e : k = i
  · subst e
    rw [if_pos rfl] at hq
    split at hq
    · cases hq
      have h1 := hP k _ hk
      show H[a]? = some (vp_cell cA (n, .inr (.inr (.inr (.inr g)))))
      rw [← px_cell h]
      exact h1
    · cases hq
  · rw [if_neg e] at hq
    exact hP i q hq
theorem px_ra {U : State} {a b : ClassId} {C : String} (h1 : va_RA U a (.object C)) (h2 : va_RA U b (.object C)) : a = b := by
  obtain ⟨_, _, _, _, _, e1⟩ := h1
  obtain ⟨_, _, _, _, _, e2⟩ := h2
  exact Option.some.inj (e1.symm.trans e2)
theorem dQ_init_0 : decode cQ_init 0 = .ok (.aload_n 0, 1) := by decide +kernel
theorem dQ_init_1 : decode cQ_init 1 = .ok (.invokespecial 3, 3) := by decide +kernel
theorem dQ_init_4 : decode cQ_init 4 = .ok (.aload_n 0, 1) := by decide +kernel
theorem dQ_init_5 : decode cQ_init 5 = .ok (.iconst (-1), 1) := by decide +kernel
theorem dQ_init_6 : decode cQ_init 6 = .ok (.putfield 9, 3) := by decide +kernel
theorem dQ_init_9 : decode cQ_init 9 = .ok (.aload_n 0, 1) := by decide +kernel
theorem dQ_init_10 : decode cQ_init 10 = .ok (.iconst 0, 1) := by decide +kernel
theorem dQ_init_11 : decode cQ_init 11 = .ok (.putfield 15, 3) := by decide +kernel
theorem dQ_init_14 : decode cQ_init 14 = .ok (.aload_n 0, 1) := by decide +kernel
theorem dQ_init_15 : decode cQ_init 15 = .ok (.iconst (-1), 1) := by decide +kernel
theorem dQ_init_16 : decode cQ_init 16 = .ok (.putfield 18, 3) := by decide +kernel
theorem dQ_init_19 : decode cQ_init 19 = .ok (.aload_n 0, 1) := by decide +kernel
theorem dQ_init_20 : decode cQ_init 20 = .ok (.iload_n 1, 1) := by decide +kernel
theorem dQ_init_21 : decode cQ_init 21 = .ok (.putfield 21, 3) := by decide +kernel
theorem dQ_init_24 : decode cQ_init 24 = .ok (.aload_n 0, 1) := by decide +kernel
theorem dQ_init_25 : decode cQ_init 25 = .ok (.iload_n 2, 1) := by decide +kernel
theorem dQ_init_26 : decode cQ_init 26 = .ok (.putfield 24, 3) := by decide +kernel
theorem dQ_init_29 : decode cQ_init 29 = .ok (.aload_n 0, 1) := by decide +kernel
theorem dQ_init_30 : decode cQ_init 30 = .ok (.iload_n 3, 1) := by decide +kernel
theorem dQ_init_31 : decode cQ_init 31 = .ok (.putfield 27, 3) := by decide +kernel
theorem dQ_init_34 : decode cQ_init 34 = .ok (.return_, 1) := by decide +kernel
set_option maxHeartbeats 4000000 in
set_option maxRecDepth 100000 in
theorem c_initQ (l : Launch) (D : va_G) (ca : Nat → ClassId) (h0 : Nat) (a0 a1 a2 : Int32) (sz : Nat) : Met l yQ_init wsQ_init ({ frames := 1, cells := 0, slots := 0, locals := 12 }) (va_Pc [.ref h0, .int a0, .int a1, .int a2] (fun U => U.heap.size = sz ∧ va_P D clX [(h0, .inr (2, [.int 0, .int 0, .int 0, .int 0, .int 0, .int 0]))] U.heap ∧ va_K D clX (tyA ca) U ∧ va_D (fun _ => True) [(h0, .inr (2, [.int 0, .int 0, .int 0, .int 0, .int 0, .int 0]))])) (va_Qv (fun _ : Unit => True) (fun u t => va_P D clX [(h0, .inr (2, [.int a0, .int a1, .int a2, .int (-1), .int 0, .int (-1)]))] t.heap ∧ va_K D clX (tyA ca) t ∧ va_D (va_A [(h0, .inr (2, [.int 0, .int 0, .int 0, .int 0, .int 0, .int 0]))] sz) [(h0, .inr (2, [.int a0, .int a1, .int a2, .int (-1), .int 0, .int (-1)]))]) (va_A [(h0, .inr (2, [.int 0, .int 0, .int 0, .int 0, .int 0, .int 0]))] sz)) 0 0 (va_A [(h0, .inr (2, [.int 0, .int 0, .int 0, .int 0, .int 0, .int 0]))] sz) := by
  refine Met.ofW (cc := cQ_init) (maxL := 4) (ret := none) (by decide) rfl ?_
  intro p e s m args below meth c s₁ B hml hv
  obtain ⟨rfl, hsz, hP, hK, hD0⟩ := hv
  have hx := B.exec
  have hb := B.bytes
  have hr := B.returns
  have hts : ∀ w ∈ tbG, w.before _ s = true := fun w h => atoms_spec (ws := wsQ_init) B.pre w (List.mem_cons_of_mem _ h)
  have hown : s.vm.findClass RQ = some m.cls := findClass_of_methodNamed B.named
  have hlocks := B.notSynchronized
  have hin : meth.name = "<init>" := (name_of_methodNamed B.named B.method).1
  subst hsz
  have hD := hD0.self (sz := s.heap.size)
  generalize hAe : va_A [(h0, .inr (2, [.int 0, .int 0, .int 0, .int 0, .int 0, .int 0]))] s.heap.size = A at hD ⊢
  have hA : ∀ q : Nat, s.heap.size ≤ q → A q := fun q h => by rw [← hAe]; exact Or.inr h
  clear hAe
  have hS : va_S A s.heap s.heap [] := va_S.rf
  have hP : va_P D clX [(h0, .inr (2, [.int 0, .int 0, .int 0, .int 0, .int 0, .int 0]))] s.heap := hP
  have hl := lv_entry ([.ref h0, .int a0, .int a1, .int a2]) (n := 4) (Nat.le_of_ble_eq_true rfl)
  rw [lg_entry_eq]
  generalize (lg_sl ([.ref h0, .int a0, .int a1, .int a2]) ++ List.replicate (4 - (lg_sl ([.ref h0, .int a0, .int a1, .int a2])).length) Slot.unset).toArray = ls at hl ⊢
  have hl : lv_has ls 4 [(0, .ref h0), (1, .int a0), (2, .int a1), (3, .int a2)] := hl
  refine lv_aload_n hx hb dQ_init_0 rfl (lv_at hl 0 rfl) ?_
  refine W.objInit hx hb hown (hts _ tw_349) (hts _ tw_27) (hts _ tw_28) rfl (by rw [hml]; exact hl.1) rfl dQ_init_1 (Nat.le_of_ble_eq_true rfl) (Nat.le_of_ble_eq_true rfl) ?_
  refine W.eq (g2 := F0 m 4 ls []) rfl ?_
  refine lv_aload_n hx hb dQ_init_4 rfl (lv_at hl 0 rfl) ?_
  refine lv_iconst (v := (-1)) hx hb dQ_init_5 (by decide) ?_
  refine va_put (D := D) (ci := 2) (v := .int (-1)) (ty := .int) (C := RQ) (T := TQ) (N := 6) hx hb hts inQ tyQ tyQ_ok nmQ hown hK hP hD hS 0 rfl rfl 3 (by decide) (hts _ tw_357) (fun _ h9 => h9) rfl (by decide +kernel) rfl rfl (Nat.le_of_ble_eq_true rfl) dQ_init_6 (fun H locs hP hD hS => ?_)
  have hP : va_P D clX [(h0, .inr (2, [.int 0, .int 0, .int 0, .int (-1), .int 0, .int 0]))] H := hP
  have hD : va_D A [(h0, .inr (2, [.int 0, .int 0, .int 0, .int (-1), .int 0, .int 0]))] := hD
  refine lv_aload_n hx hb dQ_init_9 rfl (lv_at hl 0 rfl) ?_
  refine lv_iconst (v := 0) hx hb dQ_init_10 (by decide) ?_
  refine va_put (D := D) (ci := 2) (v := .int 0) (ty := .int) (C := RQ) (T := TQ) (N := 6) hx hb hts inQ tyQ tyQ_ok nmQ hown hK hP hD hS 0 rfl rfl 4 (by decide) (hts _ tw_359) (fun _ h9 => h9) rfl (by decide +kernel) rfl rfl (Nat.le_of_ble_eq_true rfl) dQ_init_11 (fun H locs hP hD hS => ?_)
  have hP : va_P D clX [(h0, .inr (2, [.int 0, .int 0, .int 0, .int (-1), .int 0, .int 0]))] H := hP
  have hD : va_D A [(h0, .inr (2, [.int 0, .int 0, .int 0, .int (-1), .int 0, .int 0]))] := hD
  refine lv_aload_n hx hb dQ_init_14 rfl (lv_at hl 0 rfl) ?_
  refine lv_iconst (v := (-1)) hx hb dQ_init_15 (by decide) ?_
  refine va_put (D := D) (ci := 2) (v := .int (-1)) (ty := .int) (C := RQ) (T := TQ) (N := 6) hx hb hts inQ tyQ tyQ_ok nmQ hown hK hP hD hS 0 rfl rfl 5 (by decide) (hts _ tw_361) (fun _ h9 => h9) rfl (by decide +kernel) rfl rfl (Nat.le_of_ble_eq_true rfl) dQ_init_16 (fun H locs hP hD hS => ?_)
  have hP : va_P D clX [(h0, .inr (2, [.int 0, .int 0, .int 0, .int (-1), .int 0, .int (-1)]))] H := hP
  have hD : va_D A [(h0, .inr (2, [.int 0, .int 0, .int 0, .int (-1), .int 0, .int (-1)]))] := hD
  refine lv_aload_n hx hb dQ_init_19 rfl (lv_at hl 0 rfl) ?_
  refine lv_iload_n hx hb dQ_init_20 rfl (lv_at hl 1 rfl) ?_
  refine va_putF (D := D) (ci := 2) (v := .int a0) (ty := .int) (C := RQ) (T := TQ) (N := 6) hx hb hts inQ tyQ tyQ_ok nmQ hown hK hP hD hS 0 rfl rfl 0 (by decide) (hts _ tw_350) (fun _ h9 => h9) rfl hin rfl (by decide +kernel) rfl rfl (Nat.le_of_ble_eq_true rfl) dQ_init_21 (fun H locs hP hD hS => ?_)
  have hP : va_P D clX [(h0, .inr (2, [.int a0, .int 0, .int 0, .int (-1), .int 0, .int (-1)]))] H := hP
  have hD : va_D A [(h0, .inr (2, [.int a0, .int 0, .int 0, .int (-1), .int 0, .int (-1)]))] := hD
  refine lv_aload_n hx hb dQ_init_24 rfl (lv_at hl 0 rfl) ?_
  refine lv_iload_n hx hb dQ_init_25 rfl (lv_at hl 2 rfl) ?_
  refine va_putF (D := D) (ci := 2) (v := .int a1) (ty := .int) (C := RQ) (T := TQ) (N := 6) hx hb hts inQ tyQ tyQ_ok nmQ hown hK hP hD hS 0 rfl rfl 1 (by decide) (hts _ tw_352) (fun _ h9 => h9) rfl hin rfl (by decide +kernel) rfl rfl (Nat.le_of_ble_eq_true rfl) dQ_init_26 (fun H locs hP hD hS => ?_)
  have hP : va_P D clX [(h0, .inr (2, [.int a0, .int a1, .int 0, .int (-1), .int 0, .int (-1)]))] H := hP
  have hD : va_D A [(h0, .inr (2, [.int a0, .int a1, .int 0, .int (-1), .int 0, .int (-1)]))] := hD
  refine lv_aload_n hx hb dQ_init_29 rfl (lv_at hl 0 rfl) ?_
  refine lv_iload_n hx hb dQ_init_30 rfl (lv_at hl 3 rfl) ?_
  refine va_putF (D := D) (ci := 2) (v := .int a2) (ty := .int) (C := RQ) (T := TQ) (N := 6) hx hb hts inQ tyQ tyQ_ok nmQ hown hK hP hD hS 0 rfl rfl 2 (by decide) (hts _ tw_355) (fun _ h9 => h9) rfl hin rfl (by decide +kernel) rfl rfl (Nat.le_of_ble_eq_true rfl) dQ_init_31 (fun H locs hP hD hS => ?_)
  have hP : va_P D clX [(h0, .inr (2, [.int a0, .int a1, .int a2, .int (-1), .int 0, .int (-1)]))] H := hP
  have hD : va_D A [(h0, .inr (2, [.int a0, .int a1, .int a2, .int (-1), .int 0, .int (-1)]))] := hD
  refine W.widen (k := 0) (n := 0) (Nat.le_of_ble_eq_true rfl) (Nat.le_of_ble_eq_true rfl) ?_
  exact W.vret hx hb hr (fun t ht hW => ⟨⟨(), rfl, trivial, by rw [ht]; exact hP, va_K.moved hW.alike hK, hD⟩, hS.F ht⟩) hS.2.2 dQ_init_34
theorem dP_init_0 : decode cP_init 0 = .ok (.aload_n 0, 1) := by decide +kernel
theorem dP_init_1 : decode cP_init 1 = .ok (.invokespecial 3, 3) := by decide +kernel
theorem dP_init_4 : decode cP_init 4 = .ok (.aload_n 0, 1) := by decide +kernel
theorem dP_init_5 : decode cP_init 5 = .ok (.sipush 232, 3) := by decide +kernel
theorem dP_init_8 : decode cP_init 8 = .ok (.newarray .byte, 2) := by decide +kernel
theorem dP_init_10 : decode cP_init 10 = .ok (.putfield 9, 3) := by decide +kernel
theorem dP_init_13 : decode cP_init 13 = .ok (.aload_n 0, 1) := by decide +kernel
theorem dP_init_14 : decode cP_init 14 = .ok (.sipush 134, 3) := by decide +kernel
theorem dP_init_17 : decode cP_init 17 = .ok (.newarray .byte, 2) := by decide +kernel
theorem dP_init_19 : decode cP_init 19 = .ok (.putfield 15, 3) := by decide +kernel
theorem dP_init_22 : decode cP_init 22 = .ok (.aload_n 0, 1) := by decide +kernel
theorem dP_init_23 : decode cP_init 23 = .ok (.iconst 0, 1) := by decide +kernel
theorem dP_init_24 : decode cP_init 24 = .ok (.putfield 18, 3) := by decide +kernel
theorem dP_init_27 : decode cP_init 27 = .ok (.aload_n 0, 1) := by decide +kernel
theorem dP_init_28 : decode cP_init 28 = .ok (.iconst 0, 1) := by decide +kernel
theorem dP_init_29 : decode cP_init 29 = .ok (.putfield 22, 3) := by decide +kernel
theorem dP_init_32 : decode cP_init 32 = .ok (.aload_n 0, 1) := by decide +kernel
theorem dP_init_33 : decode cP_init 33 = .ok (.aconst_null, 1) := by decide +kernel
theorem dP_init_34 : decode cP_init 34 = .ok (.putfield 25, 3) := by decide +kernel
theorem dP_init_37 : decode cP_init 37 = .ok (.aload_n 0, 1) := by decide +kernel
theorem dP_init_38 : decode cP_init 38 = .ok (.iconst 0, 1) := by decide +kernel
theorem dP_init_39 : decode cP_init 39 = .ok (.putfield 29, 3) := by decide +kernel
theorem dP_init_42 : decode cP_init 42 = .ok (.aload_n 0, 1) := by decide +kernel
theorem dP_init_43 : decode cP_init 43 = .ok (.iconst 0, 1) := by decide +kernel
theorem dP_init_44 : decode cP_init 44 = .ok (.putfield 32, 3) := by decide +kernel
theorem dP_init_47 : decode cP_init 47 = .ok (.aload_n 0, 1) := by decide +kernel
theorem dP_init_48 : decode cP_init 48 = .ok (.iconst (-1), 1) := by decide +kernel
theorem dP_init_49 : decode cP_init 49 = .ok (.putfield 35, 3) := by decide +kernel
theorem dP_init_52 : decode cP_init 52 = .ok (.aload_n 0, 1) := by decide +kernel
theorem dP_init_53 : decode cP_init 53 = .ok (.iconst 0, 1) := by decide +kernel
theorem dP_init_54 : decode cP_init 54 = .ok (.putfield 38, 3) := by decide +kernel
theorem dP_init_57 : decode cP_init 57 = .ok (.aload_n 0, 1) := by decide +kernel
theorem dP_init_58 : decode cP_init 58 = .ok (.iconst 0, 1) := by decide +kernel
theorem dP_init_59 : decode cP_init 59 = .ok (.putfield 41, 3) := by decide +kernel
theorem dP_init_62 : decode cP_init 62 = .ok (.aload_n 0, 1) := by decide +kernel
theorem dP_init_63 : decode cP_init 63 = .ok (.iconst 0, 1) := by decide +kernel
theorem dP_init_64 : decode cP_init 64 = .ok (.putfield 44, 3) := by decide +kernel
theorem dP_init_67 : decode cP_init 67 = .ok (.aload_n 0, 1) := by decide +kernel
theorem dP_init_68 : decode cP_init 68 = .ok (.iconst 0, 1) := by decide +kernel
theorem dP_init_69 : decode cP_init 69 = .ok (.putfield 47, 3) := by decide +kernel
theorem dP_init_72 : decode cP_init 72 = .ok (.aload_n 0, 1) := by decide +kernel
theorem dP_init_73 : decode cP_init 73 = .ok (.iconst (-1), 1) := by decide +kernel
theorem dP_init_74 : decode cP_init 74 = .ok (.putfield 51, 3) := by decide +kernel
theorem dP_init_77 : decode cP_init 77 = .ok (.aload_n 0, 1) := by decide +kernel
theorem dP_init_78 : decode cP_init 78 = .ok (.iconst 0, 1) := by decide +kernel
theorem dP_init_79 : decode cP_init 79 = .ok (.putfield 54, 3) := by decide +kernel
theorem dP_init_82 : decode cP_init 82 = .ok (.aload_n 0, 1) := by decide +kernel
theorem dP_init_83 : decode cP_init 83 = .ok (.iconst 0, 1) := by decide +kernel
theorem dP_init_84 : decode cP_init 84 = .ok (.putfield 57, 3) := by decide +kernel
theorem dP_init_87 : decode cP_init 87 = .ok (.aload_n 0, 1) := by decide +kernel
theorem dP_init_88 : decode cP_init 88 = .ok (.iload_n 1, 1) := by decide +kernel
theorem dP_init_89 : decode cP_init 89 = .ok (.putfield 60, 3) := by decide +kernel
theorem dP_init_92 : decode cP_init 92 = .ok (.return_, 1) := by decide +kernel
set_option maxHeartbeats 4000000 in
set_option maxRecDepth 100000 in
theorem c_initP (l : Launch) (D : va_G) (ca : Nat → ClassId) (h0 : Nat) (a0 : Int32) (sz : Nat) : Met l yP_init wsP_init ({ frames := 1, cells := 2, slots := 366, locals := 12 }) (va_Pc [.ref h0, .int a0] (fun U => U.heap.size = sz ∧ va_P D clX [(h0, .inr (1, [.int 0, .null, .null, .int 0, .int 0, .null, .int 0, .int 0, .int 0, .int 0, .int 0, .int 0, .int 0, .int 0, .int 0, .int 0]))] U.heap ∧ va_K D clX (tyA ca) U ∧ va_D (fun _ => True) [(h0, .inr (1, [.int 0, .null, .null, .int 0, .int 0, .null, .int 0, .int 0, .int 0, .int 0, .int 0, .int 0, .int 0, .int 0, .int 0, .int 0]))])) (va_Qv (fun _ : Nat × Nat => True) (fun u t => va_P D clX [(h0, .inr (1, [.int a0, .ref u.1, .ref u.2, .int 0, .int 0, .null, .int 0, .int 0, .int (-1), .int 0, .int 0, .int 0, .int 0, .int (-1), .int 0, .int 0])), (u.1, .inl (ca 1, 232, .inl (fun _ => 0))), (u.2, .inl (ca 1, 134, .inl (fun _ => 0)))] t.heap ∧ va_K D clX (tyA ca) t ∧ va_D (va_A [(h0, .inr (1, [.int 0, .null, .null, .int 0, .int 0, .null, .int 0, .int 0, .int 0, .int 0, .int 0, .int 0, .int 0, .int 0, .int 0, .int 0]))] sz) [(h0, .inr (1, [.int a0, .ref u.1, .ref u.2, .int 0, .int 0, .null, .int 0, .int 0, .int (-1), .int 0, .int 0, .int 0, .int 0, .int (-1), .int 0, .int 0])), (u.1, .inl (ca 1, 232, .inl (fun _ => 0))), (u.2, .inl (ca 1, 134, .inl (fun _ => 0)))]) (va_A [(h0, .inr (1, [.int 0, .null, .null, .int 0, .int 0, .null, .int 0, .int 0, .int 0, .int 0, .int 0, .int 0, .int 0, .int 0, .int 0, .int 0]))] sz)) 2 366 (va_A [(h0, .inr (1, [.int 0, .null, .null, .int 0, .int 0, .null, .int 0, .int 0, .int 0, .int 0, .int 0, .int 0, .int 0, .int 0, .int 0, .int 0]))] sz) := by
  refine Met.ofW (cc := cP_init) (maxL := 2) (ret := none) (by decide) rfl ?_
  intro p e s m args below meth c s₁ B hml hv
  obtain ⟨rfl, hsz, hP, hK, hD0⟩ := hv
  have hx := B.exec
  have hb := B.bytes
  have hr := B.returns
  have hts : ∀ w ∈ tbG, w.before _ s = true := fun w h => atoms_spec (ws := wsP_init) B.pre w (List.mem_cons_of_mem _ h)
  have hown : s.vm.findClass RP = some m.cls := findClass_of_methodNamed B.named
  have hlocks := B.notSynchronized
  have hin : meth.name = "<init>" := (name_of_methodNamed B.named B.method).1
  subst hsz
  have hD := hD0.self (sz := s.heap.size)
  generalize hAe : va_A [(h0, .inr (1, [.int 0, .null, .null, .int 0, .int 0, .null, .int 0, .int 0, .int 0, .int 0, .int 0, .int 0, .int 0, .int 0, .int 0, .int 0]))] s.heap.size = A at hD ⊢
  have hA : ∀ q : Nat, s.heap.size ≤ q → A q := fun q h => by rw [← hAe]; exact Or.inr h
  clear hAe
  have hS : va_S A s.heap s.heap [] := va_S.rf
  have hP : va_P D clX [(h0, .inr (1, [.int 0, .null, .null, .int 0, .int 0, .null, .int 0, .int 0, .int 0, .int 0, .int 0, .int 0, .int 0, .int 0, .int 0, .int 0]))] s.heap := hP
  have hl := lv_entry ([.ref h0, .int a0]) (n := 2) (Nat.le_of_ble_eq_true rfl)
  rw [lg_entry_eq]
  generalize (lg_sl ([.ref h0, .int a0]) ++ List.replicate (2 - (lg_sl ([.ref h0, .int a0])).length) Slot.unset).toArray = ls at hl ⊢
  have hl : lv_has ls 2 [(0, .ref h0), (1, .int a0)] := hl
  refine lv_aload_n hx hb dP_init_0 rfl (lv_at hl 0 rfl) ?_
  refine W.objInit hx hb hown (hts _ tw_76) (hts _ tw_27) (hts _ tw_28) rfl (by rw [hml]; exact hl.1) rfl dP_init_1 (Nat.le_of_ble_eq_true rfl) (Nat.le_of_ble_eq_true rfl) ?_
  refine W.eq (g2 := F0 m 4 ls []) rfl ?_
  refine lv_aload_n hx hb dP_init_4 rfl (lv_at hl 0 rfl) ?_
  refine lv_sipush (v := 232) hx hb dP_init_5 (by decide) ?_
  refine va_newa (atype := .byte) (ty := .byte) (a0 := (232, .inl (fun _ => 0))) hx hb (hts _ tw_149) rfl hK hP hD hS hA (fun _ => rfl) (by decide) (N' := 232) (by decide) (by decide) (Nat.le_of_ble_eq_true rfl) (Nat.le_of_ble_eq_true rfl) dP_init_8 (fun q1 cA2 H hK hP hD hS => ?_)
  have e6 : cA2 = ca 1 := Option.some.inj ((hK.2 4 _ rfl).2.symm.trans (hK.2 1 _ rfl).2)
  subst e6
  have hK := hK.sub (tys' := tyA ca) [0, 1, 2, 3] rfl
  have hP : va_P D clX [(h0, .inr (1, [.int 0, .null, .null, .int 0, .int 0, .null, .int 0, .int 0, .int 0, .int 0, .int 0, .int 0, .int 0, .int 0, .int 0, .int 0])), (q1, .inl (ca 1, 232, .inl (fun _ => 0)))] H := hP
  have hD : va_D A [(h0, .inr (1, [.int 0, .null, .null, .int 0, .int 0, .null, .int 0, .int 0, .int 0, .int 0, .int 0, .int 0, .int 0, .int 0, .int 0, .int 0])), (q1, .inl (ca 1, 232, .inl (fun _ => 0)))] := hD
  refine W.widen (k := 1) (n := 232) (Nat.le_of_ble_eq_true rfl) (Nat.le_of_ble_eq_true rfl) ?_
  refine va_putF (D := D) (ci := 1) (v := .ref q1) (ty := (.array .byte)) (C := RP) (T := TP) (N := 16) hx hb hts inP tyP tyP_ok nmP hown hK hP hD hS 0 rfl rfl 1 (by decide) (hts _ tw_79) (fun _ h9 => h9) rfl hin rfl (by decide +kernel) rfl rfl (Nat.le_of_ble_eq_true rfl) dP_init_10 (fun H locs hP hD hS => ?_)
  have hP : va_P D clX [(h0, .inr (1, [.int 0, .ref q1, .null, .int 0, .int 0, .null, .int 0, .int 0, .int 0, .int 0, .int 0, .int 0, .int 0, .int 0, .int 0, .int 0])), (q1, .inl (ca 1, 232, .inl (fun _ => 0)))] H := hP
  have hD : va_D A [(h0, .inr (1, [.int 0, .ref q1, .null, .int 0, .int 0, .null, .int 0, .int 0, .int 0, .int 0, .int 0, .int 0, .int 0, .int 0, .int 0, .int 0])), (q1, .inl (ca 1, 232, .inl (fun _ => 0)))] := hD
  refine lv_aload_n hx hb dP_init_13 rfl (lv_at hl 0 rfl) ?_
  refine lv_sipush (v := 134) hx hb dP_init_14 (by decide) ?_
  refine va_newa (atype := .byte) (ty := .byte) (a0 := (134, .inl (fun _ => 0))) hx hb (hts _ tw_149) rfl hK hP hD hS hA (fun _ => rfl) (by decide) (N' := 134) (by decide) (by decide) (Nat.le_of_ble_eq_true rfl) (Nat.le_of_ble_eq_true rfl) dP_init_17 (fun q3 cA4 H hK hP hD hS => ?_)
  have e5 : cA4 = ca 1 := Option.some.inj ((hK.2 4 _ rfl).2.symm.trans (hK.2 1 _ rfl).2)
  subst e5
  have hK := hK.sub (tys' := tyA ca) [0, 1, 2, 3] rfl
  have hP : va_P D clX [(h0, .inr (1, [.int 0, .ref q1, .null, .int 0, .int 0, .null, .int 0, .int 0, .int 0, .int 0, .int 0, .int 0, .int 0, .int 0, .int 0, .int 0])), (q1, .inl (ca 1, 232, .inl (fun _ => 0))), (q3, .inl (ca 1, 134, .inl (fun _ => 0)))] H := hP
  have hD : va_D A [(h0, .inr (1, [.int 0, .ref q1, .null, .int 0, .int 0, .null, .int 0, .int 0, .int 0, .int 0, .int 0, .int 0, .int 0, .int 0, .int 0, .int 0])), (q1, .inl (ca 1, 232, .inl (fun _ => 0))), (q3, .inl (ca 1, 134, .inl (fun _ => 0)))] := hD
  refine W.widen (k := 2) (n := 366) (Nat.le_of_ble_eq_true rfl) (Nat.le_of_ble_eq_true rfl) ?_
  refine va_putF (D := D) (ci := 1) (v := .ref q3) (ty := (.array .byte)) (C := RP) (T := TP) (N := 16) hx hb hts inP tyP tyP_ok nmP hown hK hP hD hS 0 rfl rfl 2 (by decide) (hts _ tw_81) (fun _ h9 => h9) rfl hin rfl (by decide +kernel) rfl rfl (Nat.le_of_ble_eq_true rfl) dP_init_19 (fun H locs hP hD hS => ?_)
  have hP : va_P D clX [(h0, .inr (1, [.int 0, .ref q1, .ref q3, .int 0, .int 0, .null, .int 0, .int 0, .int 0, .int 0, .int 0, .int 0, .int 0, .int 0, .int 0, .int 0])), (q1, .inl (ca 1, 232, .inl (fun _ => 0))), (q3, .inl (ca 1, 134, .inl (fun _ => 0)))] H := hP
  have hD : va_D A [(h0, .inr (1, [.int 0, .ref q1, .ref q3, .int 0, .int 0, .null, .int 0, .int 0, .int 0, .int 0, .int 0, .int 0, .int 0, .int 0, .int 0, .int 0])), (q1, .inl (ca 1, 232, .inl (fun _ => 0))), (q3, .inl (ca 1, 134, .inl (fun _ => 0)))] := hD
  refine lv_aload_n hx hb dP_init_22 rfl (lv_at hl 0 rfl) ?_
  refine lv_iconst (v := 0) hx hb dP_init_23 (by decide) ?_
  refine va_put (D := D) (ci := 1) (v := .int 0) (ty := .int) (C := RP) (T := TP) (N := 16) hx hb hts inP tyP tyP_ok nmP hown hK hP hD hS 0 rfl rfl 3 (by decide) (hts _ tw_83) (fun _ h9 => h9) rfl (by decide +kernel) rfl rfl (Nat.le_of_ble_eq_true rfl) dP_init_24 (fun H locs hP hD hS => ?_)
  have hP : va_P D clX [(h0, .inr (1, [.int 0, .ref q1, .ref q3, .int 0, .int 0, .null, .int 0, .int 0, .int 0, .int 0, .int 0, .int 0, .int 0, .int 0, .int 0, .int 0])), (q1, .inl (ca 1, 232, .inl (fun _ => 0))), (q3, .inl (ca 1, 134, .inl (fun _ => 0)))] H := hP
  have hD : va_D A [(h0, .inr (1, [.int 0, .ref q1, .ref q3, .int 0, .int 0, .null, .int 0, .int 0, .int 0, .int 0, .int 0, .int 0, .int 0, .int 0, .int 0, .int 0])), (q1, .inl (ca 1, 232, .inl (fun _ => 0))), (q3, .inl (ca 1, 134, .inl (fun _ => 0)))] := hD
  refine lv_aload_n hx hb dP_init_27 rfl (lv_at hl 0 rfl) ?_
  refine lv_iconst (v := 0) hx hb dP_init_28 (by decide) ?_
  refine va_put (D := D) (ci := 1) (v := .int 0) (ty := .int) (C := RP) (T := TP) (N := 16) hx hb hts inP tyP tyP_ok nmP hown hK hP hD hS 0 rfl rfl 4 (by decide) (hts _ tw_86) (fun _ h9 => h9) rfl (by decide +kernel) rfl rfl (Nat.le_of_ble_eq_true rfl) dP_init_29 (fun H locs hP hD hS => ?_)
  have hP : va_P D clX [(h0, .inr (1, [.int 0, .ref q1, .ref q3, .int 0, .int 0, .null, .int 0, .int 0, .int 0, .int 0, .int 0, .int 0, .int 0, .int 0, .int 0, .int 0])), (q1, .inl (ca 1, 232, .inl (fun _ => 0))), (q3, .inl (ca 1, 134, .inl (fun _ => 0)))] H := hP
  have hD : va_D A [(h0, .inr (1, [.int 0, .ref q1, .ref q3, .int 0, .int 0, .null, .int 0, .int 0, .int 0, .int 0, .int 0, .int 0, .int 0, .int 0, .int 0, .int 0])), (q1, .inl (ca 1, 232, .inl (fun _ => 0))), (q3, .inl (ca 1, 134, .inl (fun _ => 0)))] := hD
  refine lv_aload_n hx hb dP_init_32 rfl (lv_at hl 0 rfl) ?_
  refine lv_null hx hb dP_init_33 ?_
  refine va_put (D := D) (ci := 1) (v := .null) (ty := (.object "PatronHall$Asking")) (C := RP) (T := TP) (N := 16) hx hb hts inP tyP tyP_ok nmP hown hK hP hD hS 0 rfl rfl 5 (by decide) (hts _ tw_88) (fun _ h9 => h9) rfl (by decide +kernel) rfl rfl (Nat.le_of_ble_eq_true rfl) dP_init_34 (fun H locs hP hD hS => ?_)
  have hP : va_P D clX [(h0, .inr (1, [.int 0, .ref q1, .ref q3, .int 0, .int 0, .null, .int 0, .int 0, .int 0, .int 0, .int 0, .int 0, .int 0, .int 0, .int 0, .int 0])), (q1, .inl (ca 1, 232, .inl (fun _ => 0))), (q3, .inl (ca 1, 134, .inl (fun _ => 0)))] H := hP
  have hD : va_D A [(h0, .inr (1, [.int 0, .ref q1, .ref q3, .int 0, .int 0, .null, .int 0, .int 0, .int 0, .int 0, .int 0, .int 0, .int 0, .int 0, .int 0, .int 0])), (q1, .inl (ca 1, 232, .inl (fun _ => 0))), (q3, .inl (ca 1, 134, .inl (fun _ => 0)))] := hD
  refine lv_aload_n hx hb dP_init_37 rfl (lv_at hl 0 rfl) ?_
  refine lv_iconst (v := 0) hx hb dP_init_38 (by decide) ?_
  refine va_put (D := D) (ci := 1) (v := .int 0) (ty := .int) (C := RP) (T := TP) (N := 16) hx hb hts inP tyP tyP_ok nmP hown hK hP hD hS 0 rfl rfl 6 (by decide) (hts _ tw_90) (fun _ h9 => h9) rfl (by decide +kernel) rfl rfl (Nat.le_of_ble_eq_true rfl) dP_init_39 (fun H locs hP hD hS => ?_)
  have hP : va_P D clX [(h0, .inr (1, [.int 0, .ref q1, .ref q3, .int 0, .int 0, .null, .int 0, .int 0, .int 0, .int 0, .int 0, .int 0, .int 0, .int 0, .int 0, .int 0])), (q1, .inl (ca 1, 232, .inl (fun _ => 0))), (q3, .inl (ca 1, 134, .inl (fun _ => 0)))] H := hP
  have hD : va_D A [(h0, .inr (1, [.int 0, .ref q1, .ref q3, .int 0, .int 0, .null, .int 0, .int 0, .int 0, .int 0, .int 0, .int 0, .int 0, .int 0, .int 0, .int 0])), (q1, .inl (ca 1, 232, .inl (fun _ => 0))), (q3, .inl (ca 1, 134, .inl (fun _ => 0)))] := hD
  refine lv_aload_n hx hb dP_init_42 rfl (lv_at hl 0 rfl) ?_
  refine lv_iconst (v := 0) hx hb dP_init_43 (by decide) ?_
  refine va_put (D := D) (ci := 1) (v := .int 0) (ty := .int) (C := RP) (T := TP) (N := 16) hx hb hts inP tyP tyP_ok nmP hown hK hP hD hS 0 rfl rfl 7 (by decide) (hts _ tw_93) (fun _ h9 => h9) rfl (by decide +kernel) rfl rfl (Nat.le_of_ble_eq_true rfl) dP_init_44 (fun H locs hP hD hS => ?_)
  have hP : va_P D clX [(h0, .inr (1, [.int 0, .ref q1, .ref q3, .int 0, .int 0, .null, .int 0, .int 0, .int 0, .int 0, .int 0, .int 0, .int 0, .int 0, .int 0, .int 0])), (q1, .inl (ca 1, 232, .inl (fun _ => 0))), (q3, .inl (ca 1, 134, .inl (fun _ => 0)))] H := hP
  have hD : va_D A [(h0, .inr (1, [.int 0, .ref q1, .ref q3, .int 0, .int 0, .null, .int 0, .int 0, .int 0, .int 0, .int 0, .int 0, .int 0, .int 0, .int 0, .int 0])), (q1, .inl (ca 1, 232, .inl (fun _ => 0))), (q3, .inl (ca 1, 134, .inl (fun _ => 0)))] := hD
  refine lv_aload_n hx hb dP_init_47 rfl (lv_at hl 0 rfl) ?_
  refine lv_iconst (v := (-1)) hx hb dP_init_48 (by decide) ?_
  refine va_put (D := D) (ci := 1) (v := .int (-1)) (ty := .int) (C := RP) (T := TP) (N := 16) hx hb hts inP tyP tyP_ok nmP hown hK hP hD hS 0 rfl rfl 8 (by decide) (hts _ tw_96) (fun _ h9 => h9) rfl (by decide +kernel) rfl rfl (Nat.le_of_ble_eq_true rfl) dP_init_49 (fun H locs hP hD hS => ?_)
  have hP : va_P D clX [(h0, .inr (1, [.int 0, .ref q1, .ref q3, .int 0, .int 0, .null, .int 0, .int 0, .int (-1), .int 0, .int 0, .int 0, .int 0, .int 0, .int 0, .int 0])), (q1, .inl (ca 1, 232, .inl (fun _ => 0))), (q3, .inl (ca 1, 134, .inl (fun _ => 0)))] H := hP
  have hD : va_D A [(h0, .inr (1, [.int 0, .ref q1, .ref q3, .int 0, .int 0, .null, .int 0, .int 0, .int (-1), .int 0, .int 0, .int 0, .int 0, .int 0, .int 0, .int 0])), (q1, .inl (ca 1, 232, .inl (fun _ => 0))), (q3, .inl (ca 1, 134, .inl (fun _ => 0)))] := hD
  refine lv_aload_n hx hb dP_init_52 rfl (lv_at hl 0 rfl) ?_
  refine lv_iconst (v := 0) hx hb dP_init_53 (by decide) ?_
  refine va_put (D := D) (ci := 1) (v := .int 0) (ty := .int) (C := RP) (T := TP) (N := 16) hx hb hts inP tyP tyP_ok nmP hown hK hP hD hS 0 rfl rfl 9 (by decide) (hts _ tw_99) (fun _ h9 => h9) rfl (by decide +kernel) rfl rfl (Nat.le_of_ble_eq_true rfl) dP_init_54 (fun H locs hP hD hS => ?_)
  have hP : va_P D clX [(h0, .inr (1, [.int 0, .ref q1, .ref q3, .int 0, .int 0, .null, .int 0, .int 0, .int (-1), .int 0, .int 0, .int 0, .int 0, .int 0, .int 0, .int 0])), (q1, .inl (ca 1, 232, .inl (fun _ => 0))), (q3, .inl (ca 1, 134, .inl (fun _ => 0)))] H := hP
  have hD : va_D A [(h0, .inr (1, [.int 0, .ref q1, .ref q3, .int 0, .int 0, .null, .int 0, .int 0, .int (-1), .int 0, .int 0, .int 0, .int 0, .int 0, .int 0, .int 0])), (q1, .inl (ca 1, 232, .inl (fun _ => 0))), (q3, .inl (ca 1, 134, .inl (fun _ => 0)))] := hD
  refine lv_aload_n hx hb dP_init_57 rfl (lv_at hl 0 rfl) ?_
  refine lv_iconst (v := 0) hx hb dP_init_58 (by decide) ?_
  refine va_put (D := D) (ci := 1) (v := .int 0) (ty := .int) (C := RP) (T := TP) (N := 16) hx hb hts inP tyP tyP_ok nmP hown hK hP hD hS 0 rfl rfl 10 (by decide) (hts _ tw_102) (fun _ h9 => h9) rfl (by decide +kernel) rfl rfl (Nat.le_of_ble_eq_true rfl) dP_init_59 (fun H locs hP hD hS => ?_)
  have hP : va_P D clX [(h0, .inr (1, [.int 0, .ref q1, .ref q3, .int 0, .int 0, .null, .int 0, .int 0, .int (-1), .int 0, .int 0, .int 0, .int 0, .int 0, .int 0, .int 0])), (q1, .inl (ca 1, 232, .inl (fun _ => 0))), (q3, .inl (ca 1, 134, .inl (fun _ => 0)))] H := hP
  have hD : va_D A [(h0, .inr (1, [.int 0, .ref q1, .ref q3, .int 0, .int 0, .null, .int 0, .int 0, .int (-1), .int 0, .int 0, .int 0, .int 0, .int 0, .int 0, .int 0])), (q1, .inl (ca 1, 232, .inl (fun _ => 0))), (q3, .inl (ca 1, 134, .inl (fun _ => 0)))] := hD
  refine lv_aload_n hx hb dP_init_62 rfl (lv_at hl 0 rfl) ?_
  refine lv_iconst (v := 0) hx hb dP_init_63 (by decide) ?_
  refine va_put (D := D) (ci := 1) (v := .int 0) (ty := .int) (C := RP) (T := TP) (N := 16) hx hb hts inP tyP tyP_ok nmP hown hK hP hD hS 0 rfl rfl 11 (by decide) (hts _ tw_105) (fun _ h9 => h9) rfl (by decide +kernel) rfl rfl (Nat.le_of_ble_eq_true rfl) dP_init_64 (fun H locs hP hD hS => ?_)
  have hP : va_P D clX [(h0, .inr (1, [.int 0, .ref q1, .ref q3, .int 0, .int 0, .null, .int 0, .int 0, .int (-1), .int 0, .int 0, .int 0, .int 0, .int 0, .int 0, .int 0])), (q1, .inl (ca 1, 232, .inl (fun _ => 0))), (q3, .inl (ca 1, 134, .inl (fun _ => 0)))] H := hP
  have hD : va_D A [(h0, .inr (1, [.int 0, .ref q1, .ref q3, .int 0, .int 0, .null, .int 0, .int 0, .int (-1), .int 0, .int 0, .int 0, .int 0, .int 0, .int 0, .int 0])), (q1, .inl (ca 1, 232, .inl (fun _ => 0))), (q3, .inl (ca 1, 134, .inl (fun _ => 0)))] := hD
  refine lv_aload_n hx hb dP_init_67 rfl (lv_at hl 0 rfl) ?_
  refine lv_iconst (v := 0) hx hb dP_init_68 (by decide) ?_
  refine va_put (D := D) (ci := 1) (v := .int 0) (ty := .boolean) (C := RP) (T := TP) (N := 16) hx hb hts inP tyP tyP_ok nmP hown hK hP hD hS 0 rfl rfl 12 (by decide) (hts _ tw_107) (fun _ h9 => h9) rfl (by decide +kernel) (by decide) (by decide) (Nat.le_of_ble_eq_true rfl) dP_init_69 (fun H locs hP hD hS => ?_)
  have hP : va_P D clX [(h0, .inr (1, [.int 0, .ref q1, .ref q3, .int 0, .int 0, .null, .int 0, .int 0, .int (-1), .int 0, .int 0, .int 0, .int 0, .int 0, .int 0, .int 0])), (q1, .inl (ca 1, 232, .inl (fun _ => 0))), (q3, .inl (ca 1, 134, .inl (fun _ => 0)))] H := hP
  have hD : va_D A [(h0, .inr (1, [.int 0, .ref q1, .ref q3, .int 0, .int 0, .null, .int 0, .int 0, .int (-1), .int 0, .int 0, .int 0, .int 0, .int 0, .int 0, .int 0])), (q1, .inl (ca 1, 232, .inl (fun _ => 0))), (q3, .inl (ca 1, 134, .inl (fun _ => 0)))] := hD
  refine lv_aload_n hx hb dP_init_72 rfl (lv_at hl 0 rfl) ?_
  refine lv_iconst (v := (-1)) hx hb dP_init_73 (by decide) ?_
  refine va_put (D := D) (ci := 1) (v := .int (-1)) (ty := .int) (C := RP) (T := TP) (N := 16) hx hb hts inP tyP tyP_ok nmP hown hK hP hD hS 0 rfl rfl 13 (by decide) (hts _ tw_110) (fun _ h9 => h9) rfl (by decide +kernel) rfl rfl (Nat.le_of_ble_eq_true rfl) dP_init_74 (fun H locs hP hD hS => ?_)
  have hP : va_P D clX [(h0, .inr (1, [.int 0, .ref q1, .ref q3, .int 0, .int 0, .null, .int 0, .int 0, .int (-1), .int 0, .int 0, .int 0, .int 0, .int (-1), .int 0, .int 0])), (q1, .inl (ca 1, 232, .inl (fun _ => 0))), (q3, .inl (ca 1, 134, .inl (fun _ => 0)))] H := hP
  have hD : va_D A [(h0, .inr (1, [.int 0, .ref q1, .ref q3, .int 0, .int 0, .null, .int 0, .int 0, .int (-1), .int 0, .int 0, .int 0, .int 0, .int (-1), .int 0, .int 0])), (q1, .inl (ca 1, 232, .inl (fun _ => 0))), (q3, .inl (ca 1, 134, .inl (fun _ => 0)))] := hD
  refine lv_aload_n hx hb dP_init_77 rfl (lv_at hl 0 rfl) ?_
  refine lv_iconst (v := 0) hx hb dP_init_78 (by decide) ?_
  refine va_put (D := D) (ci := 1) (v := .int 0) (ty := .int) (C := RP) (T := TP) (N := 16) hx hb hts inP tyP tyP_ok nmP hown hK hP hD hS 0 rfl rfl 14 (by decide) (hts _ tw_112) (fun _ h9 => h9) rfl (by decide +kernel) rfl rfl (Nat.le_of_ble_eq_true rfl) dP_init_79 (fun H locs hP hD hS => ?_)
  have hP : va_P D clX [(h0, .inr (1, [.int 0, .ref q1, .ref q3, .int 0, .int 0, .null, .int 0, .int 0, .int (-1), .int 0, .int 0, .int 0, .int 0, .int (-1), .int 0, .int 0])), (q1, .inl (ca 1, 232, .inl (fun _ => 0))), (q3, .inl (ca 1, 134, .inl (fun _ => 0)))] H := hP
  have hD : va_D A [(h0, .inr (1, [.int 0, .ref q1, .ref q3, .int 0, .int 0, .null, .int 0, .int 0, .int (-1), .int 0, .int 0, .int 0, .int 0, .int (-1), .int 0, .int 0])), (q1, .inl (ca 1, 232, .inl (fun _ => 0))), (q3, .inl (ca 1, 134, .inl (fun _ => 0)))] := hD
  refine lv_aload_n hx hb dP_init_82 rfl (lv_at hl 0 rfl) ?_
  refine lv_iconst (v := 0) hx hb dP_init_83 (by decide) ?_
  refine va_put (D := D) (ci := 1) (v := .int 0) (ty := .boolean) (C := RP) (T := TP) (N := 16) hx hb hts inP tyP tyP_ok nmP hown hK hP hD hS 0 rfl rfl 15 (by decide) (hts _ tw_114) (fun _ h9 => h9) rfl (by decide +kernel) (by decide) (by decide) (Nat.le_of_ble_eq_true rfl) dP_init_84 (fun H locs hP hD hS => ?_)
  have hP : va_P D clX [(h0, .inr (1, [.int 0, .ref q1, .ref q3, .int 0, .int 0, .null, .int 0, .int 0, .int (-1), .int 0, .int 0, .int 0, .int 0, .int (-1), .int 0, .int 0])), (q1, .inl (ca 1, 232, .inl (fun _ => 0))), (q3, .inl (ca 1, 134, .inl (fun _ => 0)))] H := hP
  have hD : va_D A [(h0, .inr (1, [.int 0, .ref q1, .ref q3, .int 0, .int 0, .null, .int 0, .int 0, .int (-1), .int 0, .int 0, .int 0, .int 0, .int (-1), .int 0, .int 0])), (q1, .inl (ca 1, 232, .inl (fun _ => 0))), (q3, .inl (ca 1, 134, .inl (fun _ => 0)))] := hD
  refine lv_aload_n hx hb dP_init_87 rfl (lv_at hl 0 rfl) ?_
  refine lv_iload_n hx hb dP_init_88 rfl (lv_at hl 1 rfl) ?_
  refine va_putF (D := D) (ci := 1) (v := .int a0) (ty := .int) (C := RP) (T := TP) (N := 16) hx hb hts inP tyP tyP_ok nmP hown hK hP hD hS 0 rfl rfl 0 (by decide) (hts _ tw_77) (fun _ h9 => h9) rfl hin rfl (by decide +kernel) rfl rfl (Nat.le_of_ble_eq_true rfl) dP_init_89 (fun H locs hP hD hS => ?_)
  have hP : va_P D clX [(h0, .inr (1, [.int a0, .ref q1, .ref q3, .int 0, .int 0, .null, .int 0, .int 0, .int (-1), .int 0, .int 0, .int 0, .int 0, .int (-1), .int 0, .int 0])), (q1, .inl (ca 1, 232, .inl (fun _ => 0))), (q3, .inl (ca 1, 134, .inl (fun _ => 0)))] H := hP
  have hD : va_D A [(h0, .inr (1, [.int a0, .ref q1, .ref q3, .int 0, .int 0, .null, .int 0, .int 0, .int (-1), .int 0, .int 0, .int 0, .int 0, .int (-1), .int 0, .int 0])), (q1, .inl (ca 1, 232, .inl (fun _ => 0))), (q3, .inl (ca 1, 134, .inl (fun _ => 0)))] := hD
  refine W.widen (k := 2) (n := 366) (Nat.le_of_ble_eq_true rfl) (Nat.le_of_ble_eq_true rfl) ?_
  exact W.vret hx hb hr (fun t ht hW => ⟨⟨(q1, q3), rfl, trivial, by rw [ht]; exact hP, va_K.moved hW.alike hK, hD⟩, hS.F ht⟩) hS.2.2 dP_init_92
theorem dG_init_0 : decode cG_init 0 = .ok (.aload_n 0, 1) := by decide +kernel
theorem dG_init_1 : decode cG_init 1 = .ok (.invokespecial 3, 3) := by decide +kernel
theorem dG_init_4 : decode cG_init 4 = .ok (.aload_n 0, 1) := by decide +kernel
theorem dG_init_5 : decode cG_init 5 = .ok (.sipush 512, 3) := by decide +kernel
theorem dG_init_8 : decode cG_init 8 = .ok (.newarray .int, 2) := by decide +kernel
theorem dG_init_10 : decode cG_init 10 = .ok (.putfield 11, 3) := by decide +kernel
theorem dG_init_13 : decode cG_init 13 = .ok (.aload_n 0, 1) := by decide +kernel
theorem dG_init_14 : decode cG_init 14 = .ok (.iconst 0, 1) := by decide +kernel
theorem dG_init_15 : decode cG_init 15 = .ok (.putfield 15, 3) := by decide +kernel
theorem dG_init_18 : decode cG_init 18 = .ok (.return_, 1) := by decide +kernel
set_option maxHeartbeats 4000000 in
set_option maxRecDepth 100000 in
theorem c_initG (l : Launch) (D : va_G) (ca : Nat → ClassId) (h0 : Nat) (sz : Nat) : Met l yG_init wsG_init ({ frames := 1, cells := 1, slots := 512, locals := 12 }) (va_Pc [.ref h0] (fun U => U.heap.size = sz ∧ va_P D clX [(h0, .inr (3, [.null, .int 0]))] U.heap ∧ va_K D clX (tyA ca) U ∧ va_D (fun _ => True) [(h0, .inr (3, [.null, .int 0]))])) (va_Qv (fun _ : Nat => True) (fun u t => va_P D clX [(h0, .inr (3, [.ref u, .int 0])), (u, .inl (ca 0, 512, .inl (fun _ => 0)))] t.heap ∧ va_K D clX (tyA ca) t ∧ va_D (va_A [(h0, .inr (3, [.null, .int 0]))] sz) [(h0, .inr (3, [.ref u, .int 0])), (u, .inl (ca 0, 512, .inl (fun _ => 0)))]) (va_A [(h0, .inr (3, [.null, .int 0]))] sz)) 1 512 (va_A [(h0, .inr (3, [.null, .int 0]))] sz) := by
  refine Met.ofW (cc := cG_init) (maxL := 1) (ret := none) (by decide) rfl ?_
  intro p e s m args below meth c s₁ B hml hv
  obtain ⟨rfl, hsz, hP, hK, hD0⟩ := hv
  have hx := B.exec
  have hb := B.bytes
  have hr := B.returns
  have hts : ∀ w ∈ tbG, w.before _ s = true := fun w h => atoms_spec (ws := wsG_init) B.pre w (List.mem_cons_of_mem _ h)
  have hown : s.vm.findClass RG = some m.cls := findClass_of_methodNamed B.named
  have hlocks := B.notSynchronized
  have hin : meth.name = "<init>" := (name_of_methodNamed B.named B.method).1
  subst hsz
  have hD := hD0.self (sz := s.heap.size)
  generalize hAe : va_A [(h0, .inr (3, [.null, .int 0]))] s.heap.size = A at hD ⊢
  have hA : ∀ q : Nat, s.heap.size ≤ q → A q := fun q h => by rw [← hAe]; exact Or.inr h
  clear hAe
  have hS : va_S A s.heap s.heap [] := va_S.rf
  have hP : va_P D clX [(h0, .inr (3, [.null, .int 0]))] s.heap := hP
  have hl := lv_entry ([.ref h0]) (n := 1) (Nat.le_of_ble_eq_true rfl)
  rw [lg_entry_eq]
  generalize (lg_sl ([.ref h0]) ++ List.replicate (1 - (lg_sl ([.ref h0])).length) Slot.unset).toArray = ls at hl ⊢
  have hl : lv_has ls 1 [(0, .ref h0)] := hl
  refine lv_aload_n hx hb dG_init_0 rfl (lv_at hl 0 rfl) ?_
  refine W.objInit hx hb hown (hts _ tw_62) (hts _ tw_27) (hts _ tw_28) rfl (by rw [hml]; exact hl.1) rfl dG_init_1 (Nat.le_of_ble_eq_true rfl) (Nat.le_of_ble_eq_true rfl) ?_
  refine W.eq (g2 := F0 m 4 ls []) rfl ?_
  refine lv_aload_n hx hb dG_init_4 rfl (lv_at hl 0 rfl) ?_
  refine lv_sipush (v := 512) hx hb dG_init_5 (by decide) ?_
  refine va_newa (atype := .int) (ty := .int) (a0 := (512, .inl (fun _ => 0))) hx hb (hts _ tw_71) rfl hK hP hD hS hA (fun _ => rfl) (by decide) (N' := 512) (by decide) (by decide) (Nat.le_of_ble_eq_true rfl) (Nat.le_of_ble_eq_true rfl) dG_init_8 (fun q1 cA2 H hK hP hD hS => ?_)
  have e3 : cA2 = ca 0 := Option.some.inj ((hK.2 4 _ rfl).2.symm.trans (hK.2 0 _ rfl).2)
  subst e3
  have hK := hK.sub (tys' := tyA ca) [0, 1, 2, 3] rfl
  have hP : va_P D clX [(h0, .inr (3, [.null, .int 0])), (q1, .inl (ca 0, 512, .inl (fun _ => 0)))] H := hP
  have hD : va_D A [(h0, .inr (3, [.null, .int 0])), (q1, .inl (ca 0, 512, .inl (fun _ => 0)))] := hD
  refine W.widen (k := 1) (n := 512) (Nat.le_of_ble_eq_true rfl) (Nat.le_of_ble_eq_true rfl) ?_
  refine va_putF (D := D) (ci := 3) (v := .ref q1) (ty := (.array .int)) (C := RG) (T := TG) (N := 2) hx hb hts inG tyG tyG_ok nmG hown hK hP hD hS 0 rfl rfl 0 (by decide) (hts _ tw_63) (fun _ h9 => h9) rfl hin rfl (by decide +kernel) rfl rfl (Nat.le_of_ble_eq_true rfl) dG_init_10 (fun H locs hP hD hS => ?_)
  have hP : va_P D clX [(h0, .inr (3, [.ref q1, .int 0])), (q1, .inl (ca 0, 512, .inl (fun _ => 0)))] H := hP
  have hD : va_D A [(h0, .inr (3, [.ref q1, .int 0])), (q1, .inl (ca 0, 512, .inl (fun _ => 0)))] := hD
  refine lv_aload_n hx hb dG_init_13 rfl (lv_at hl 0 rfl) ?_
  refine lv_iconst (v := 0) hx hb dG_init_14 (by decide) ?_
  refine va_put (D := D) (ci := 3) (v := .int 0) (ty := .int) (C := RG) (T := TG) (N := 2) hx hb hts inG tyG tyG_ok nmG hown hK hP hD hS 0 rfl rfl 1 (by decide) (hts _ tw_64) (fun _ h9 => h9) rfl (by decide +kernel) rfl rfl (Nat.le_of_ble_eq_true rfl) dG_init_15 (fun H locs hP hD hS => ?_)
  have hP : va_P D clX [(h0, .inr (3, [.ref q1, .int 0])), (q1, .inl (ca 0, 512, .inl (fun _ => 0)))] H := hP
  have hD : va_D A [(h0, .inr (3, [.ref q1, .int 0])), (q1, .inl (ca 0, 512, .inl (fun _ => 0)))] := hD
  refine W.widen (k := 1) (n := 512) (Nat.le_of_ble_eq_true rfl) (Nat.le_of_ble_eq_true rfl) ?_
  exact W.vret hx hb hr (fun t ht hW => ⟨⟨q1, rfl, trivial, by rw [ht]; exact hP, va_K.moved hW.alike hK, hD⟩, hS.F ht⟩) hS.2.2 dG_init_18
theorem dD_init_0 : decode cD_init 0 = .ok (.aload_n 0, 1) := by decide +kernel
theorem dD_init_1 : decode cD_init 1 = .ok (.invokespecial 1, 3) := by decide +kernel
theorem dD_init_4 : decode cD_init 4 = .ok (.return_, 1) := by decide +kernel
set_option maxHeartbeats 4000000 in
set_option maxRecDepth 100000 in
theorem c_initD (l : Launch) (D : va_G) (ca : Nat → ClassId) (h0 : Nat) (sz : Nat) : Met l yD_init wsD_init ({ frames := 1, cells := 0, slots := 0, locals := 12 }) (va_Pc [.ref h0] (fun U => U.heap.size = sz ∧ va_P D clX [(h0, .inr (4, [.int 0, .null, .int 0]))] U.heap ∧ va_K D clX (tyA ca) U ∧ va_D (fun _ => True) [(h0, .inr (4, [.int 0, .null, .int 0]))])) (va_Qv (fun _ : Unit => True) (fun u t => va_P D clX [(h0, .inr (4, [.int 0, .null, .int 0]))] t.heap ∧ va_K D clX (tyA ca) t ∧ va_D (va_A [(h0, .inr (4, [.int 0, .null, .int 0]))] sz) [(h0, .inr (4, [.int 0, .null, .int 0]))]) (va_A [(h0, .inr (4, [.int 0, .null, .int 0]))] sz)) 0 0 (va_A [(h0, .inr (4, [.int 0, .null, .int 0]))] sz) := by
  refine Met.ofW (cc := cD_init) (maxL := 1) (ret := none) (by decide) rfl ?_
  intro p e s m args below meth c s₁ B hml hv
  obtain ⟨rfl, hsz, hP, hK, hD0⟩ := hv
  have hx := B.exec
  have hb := B.bytes
  have hr := B.returns
  have hts : ∀ w ∈ tbG, w.before _ s = true := fun w h => atoms_spec (ws := wsD_init) B.pre w (List.mem_cons_of_mem _ h)
  have hown : s.vm.findClass RD = some m.cls := findClass_of_methodNamed B.named
  have hlocks := B.notSynchronized
  have hin : meth.name = "<init>" := (name_of_methodNamed B.named B.method).1
  subst hsz
  have hD := hD0.self (sz := s.heap.size)
  generalize hAe : va_A [(h0, .inr (4, [.int 0, .null, .int 0]))] s.heap.size = A at hD ⊢
  have hA : ∀ q : Nat, s.heap.size ≤ q → A q := fun q h => by rw [← hAe]; exact Or.inr h
  clear hAe
  have hS : va_S A s.heap s.heap [] := va_S.rf
  have hP : va_P D clX [(h0, .inr (4, [.int 0, .null, .int 0]))] s.heap := hP
  have hl := lv_entry ([.ref h0]) (n := 1) (Nat.le_of_ble_eq_true rfl)
  rw [lg_entry_eq]
  generalize (lg_sl ([.ref h0]) ++ List.replicate (1 - (lg_sl ([.ref h0])).length) Slot.unset).toArray = ls at hl ⊢
  have hl : lv_has ls 1 [(0, .ref h0)] := hl
  refine lv_aload_n hx hb dD_init_0 rfl (lv_at hl 0 rfl) ?_
  refine W.objInit hx hb hown (hts _ tw_42) (hts _ tw_27) (hts _ tw_28) rfl (by rw [hml]; exact hl.1) rfl dD_init_1 (Nat.le_of_ble_eq_true rfl) (Nat.le_of_ble_eq_true rfl) ?_
  refine W.eq (g2 := F0 m 4 ls []) rfl ?_
  refine W.widen (k := 0) (n := 0) (Nat.le_of_ble_eq_true rfl) (Nat.le_of_ble_eq_true rfl) ?_
  exact W.vret hx hb hr (fun t ht hW => ⟨⟨(), rfl, trivial, by rw [ht]; exact hP, va_K.moved hW.alike hK, hD⟩, hS.F ht⟩) hS.2.2 dD_init_4
theorem dB_init_0 : decode cB_init 0 = .ok (.aload_n 0, 1) := by decide +kernel
theorem dB_init_1 : decode cB_init 1 = .ok (.invokespecial 1, 3) := by decide +kernel
theorem dB_init_4 : decode cB_init 4 = .ok (.aload_n 0, 1) := by decide +kernel
theorem dB_init_5 : decode cB_init 5 = .ok (.iconst 0, 1) := by decide +kernel
theorem dB_init_6 : decode cB_init 6 = .ok (.putfield 7, 3) := by decide +kernel
theorem dB_init_9 : decode cB_init 9 = .ok (.return_, 1) := by decide +kernel
set_option maxHeartbeats 4000000 in
set_option maxRecDepth 100000 in
theorem c_initB (l : Launch) (D : va_G) (ca : Nat → ClassId) (h0 : Nat) (sz : Nat) : Met l yB_init wsB_init ({ frames := 2, cells := 0, slots := 0, locals := 32 }) (va_Pc [.ref h0] (fun U => U.heap.size = sz ∧ va_P D clX [(h0, .inr (4, [.int 0, .null, .int 0]))] U.heap ∧ va_K D clX (tyA ca) U ∧ va_D (fun _ => True) [(h0, .inr (4, [.int 0, .null, .int 0]))])) (va_Qv (fun _ : Unit => True) (fun u t => va_P D clX [(h0, .inr (4, [.int 0, .null, .int 0]))] t.heap ∧ va_K D clX (tyA ca) t ∧ va_D (va_A [(h0, .inr (4, [.int 0, .null, .int 0]))] sz) [(h0, .inr (4, [.int 0, .null, .int 0]))]) (va_A [(h0, .inr (4, [.int 0, .null, .int 0]))] sz)) 0 0 (va_A [(h0, .inr (4, [.int 0, .null, .int 0]))] sz) := by
  refine Met.ofW (cc := cB_init) (maxL := 1) (ret := none) (by decide) rfl ?_
  intro p e s m args below meth c s₁ B hml hv
  obtain ⟨rfl, hsz, hP, hK, hD0⟩ := hv
  have hx := B.exec
  have hb := B.bytes
  have hr := B.returns
  have hts : ∀ w ∈ tbG, w.before _ s = true := fun w h => atoms_spec (ws := wsB_init) B.pre w (List.mem_cons_of_mem _ h)
  have hown : s.vm.findClass RB = some m.cls := findClass_of_methodNamed B.named
  have hlocks := B.notSynchronized
  have hin : meth.name = "<init>" := (name_of_methodNamed B.named B.method).1
  subst hsz
  have hD := hD0.self (sz := s.heap.size)
  generalize hAe : va_A [(h0, .inr (4, [.int 0, .null, .int 0]))] s.heap.size = A at hD ⊢
  have hA : ∀ q : Nat, s.heap.size ≤ q → A q := fun q h => by rw [← hAe]; exact Or.inr h
  clear hAe
  have hS : va_S A s.heap s.heap [] := va_S.rf
  have hP : va_P D clX [(h0, .inr (4, [.int 0, .null, .int 0]))] s.heap := hP
  have hl := lv_entry ([.ref h0]) (n := 1) (Nat.le_of_ble_eq_true rfl)
  rw [lg_entry_eq]
  generalize (lg_sl ([.ref h0]) ++ List.replicate (1 - (lg_sl ([.ref h0])).length) Slot.unset).toArray = ls at hl ⊢
  have hl : lv_has ls 1 [(0, .ref h0)] := hl
  refine lv_aload_n hx hb dB_init_0 rfl (lv_at hl 0 rfl) ?_
  have hPc := hP.sub (ws' := [(h0, .inr (4, [.int 0, .null, .int 0]))]) [0] rfl
  have hDc := hD.sub (ws' := [(h0, .inr (4, [.int 0, .null, .int 0]))]) [0] (by decide) rfl
  have hFc := va_free (wc := [(h0, .inr (4, [.int 0, .null, .int 0]))]) hD hS hA [0] rfl
  refine va_callv (va_runI (As := []) (rest := []) ⟨hx, hb, hml, hown, hts⟩ (c_initD l D ca h0 _) (cwI 0 hts (gB tw_41) rfl rfl rfl (hts _ tw_2) (hts _ tw_39) (hts _ tw_40) rfl (by decide +kernel) ⟨Nat.le_of_ble_eq_true rfl, Nat.le_of_ble_eq_true rfl⟩) ⟨fun a U g mk q => by obtain ⟨q0, q1, qP, qK, qD⟩ := q; exact ⟨q0, q1, qP, va_K.moved (u := U) (U := U.calling g mk a) (Vm.Alike.refl U.vm) qK, qD⟩, fun U hU hW => ⟨rfl, by rw [hU], by rw [hU]; exact hPc, va_K.moved hW.alike hK, hDc.weaken (fun _ _ _ _ => trivial)⟩⟩ rfl rfl hl.1 rfl (lv_room (Nat.le_of_ble_eq_true rfl)) dB_init_1 ⟨Nat.le_of_ble_eq_true rfl, Nat.le_of_ble_eq_true rfl⟩) hS (fun q _ h => hFc q h) hFc (fun u9 t H1 locs ht hvm hw hB hz1 hk1 hS => ?_)
  obtain ⟨hP1, -, hD1⟩ := hB
  rw [ht] at hP1
  obtain ⟨hP, hD⟩ := va_join (wr := []) (w1 := [(h0, .inr (4, [.int 0, .null, .int 0]))]) hP hD [0] [] rfl rfl (by decide) (by decide) hk1 hFc hP1 hD1
  generalize H1 = H at hP hS ⊢
  have hP : va_P D clX [(h0, .inr (4, [.int 0, .null, .int 0]))] H := hP
  have hD : va_D A [(h0, .inr (4, [.int 0, .null, .int 0]))] := hD
  refine W.widen (k := 0) (n := 0) (Nat.le_of_ble_eq_true rfl) (Nat.le_of_ble_eq_true rfl) ?_
  refine lv_aload_n hx hb dB_init_4 rfl (lv_at hl 0 rfl) ?_
  refine lv_iconst (v := 0) hx hb dB_init_5 (by decide) ?_
  refine va_put (D := D) (ci := 4) (v := .int 0) (ty := .int) (C := RL) (T := TL) (N := 3) hx hb hts inL tyL tyL_ok nmL hown hK hP hD hS 0 rfl rfl 0 (by decide) (hts _ tw_47) (fun _ h9 => h9) rfl (by decide +kernel) rfl rfl (Nat.le_of_ble_eq_true rfl) dB_init_6 (fun H locs hP hD hS => ?_)
  have hP : va_P D clX [(h0, .inr (4, [.int 0, .null, .int 0]))] H := hP
  have hD : va_D A [(h0, .inr (4, [.int 0, .null, .int 0]))] := hD
  refine W.widen (k := 0) (n := 0) (Nat.le_of_ble_eq_true rfl) (Nat.le_of_ble_eq_true rfl) ?_
  exact W.vret hx hb hr (fun t ht hW => ⟨⟨(), rfl, trivial, by rw [ht]; exact hP, va_K.moved hW.alike hK, hD⟩, hS.F ht⟩) hS.2.2 dB_init_9
theorem dL_init_0 : decode cL_init 0 = .ok (.aload_n 0, 1) := by decide +kernel
theorem dL_init_1 : decode cL_init 1 = .ok (.invokespecial 1, 3) := by decide +kernel
theorem dL_init_4 : decode cL_init 4 = .ok (.aload_n 0, 1) := by decide +kernel
theorem dL_init_5 : decode cL_init 5 = .ok (.getstatic 39, 3) := by decide +kernel
theorem dL_init_8 : decode cL_init 8 = .ok (.putfield 9, 3) := by decide +kernel
theorem dL_init_11 : decode cL_init 11 = .ok (.return_, 1) := by decide +kernel
set_option maxHeartbeats 4000000 in
set_option maxRecDepth 100000 in
theorem c_initL (l : Launch) (D : va_G) (ca : Nat → ClassId) (h0 t0 : Nat) (sz : Nat) : Met l yL_init wsL_init ({ frames := 3, cells := 0, slots := 0, locals := 52 }) (va_Pc [.ref h0] (fun U => U.heap.size = sz ∧ va_P D clX [(h0, .inr (4, [.int 0, .null, .int 0]))] U.heap ∧ va_K D clX (tyA ca) U ∧ va_D (fun _ => True) [(h0, .inr (4, [.int 0, .null, .int 0]))] ∧ va_Z "java/util/ArrayList" "DEFAULTCAPACITY_EMPTY_ELEMENTDATA" "[Ljava/lang/Object;" (.ref t0) (va_A [(h0, .inr (4, [.int 0, .null, .int 0]))] sz) U U.heap)) (va_Qv (fun _ : Unit => True) (fun u t => va_P D clX [(h0, .inr (4, [.int 0, .ref t0, .int 0]))] t.heap ∧ va_K D clX (tyA ca) t ∧ va_D (va_A [(h0, .inr (4, [.int 0, .null, .int 0]))] sz) [(h0, .inr (4, [.int 0, .ref t0, .int 0]))]) (va_A [(h0, .inr (4, [.int 0, .null, .int 0]))] sz)) 0 0 (va_A [(h0, .inr (4, [.int 0, .null, .int 0]))] sz) := by
  refine Met.ofW (cc := cL_init) (maxL := 1) (ret := none) (by decide) rfl ?_
  intro p e s m args below meth c s₁ B hml hv
  obtain ⟨rfl, hsz, hP, hK, hD0, hE⟩ := hv
  have hx := B.exec
  have hb := B.bytes
  have hr := B.returns
  have hts : ∀ w ∈ tbG, w.before _ s = true := fun w h => atoms_spec (ws := wsL_init) B.pre w (List.mem_cons_of_mem _ h)
  have hown : s.vm.findClass RL = some m.cls := findClass_of_methodNamed B.named
  have hlocks := B.notSynchronized
  have hin : meth.name = "<init>" := (name_of_methodNamed B.named B.method).1
  subst hsz
  have hD := hD0.self (sz := s.heap.size)
  generalize hAe : va_A [(h0, .inr (4, [.int 0, .null, .int 0]))] s.heap.size = A at hD hE ⊢
  have hA : ∀ q : Nat, s.heap.size ≤ q → A q := fun q h => by rw [← hAe]; exact Or.inr h
  clear hAe
  have hS : va_S A s.heap s.heap [] := va_S.rf
  have hP : va_P D clX [(h0, .inr (4, [.int 0, .null, .int 0]))] s.heap := hP
  have hl := lv_entry ([.ref h0]) (n := 1) (Nat.le_of_ble_eq_true rfl)
  rw [lg_entry_eq]
  generalize (lg_sl ([.ref h0]) ++ List.replicate (1 - (lg_sl ([.ref h0])).length) Slot.unset).toArray = ls at hl ⊢
  have hl : lv_has ls 1 [(0, .ref h0)] := hl
  refine lv_aload_n hx hb dL_init_0 rfl (lv_at hl 0 rfl) ?_
  have hPc := hP.sub (ws' := [(h0, .inr (4, [.int 0, .null, .int 0]))]) [0] rfl
  have hDc := hD.sub (ws' := [(h0, .inr (4, [.int 0, .null, .int 0]))]) [0] (by decide) rfl
  have hFc := va_free (wc := [(h0, .inr (4, [.int 0, .null, .int 0]))]) hD hS hA [0] rfl
  refine va_callv (va_runI (As := []) (rest := []) ⟨hx, hb, hml, hown, hts⟩ (c_initB l D ca h0 _) (cwI 0 hts (gB tw_38) rfl rfl rfl (hts _ tw_3) (hts _ tw_36) (hts _ tw_37) rfl (by decide +kernel) ⟨Nat.le_of_ble_eq_true rfl, Nat.le_of_ble_eq_true rfl⟩) ⟨fun a U g mk q => by obtain ⟨q0, q1, qP, qK, qD⟩ := q; exact ⟨q0, q1, qP, va_K.moved (u := U) (U := U.calling g mk a) (Vm.Alike.refl U.vm) qK, qD⟩, fun U hU hW => ⟨rfl, by rw [hU], by rw [hU]; exact hPc, va_K.moved hW.alike hK, hDc.weaken (fun _ _ _ _ => trivial)⟩⟩ rfl rfl hl.1 rfl (lv_room (Nat.le_of_ble_eq_true rfl)) dL_init_1 ⟨Nat.le_of_ble_eq_true rfl, Nat.le_of_ble_eq_true rfl⟩) hS (fun q _ h => hFc q h) hFc (fun u9 t H1 locs ht hvm hw hB hz1 hk1 hS => ?_)
  obtain ⟨hP1, -, hD1⟩ := hB
  rw [ht] at hP1
  obtain ⟨hP, hD⟩ := va_join (wr := []) (w1 := [(h0, .inr (4, [.int 0, .null, .int 0]))]) hP hD [0] [] rfl rfl (by decide) (by decide) hk1 hFc hP1 hD1
  generalize H1 = H at hP hS ⊢
  have hP : va_P D clX [(h0, .inr (4, [.int 0, .null, .int 0]))] H := hP
  have hD : va_D A [(h0, .inr (4, [.int 0, .null, .int 0]))] := hD
  refine W.widen (k := 0) (n := 0) (Nat.le_of_ble_eq_true rfl) (Nat.le_of_ble_eq_true rfl) ?_
  refine lv_aload_n hx hb dL_init_4 rfl (lv_at hl 0 rfl) ?_
  refine va_gets (v := .ref t0) hx hb hE hS hown (hts _ tw_43) (fun _ h9 => h9) dL_init_5 ?_
  refine va_put (D := D) (ci := 4) (v := .ref t0) (ty := (.array (.object "java/lang/Object"))) (C := RL) (T := TL) (N := 3) hx hb hts inL tyL tyL_ok nmL hown hK hP hD hS 0 rfl rfl 1 (by decide) (hts _ tw_45) (fun _ h9 => h9) rfl (by decide +kernel) rfl rfl (Nat.le_of_ble_eq_true rfl) dL_init_8 (fun H locs hP hD hS => ?_)
  have hP : va_P D clX [(h0, .inr (4, [.int 0, .ref t0, .int 0]))] H := hP
  have hD : va_D A [(h0, .inr (4, [.int 0, .ref t0, .int 0]))] := hD
  refine W.widen (k := 0) (n := 0) (Nat.le_of_ble_eq_true rfl) (Nat.le_of_ble_eq_true rfl) ?_
  exact W.vret hx hb hr (fun t ht hW => ⟨⟨(), rfl, trivial, by rw [ht]; exact hP, va_K.moved hW.alike hK, hD⟩, hS.F ht⟩) hS.2.2 dL_init_11
