theorem dH_ask_0 : decode cH_ask 0 = .ok (.aload_n 0, 1) := by decide +kernel
theorem dH_ask_1 : decode cH_ask 1 = .ok (.invokevirtual 61, 3) := by decide +kernel
theorem dH_ask_4 : decode cH_ask 4 = .ok (.istore 5, 2) := by decide +kernel
theorem dH_ask_6 : decode cH_ask 6 = .ok (.aload_n 0, 1) := by decide +kernel
theorem dH_ask_7 : decode cH_ask 7 = .ok (.iload_n 1, 1) := by decide +kernel
theorem dH_ask_8 : decode cH_ask 8 = .ok (.invokevirtual 65, 3) := by decide +kernel
theorem dH_ask_11 : decode cH_ask 11 = .ok (.astore 6, 2) := by decide +kernel
theorem dH_ask_13 : decode cH_ask 13 = .ok (.iload_n 2, 1) := by decide +kernel
theorem dH_ask_14 : decode cH_ask 14 = .ok (.iload_n 3, 1) := by decide +kernel
theorem dH_ask_15 : decode cH_ask 15 = .ok (.iload 4, 2) := by decide +kernel
theorem dH_ask_17 : decode cH_ask 17 = .ok (.iload 5, 2) := by decide +kernel
theorem dH_ask_19 : decode cH_ask 19 = .ok (.invokestatic 69, 3) := by decide +kernel
theorem dH_ask_22 : decode cH_ask 22 = .ok (.ifCond .ne 13, 3) := by decide +kernel
theorem dH_ask_25 : decode cH_ask 25 = .ok (.new 49, 3) := by decide +kernel
theorem dH_ask_28 : decode cH_ask 28 = .ok (.dup, 1) := by decide +kernel
theorem dH_ask_29 : decode cH_ask 29 = .ok (.ldc 73, 2) := by decide +kernel
theorem dH_ask_31 : decode cH_ask 31 = .ok (.invokespecial 53, 3) := by decide +kernel
theorem dH_ask_34 : decode cH_ask 34 = .ok (.athrow, 1) := by decide +kernel
theorem dH_ask_35 : decode cH_ask 35 = .ok (.aload_n 0, 1) := by decide +kernel
theorem dH_ask_36 : decode cH_ask 36 = .ok (.getfield 18, 3) := by decide +kernel
theorem dH_ask_39 : decode cH_ask 39 = .ok (.invokevirtual 75, 3) := by decide +kernel
theorem dH_ask_42 : decode cH_ask 42 = .ok (.istore 7, 2) := by decide +kernel
theorem dH_ask_44 : decode cH_ask 44 = .ok (.aload 6, 2) := by decide +kernel
theorem dH_ask_46 : decode cH_ask 46 = .ok (.invokevirtual 78, 3) := by decide +kernel
theorem dH_ask_49 : decode cH_ask 49 = .ok (.ifCond .ne 11, 3) := by decide +kernel
theorem dH_ask_52 : decode cH_ask 52 = .ok (.iload 7, 2) := by decide +kernel
theorem dH_ask_54 : decode cH_ask 54 = .ok (.sipush 1024, 3) := by decide +kernel
theorem dH_ask_57 : decode cH_ask 57 = .ok (.if_icmp .lt 13, 3) := by decide +kernel
theorem dH_ask_60 : decode cH_ask 60 = .ok (.new 56, 3) := by decide +kernel
theorem dH_ask_63 : decode cH_ask 63 = .ok (.dup, 1) := by decide +kernel
theorem dH_ask_64 : decode cH_ask 64 = .ok (.ldc 82, 2) := by decide +kernel
theorem dH_ask_66 : decode cH_ask 66 = .ok (.invokespecial 60, 3) := by decide +kernel
theorem dH_ask_69 : decode cH_ask 69 = .ok (.athrow, 1) := by decide +kernel
theorem dH_ask_70 : decode cH_ask 70 = .ok (.new 84, 3) := by decide +kernel
theorem dH_ask_73 : decode cH_ask 73 = .ok (.dup, 1) := by decide +kernel
theorem dH_ask_74 : decode cH_ask 74 = .ok (.iload_n 1, 1) := by decide +kernel
theorem dH_ask_75 : decode cH_ask 75 = .ok (.iload_n 2, 1) := by decide +kernel
theorem dH_ask_76 : decode cH_ask 76 = .ok (.aload_n 0, 1) := by decide +kernel
theorem dH_ask_77 : decode cH_ask 77 = .ok (.invokevirtual 86, 3) := by decide +kernel
theorem dH_ask_80 : decode cH_ask 80 = .ok (.invokespecial 89, 3) := by decide +kernel
theorem dH_ask_83 : decode cH_ask 83 = .ok (.astore 8, 2) := by decide +kernel
theorem dH_ask_85 : decode cH_ask 85 = .ok (.aload_n 0, 1) := by decide +kernel
theorem dH_ask_86 : decode cH_ask 86 = .ok (.getfield 18, 3) := by decide +kernel
theorem dH_ask_89 : decode cH_ask 89 = .ok (.aload 8, 2) := by decide +kernel
theorem dH_ask_91 : decode cH_ask 91 = .ok (.invokevirtual 92, 3) := by decide +kernel
theorem dH_ask_94 : decode cH_ask 94 = .ok (.pop, 1) := by decide +kernel
theorem dH_ask_95 : decode cH_ask 95 = .ok (.aload 6, 2) := by decide +kernel
theorem dH_ask_97 : decode cH_ask 97 = .ok (.aload 8, 2) := by decide +kernel
theorem dH_ask_99 : decode cH_ask 99 = .ok (.aload_n 0, 1) := by decide +kernel
theorem dH_ask_100 : decode cH_ask 100 = .ok (.getfield 29, 3) := by decide +kernel
theorem dH_ask_103 : decode cH_ask 103 = .ok (.iload 5, 2) := by decide +kernel
theorem dH_ask_105 : decode cH_ask 105 = .ok (.invokevirtual 96, 3) := by decide +kernel
theorem dH_ask_108 : decode cH_ask 108 = .ok (.iload_n 2, 1) := by decide +kernel
theorem dH_ask_109 : decode cH_ask 109 = .ok (.invokestatic 100, 3) := by decide +kernel
theorem dH_ask_112 : decode cH_ask 112 = .ok (.ifCond .eq 21, 3) := by decide +kernel
theorem dH_ask_115 : decode cH_ask 115 = .ok (.aload 6, 2) := by decide +kernel
theorem dH_ask_117 : decode cH_ask 117 = .ok (.getfield 104, 3) := by decide +kernel
theorem dH_ask_120 : decode cH_ask 120 = .ok (.iconst (-1), 1) := by decide +kernel
theorem dH_ask_121 : decode cH_ask 121 = .ok (.if_icmp .ne 12, 3) := by decide +kernel
theorem dH_ask_124 : decode cH_ask 124 = .ok (.aload_n 0, 1) := by decide +kernel
theorem dH_ask_125 : decode cH_ask 125 = .ok (.aload 6, 2) := by decide +kernel
theorem dH_ask_127 : decode cH_ask 127 = .ok (.invokevirtual 107, 3) := by decide +kernel
theorem dH_ask_130 : decode cH_ask 130 = .ok (.goto 9, 3) := by decide +kernel
theorem dH_ask_133 : decode cH_ask 133 = .ok (.aload_n 0, 1) := by decide +kernel
theorem dH_ask_134 : decode cH_ask 134 = .ok (.aload 6, 2) := by decide +kernel
theorem dH_ask_136 : decode cH_ask 136 = .ok (.invokevirtual 111, 3) := by decide +kernel
theorem dH_ask_139 : decode cH_ask 139 = .ok (.iload 7, 2) := by decide +kernel
theorem dH_ask_141 : decode cH_ask 141 = .ok (.ireturn, 1) := by decide +kernel
def wp_askInit (post : Sg → Prop) (σ : Sg) (i : Nat) (a0 : Int32) (a1 : Int32) (a2 : Int32) : Prop := post (uH 2 i a2 (uH 1 i a1 (uH 0 i a0 (uH 5 i (-1) (uH 4 i 0 (uH 3 i (-1) σ))))))
set_option maxHeartbeats 4000000 in
set_option maxRecDepth 100000 in
theorem c_askInit (l : Launch) (D : va_G) (ca : Nat → ClassId) (ad : Nat → Nat → Nat) (σ : Sg) (i : Nat) (hi : i < sN σ) (a0 : Int32) (a1 : Int32) (a2 : Int32) (sz : Nat) (post : Sg → Prop) (hw : wp_askInit post σ i a0 a1 a2) : Met l yQ_init wsQ_init ({ frames := 1, cells := 0, slots := 0, locals := 12 }) (va_Pc [.ref (ad 10 i), .int a0, .int a1, .int a2] (preX D ca ad σ sz)) (va_Qv post (atX D ca ad (va_A (wX ca ad σ) sz)) (va_A (wX ca ad σ) sz)) 0 0 (va_A (wX ca ad σ) sz) := by
  refine Met.ofW (cc := cQ_init) (maxL := 4) (ret := none) (by decide) rfl ?_
  intro p e s m args below meth c s₁ B hml hv
  obtain ⟨rfl, hsz, hP, hK, hD0, hE⟩ := hv
  have hx := B.exec
  have hb := B.bytes
  have hr := B.returns
  have hts : ∀ w ∈ tbG, w.before _ s = true := fun w h => atoms_spec (ws := wsQ_init) B.pre w (List.mem_cons_of_mem _ h)
  have hown : s.vm.findClass RQ = some m.cls := findClass_of_methodNamed B.named
  have hlocks := B.notSynchronized
  have hin : meth.name = "<init>" := (name_of_methodNamed B.named B.method).1
  subst hsz
  have hD := hD0.self (sz := s.heap.size)
  generalize hAe : va_A (wX ca ad σ) s.heap.size = A at hD hE ⊢
  have hA : ∀ q : Nat, s.heap.size ≤ q → A q := fun q h => by rw [← hAe]; exact Or.inr h
  clear hAe
  have hS : va_S A s.heap s.heap [] := va_S.rf
  have hl := lv_entry ([.ref (ad 10 i), .int a0, .int a1, .int a2]) (n := 4) (Nat.le_of_ble_eq_true rfl)
  rw [lg_entry_eq]
  generalize (lg_sl ([.ref (ad 10 i), .int a0, .int a1, .int a2]) ++ List.replicate (4 - (lg_sl ([.ref (ad 10 i), .int a0, .int a1, .int a2])).length) Slot.unset).toArray = ls at hl ⊢
  have hl : lv_has ls 4 [(0, .ref (ad 10 i)), (1, .int a0), (2, .int a1), (3, .int a2)] := hl
  unfold wp_askInit at hw
  have hP : va_P D clX (wX ca ad σ) s.heap := hP
  refine lv_aload_n hx hb dQ_init_0 rfl (lv_at hl 0 rfl) ?_
  refine W.objInit hx hb hown (hts _ tw_349) (hts _ tw_27) (hts _ tw_28) rfl (by rw [hml]; exact hl.1) rfl dQ_init_1 (Nat.le_of_ble_eq_true rfl) (Nat.le_of_ble_eq_true rfl) ?_
  refine W.eq (g2 := F0 m 4 ls []) rfl ?_
  refine lv_aload_n hx hb dQ_init_4 rfl (lv_at hl 0 rfl) ?_
  refine lv_iconst (v := (-1)) hx hb dQ_init_5 (by decide) ?_
  refine va_put (D := D) (ci := 2) (v := .int (-1)) (ty := .int) (C := RQ) (T := TQ) (N := 6) hx hb hts inQ tyQ tyQ_ok nmQ hown hK hP hD hS (6 + (8 + (8 + (8 + i)))) (gX_10 hi) rfl 3 (by decide) (hts _ tw_357) (fun _ h9 => h9) rfl (by decide +kernel) rfl rfl (Nat.le_of_ble_eq_true rfl) dQ_init_6 (fun H locs hP hD hS => ?_)
  rw [sX_10_3 (σ := σ) hi] at hP hD
  refine lv_aload_n hx hb dQ_init_9 rfl (lv_at hl 0 rfl) ?_
  refine lv_iconst (v := 0) hx hb dQ_init_10 (by decide) ?_
  refine va_put (D := D) (ci := 2) (v := .int 0) (ty := .int) (C := RQ) (T := TQ) (N := 6) hx hb hts inQ tyQ tyQ_ok nmQ hown hK hP hD hS (6 + (8 + (8 + (8 + i)))) (gX_10 hi) rfl 4 (by decide) (hts _ tw_359) (fun _ h9 => h9) rfl (by decide +kernel) rfl rfl (Nat.le_of_ble_eq_true rfl) dQ_init_11 (fun H locs hP hD hS => ?_)
  rw [sX_10_4 (σ := (uH 3 i (-1) σ)) hi] at hP hD
  refine lv_aload_n hx hb dQ_init_14 rfl (lv_at hl 0 rfl) ?_
  refine lv_iconst (v := (-1)) hx hb dQ_init_15 (by decide) ?_
  refine va_put (D := D) (ci := 2) (v := .int (-1)) (ty := .int) (C := RQ) (T := TQ) (N := 6) hx hb hts inQ tyQ tyQ_ok nmQ hown hK hP hD hS (6 + (8 + (8 + (8 + i)))) (gX_10 hi) rfl 5 (by decide) (hts _ tw_361) (fun _ h9 => h9) rfl (by decide +kernel) rfl rfl (Nat.le_of_ble_eq_true rfl) dQ_init_16 (fun H locs hP hD hS => ?_)
  rw [sX_10_5 (σ := (uH 4 i 0 (uH 3 i (-1) σ))) hi] at hP hD
  refine lv_aload_n hx hb dQ_init_19 rfl (lv_at hl 0 rfl) ?_
  refine lv_iload_n hx hb dQ_init_20 rfl (lv_at hl 1 rfl) ?_
  refine va_putF (D := D) (ci := 2) (v := .int a0) (ty := .int) (C := RQ) (T := TQ) (N := 6) hx hb hts inQ tyQ tyQ_ok nmQ hown hK hP hD hS (6 + (8 + (8 + (8 + i)))) (gX_10 hi) rfl 0 (by decide) (hts _ tw_350) (fun _ h9 => h9) rfl hin rfl (by decide +kernel) rfl rfl (Nat.le_of_ble_eq_true rfl) dQ_init_21 (fun H locs hP hD hS => ?_)
  rw [sX_10_0 (σ := (uH 5 i (-1) (uH 4 i 0 (uH 3 i (-1) σ)))) hi] at hP hD
  refine lv_aload_n hx hb dQ_init_24 rfl (lv_at hl 0 rfl) ?_
  refine lv_iload_n hx hb dQ_init_25 rfl (lv_at hl 2 rfl) ?_
  refine va_putF (D := D) (ci := 2) (v := .int a1) (ty := .int) (C := RQ) (T := TQ) (N := 6) hx hb hts inQ tyQ tyQ_ok nmQ hown hK hP hD hS (6 + (8 + (8 + (8 + i)))) (gX_10 hi) rfl 1 (by decide) (hts _ tw_352) (fun _ h9 => h9) rfl hin rfl (by decide +kernel) rfl rfl (Nat.le_of_ble_eq_true rfl) dQ_init_26 (fun H locs hP hD hS => ?_)
  rw [sX_10_1 (σ := (uH 0 i a0 (uH 5 i (-1) (uH 4 i 0 (uH 3 i (-1) σ))))) hi] at hP hD
  refine lv_aload_n hx hb dQ_init_29 rfl (lv_at hl 0 rfl) ?_
  refine lv_iload_n hx hb dQ_init_30 rfl (lv_at hl 3 rfl) ?_
  refine va_putF (D := D) (ci := 2) (v := .int a2) (ty := .int) (C := RQ) (T := TQ) (N := 6) hx hb hts inQ tyQ tyQ_ok nmQ hown hK hP hD hS (6 + (8 + (8 + (8 + i)))) (gX_10 hi) rfl 2 (by decide) (hts _ tw_355) (fun _ h9 => h9) rfl hin rfl (by decide +kernel) rfl rfl (Nat.le_of_ble_eq_true rfl) dQ_init_31 (fun H locs hP hD hS => ?_)
  rw [sX_10_2 (σ := (uH 1 i a1 (uH 0 i a0 (uH 5 i (-1) (uH 4 i 0 (uH 3 i (-1) σ)))))) hi] at hP hD
  exact W.vret hx hb hr (fun t ht hW => ⟨⟨(uH 2 i a2 (uH 1 i a1 (uH 0 i a0 (uH 5 i (-1) (uH 4 i 0 (uH 3 i (-1) σ)))))), rfl, hw, by rw [ht]; exact hP, va_K.moved hW.alike hK, hD⟩, hS.F ht⟩) hS.2.2 dQ_init_34
/-! ask: a new asking is one of the class's cells at once; the list takes it in -/
def NewOk (σ : Sg) : Prop := (∀ i, i < 8 → ∀ j, sR σ i = some j → j < sN σ) ∧ ∀ i j, sK σ i = some j → j < sN σ
theorem px_mg2 {Y E : va_W} {x : Nat × va_E} (k : Nat) (q : Nat × va_E) (h : ((Y ++ [x]) ++ E)[k]? = some q) : ((Y ++ E) ++ [x])[if k < Y.length then k else if k = Y.length then Y.length + E.length else k - 1]? = some q := by
  by_cases c : k < Y.length
  · rw [if_pos c, List.append_assoc, List.getElem?_append_left c]
    rw [List.append_assoc, List.getElem?_append_left c] at h
    exact h
  · rw [if_neg c]
    rw [List.append_assoc, List.getElem?_append_right (by omega)] at h
    by_cases d : k = Y.length
    · rw [if_pos d, List.getElem?_append_right (by rw [List.length_append]; omega), List.length_append, Nat.sub_self]
      rw [d, Nat.sub_self] at h
      exact h
    · rw [if_neg d]
      obtain ⟨z, hz⟩ : ∃ z, k - Y.length = z + 1 := ⟨k - Y.length - 1, by omega⟩
      rw [hz] at h
      have h2 : E[z]? = some q := h
      have hzl : z < E.length := (List.getElem?_eq_some_iff.mp h2).1
      rw [List.getElem?_append_left (by rw [List.length_append]; omega), List.getElem?_append_right (by omega), show k - 1 - Y.length = z by omega]
      exact h2
theorem px_nP {D : va_G} {cl : List vw_C} {Y E : va_W} {x : Nat × va_E} {H : Heap} (h : va_P D cl ((Y ++ E) ++ [x]) H) : va_P D cl ((Y ++ [x]) ++ E) H := va_P.by h _ px_mg2
theorem px_nD {A : Nat → Prop} {Y E : va_W} {x : Nat × va_E} (h : va_D A ((Y ++ E) ++ [x])) : va_D A ((Y ++ [x]) ++ E) := px_Dby h _ px_mg2 (fun i j hi hj e => by
  simp only [List.length_append, List.length_cons, List.length_nil] at hi hj
  repeat' (split at e)
  all_goals omega)
theorem wX_new {ca : Nat → ClassId} {ad : Nat → Nat → Nat} {σ : Sg} {q : Nat} (h : NewOk σ) : wX ca (up2 ad 10 (sN σ) q) (nQ σ) = ((w0 ca ad σ ++ (w6 ad σ ++ (w7 ca ad σ ++ (w8 ca ad σ ++ wQ ad σ)))) ++ [(q, .inr (2, [.int 0, .int 0, .int 0, .int 0, .int 0, .int 0]))]) ++ wE ca ad σ := by
  have e6 : w6 (up2 ad 10 (sN σ) q) (nQ σ) = w6 ad σ := by
    unfold w6
    apply List.map_congr_left
    intro i hi
    have hi8 := List.mem_range.mp hi
    have er : va_re (up2 ad 10 (sN σ) q 10) (sR σ i) = va_re (ad 10) (sR σ i) := by
      cases hr : sR σ i with
      | none => rfl
      | some j =>
        have hj := h.1 i hi8 j hr
        show va_rf (some (up2 ad 10 (sN σ) q 10 j)) = va_rf (some (ad 10 j))
        rw [show up2 ad 10 (sN σ) q 10 j = ad 10 j by simp [up2, Nat.ne_of_lt hj]]
    show (_, Sum.inr (1, fP (up2 ad 10 (sN σ) q) (nQ σ) i)) = (ad 6 i, Sum.inr (1, fP ad σ i))
    have ef : fP (up2 ad 10 (sN σ) q) (nQ σ) i = fP ad σ i := by
      unfold fP
      show [_, _, _, _, _, va_re (up2 ad 10 (sN σ) q 10) (sR σ i), _, _, _, _, _, _, _, _, _, _] = _
      rw [er]
      rfl
    rw [ef]
    rfl
  have eQ : wQ (up2 ad 10 (sN σ) q) (nQ σ) = wQ ad σ ++ [(q, .inr (2, [.int 0, .int 0, .int 0, .int 0, .int 0, .int 0]))] := by
    unfold wQ
    rw [show sN (nQ σ) = sN σ + 1 from rfl, List.range_succ, List.map_append]
    congr 1
    · apply List.map_congr_left
      intro j hj
      have hj := List.mem_range.mp hj
      have ne : ¬ j = sN σ := Nat.ne_of_lt hj
      have ef : fQ (nQ σ) j = fQ σ j := by
        unfold fQ sH nQ
        simp only [show ¬ j = σ.2.2.2.2.2.2.1 from ne, if_false]
      rw [ef, show up2 ad 10 (sN σ) q 10 j = ad 10 j by simp [up2, ne]]
    · have ef : fQ (nQ σ) (sN σ) = [.int 0, .int 0, .int 0, .int 0, .int 0, .int 0] := by
        unfold fQ sH nQ sN
        simp only [if_true]
      simp only [List.map_cons, List.map_nil]
      rw [ef, up2_s]
  have eE : wE ca (up2 ad 10 (sN σ) q) (nQ σ) = wE ca ad σ := by
    have ed : eD (up2 ad 10 (sN σ) q) (nQ σ) = eD ad σ := by
      funext i
      show (sK σ i).map (up2 ad 10 (sN σ) q 10) = (sK σ i).map (ad 10)
      cases hr : sK σ i with
      | none => rfl
      | some j =>
        have hj := h.2 i j hr
        show some _ = some _
        rw [show up2 ad 10 (sN σ) q 10 j = ad 10 j by simp [up2, Nat.ne_of_lt hj]]
    unfold wE
    rw [ed]
    rfl
  unfold wX
  rw [e6, eQ, eE]
  simp only [List.append_assoc]
  rfl
theorem wX_split {ca : Nat → ClassId} {ad : Nat → Nat → Nat} {σ : Sg} : wX ca ad σ = (w0 ca ad σ ++ (w6 ad σ ++ (w7 ca ad σ ++ (w8 ca ad σ ++ wQ ad σ)))) ++ wE ca ad σ := by
  simp only [wX, List.append_assoc]

def wpc_ask_C95 (post : Int32 → Sg → Prop) (px : String → Sg → Prop) (σ : Sg) (k6 : Nat) (k8 : Nat) (x1 : Int32) (x2 : Int32) (x5 : Int32) (x7 : Int32) : Prop := wp_begin (fun s1 => wp_isCommand (fun r4 s3 => (((r4 = 0) → wp_requestWhatWasAsked (fun s6 => post x7 s6) s3 k6) ∧ (¬ (r4 = 0) → ((¬ ((sF s3 8 k6) = (-1)) → wp_requestWhatWasAsked (fun s9 => post x7 s9) s3 k6) ∧ (((sF s3 8 k6) = (-1)) → wp_requestOpen (fun s11 => post x7 s11) s3 k6))))) s1 x2) σ k6 k8 x5
set_option maxHeartbeats 4000000 in
set_option maxRecDepth 100000 in
theorem k_ask_C95 {p : Program} {l : Launch} {e : Env} {s : State} {m : MethodId} {args : Array Value} {below : List Frame} {meth : Method} {c : Code} {D : va_G} {ca : Nat → ClassId} {ad ad0 : Nat → Nat → Nat} {A : Nat → Prop} {t0 mi : Nat} {post : Int32 → Sg → Prop} {px : String → Sg → Prop} (hx : p.tables.exec = Jvm.exec) (hb : c.code = cH_ask) (hr : meth.sig.returnType = (some .int)) (hml : c.maxLocals = 9) (hts : ∀ w ∈ tbG, w.before args s = true) (hown : s.vm.findClass RH = some m.cls) (hlocks : meth.locks = false) (hA : ∀ q : Nat, s.heap.size ≤ q → A q) (hK : va_K D clX (tyA ca) s) (hE : eX A s) (hl0 : l.stackTraces = false) (hexc : ∀ x ∈ c.exceptionTable.toList, False) (hL : eL t0 mi A s) (hA0 : ∀ k i, k ≤ 8 → ad k i = ad0 k i) (σ : Sg) (k6 : Nat) (hk6 : k6 < 8) (k8 : Nat) (hk8 : k8 < sN σ) (x1 : Int32) (x2 : Int32) (x5 : Int32) (x7 : Int32) (hw : wpc_ask_C95 post px σ k6 k8 x1 x2 x5 x7) : ∀ (H : Heap) (locs : List Loc), va_P D clX (wX ca ad σ) H → va_D A (wX ca ad σ) → va_S A s.heap H locs → ∀ ls : Array Slot, lv_has ls 9 [(0, .ref (ad 0 0)), (1, .int x1), (2, .int x2), (5, .int x5), (6, .ref (ad 6 k6)), (7, .int x7), (8, .ref (ad 10 k8))] → W p l e (headSpec wsH_ask ({ frames := 9, cells := 4, slots := 3100, locals := 260 })).room s m args below meth c H locs 3 3090 (vx_MQ below (va_Qi (fun (r : Int32) (u : (Nat → Nat → Nat) × Sg) => (∀ k i, k ≤ 8 → u.1 k i = ad0 k i) ∧ post r u.2) (fun u t => va_P D clX (wX ca u.1 u.2) t.heap ∧ va_K D clX (tyA ca) t ∧ va_D A (wX ca u.1 u.2)) A) (vx_X (fun u : String × Sg => px u.1 u.2) (atXx D ca ad0 A) A) args s 4 3100 A) (F0 m 95 ls []) := by
  intro H locs hP hD hS ls hl
  unfold wpc_ask_C95 at hw
  refine lv_aload hx hb dH_ask_95 (lv_at hl 4 rfl) ?_
  refine lv_aload hx hb dH_ask_97 (lv_at hl 6 rfl) ?_
  refine lv_aload_n hx hb dH_ask_99 rfl (lv_at hl 0 rfl) ?_
  refine va_get (D := D) (ci := 0) (v := .ref (ad 4 0)) (C := RH) (T := TH) (N := 8) hx hb hts inH hown hK hP 0 gX_0 rfl 3 (by decide) (hts _ tw_153) (fun _ h9 => h9) rfl dH_ask_100 ?_
  refine lv_iload hx hb dH_ask_103 (lv_at hl 3 rfl) ?_
  have hFc := px_free hD hS hA
  refine va_callv (va_runV (As := [.ref (ad 10 k8), .ref (ad 4 0), .int x5]) (rest := []) ⟨hx, hb, hml, hown, hts⟩ (c_begin l D ca ad σ k6 hk6 k8 hk8 x5 _ _ hw) (cwV 3 hts (gV tw_432 tw_433 tw_434 tw_6 tw_435) rfl rfl rfl (by decide +kernel) ⟨Nat.le_of_ble_eq_true rfl, Nat.le_of_ble_eq_true rfl⟩) ⟨px_blind, (px_recv hK hP (gX_6 hk6) rfl), fun U hU hW => px_pre hP hK hD hE hS hFc hU hW⟩ rfl rfl hl.1 rfl (lv_room (Nat.le_of_ble_eq_true rfl)) dH_ask_105 ⟨Nat.le_of_ble_eq_true rfl, Nat.le_of_ble_eq_true rfl⟩) hS (fun q _ h => hFc q h) hFc (fun s1 t H locs ht hvm hw hB _ _ hS => ?_)
  obtain ⟨hP, -, hD⟩ := hB
  rw [ht] at hP
  have hD := hD.weaken (fun _ _ _ h9 => hFc _ h9)
  refine W.widen (k := 3) (n := 3090) (by decide) (by decide) ?_
  refine lv_iload_n hx hb dH_ask_108 rfl (lv_at hl 2 rfl) ?_
  have hFc := px_free hD hS hA
  refine va_calli (va_runS (As := [.int x2]) (rest := []) ⟨hx, hb, hml, hown, hts⟩ (c_isCommand l D ca ad s1 x2 _ _ hw) (va_cwS 1 hts (gS tw_440 tw_441 tw_1 tw_442) rfl rfl rfl (by decide +kernel) ⟨Nat.le_of_ble_eq_true rfl, Nat.le_of_ble_eq_true rfl⟩) ⟨px_blind, fun U hU hW => px_pre hP hK hD hE hS hFc hU hW⟩ rfl rfl hl.1 rfl (lv_room (Nat.le_of_ble_eq_true rfl)) dH_ask_109 ⟨Nat.le_of_ble_eq_true rfl, Nat.le_of_ble_eq_true rfl⟩) hS (fun q _ h => hFc q h) hFc (fun r4 s3 t H locs ht hvm hw hB _ _ hS => ?_)
  obtain ⟨hP, -, hD⟩ := hB
  rw [ht] at hP
  have hD := hD.weaken (fun _ _ _ h9 => hFc _ h9)
  refine W.widen (k := 3) (n := 3090) (by decide) (by decide) ?_
  refine lv_if_eq (tgt := 133) hx hb dH_ask_112 (by decide) (fun c5 => ?_) (fun c5 => ?_)
  · have hw := hw.1 c5
    refine lv_aload_n hx hb dH_ask_133 rfl (lv_at hl 0 rfl) ?_
    refine lv_aload hx hb dH_ask_134 (lv_at hl 4 rfl) ?_
    have hFc := px_free hD hS hA
    refine va_callv (va_runV (As := [.ref (ad 6 k6)]) (rest := []) ⟨hx, hb, hml, hown, hts⟩ (c_requestWhatWasAsked l D ca ad s3 k6 hk6 _ _ hw) (cwV 1 hts (gV tw_472 tw_474 tp_13 tw_1 tw_475) rfl rfl rfl (by decide +kernel) ⟨Nat.le_of_ble_eq_true rfl, Nat.le_of_ble_eq_true rfl⟩) ⟨px_blind, (px_recv hK hP gX_0 rfl), fun U hU hW => px_pre hP hK hD hE hS hFc hU hW⟩ rfl rfl hl.1 rfl (lv_room (Nat.le_of_ble_eq_true rfl)) dH_ask_136 ⟨Nat.le_of_ble_eq_true rfl, Nat.le_of_ble_eq_true rfl⟩) hS (fun q _ h => hFc q h) hFc (fun s6 t H locs ht hvm hw hB _ _ hS => ?_)
    obtain ⟨hP, -, hD⟩ := hB
    rw [ht] at hP
    have hD := hD.weaken (fun _ _ _ h9 => hFc _ h9)
    refine W.widen (k := 3) (n := 3090) (by decide) (by decide) ?_
    refine lv_iload hx hb dH_ask_139 (lv_at hl 5 rfl) ?_
    refine W.widen (k := 4) (n := 3100) (by decide) (by decide) ?_
    exact vx_ret (W.iret (v := x7) hx hb hr (fun t ht hW => ⟨⟨x7, (ad, s6), rfl, ⟨hA0, hw⟩, by rw [ht]; exact hP, va_K.moved hW.alike hK, hD⟩, hS.F ht⟩) hS.2.2 dH_ask_141)
  · have hw := hw.2 c5
    refine lv_aload hx hb dH_ask_115 (lv_at hl 4 rfl) ?_
    refine va_get (D := D) (ci := 1) (v := .int (sF s3 8 k6)) (C := RP) (T := TP) (N := 16) hx hb hts inP hown hK hP (6 + k6) (gX_6 hk6) rfl 8 (by decide) (hts _ tw_98) (fun _ h9 => h9) rfl dH_ask_117 ?_
    refine lv_iconst (v := (-1)) hx hb dH_ask_120 (by decide) ?_
    refine lv_icmp_ne (tgt := 133) hx hb dH_ask_121 (by decide) (fun c8 => ?_) (fun c8 => ?_)
    · have hw := hw.1 c8
      refine lv_aload_n hx hb dH_ask_133 rfl (lv_at hl 0 rfl) ?_
      refine lv_aload hx hb dH_ask_134 (lv_at hl 4 rfl) ?_
      have hFc := px_free hD hS hA
      refine va_callv (va_runV (As := [.ref (ad 6 k6)]) (rest := []) ⟨hx, hb, hml, hown, hts⟩ (c_requestWhatWasAsked l D ca ad s3 k6 hk6 _ _ hw) (cwV 1 hts (gV tw_472 tw_474 tp_13 tw_1 tw_475) rfl rfl rfl (by decide +kernel) ⟨Nat.le_of_ble_eq_true rfl, Nat.le_of_ble_eq_true rfl⟩) ⟨px_blind, (px_recv hK hP gX_0 rfl), fun U hU hW => px_pre hP hK hD hE hS hFc hU hW⟩ rfl rfl hl.1 rfl (lv_room (Nat.le_of_ble_eq_true rfl)) dH_ask_136 ⟨Nat.le_of_ble_eq_true rfl, Nat.le_of_ble_eq_true rfl⟩) hS (fun q _ h => hFc q h) hFc (fun s9 t H locs ht hvm hw hB _ _ hS => ?_)
      obtain ⟨hP, -, hD⟩ := hB
      rw [ht] at hP
      have hD := hD.weaken (fun _ _ _ h9 => hFc _ h9)
      refine W.widen (k := 3) (n := 3090) (by decide) (by decide) ?_
      refine lv_iload hx hb dH_ask_139 (lv_at hl 5 rfl) ?_
      refine W.widen (k := 4) (n := 3100) (by decide) (by decide) ?_
      exact vx_ret (W.iret (v := x7) hx hb hr (fun t ht hW => ⟨⟨x7, (ad, s9), rfl, ⟨hA0, hw⟩, by rw [ht]; exact hP, va_K.moved hW.alike hK, hD⟩, hS.F ht⟩) hS.2.2 dH_ask_141)
    · have hw := hw.2 c8
      refine lv_aload_n hx hb dH_ask_124 rfl (lv_at hl 0 rfl) ?_
      refine lv_aload hx hb dH_ask_125 (lv_at hl 4 rfl) ?_
      have hFc := px_free hD hS hA
      refine va_callv (va_runV (As := [.ref (ad 6 k6)]) (rest := []) ⟨hx, hb, hml, hown, hts⟩ (c_requestOpen l D ca ad s3 k6 hk6 _ _ hw) (cwV 1 hts (gV tw_443 tw_445 tp_8 tw_1 tw_446) rfl rfl rfl (by decide +kernel) ⟨Nat.le_of_ble_eq_true rfl, Nat.le_of_ble_eq_true rfl⟩) ⟨px_blind, (px_recv hK hP gX_0 rfl), fun U hU hW => px_pre hP hK hD hE hS hFc hU hW⟩ rfl rfl hl.1 rfl (lv_room (Nat.le_of_ble_eq_true rfl)) dH_ask_127 ⟨Nat.le_of_ble_eq_true rfl, Nat.le_of_ble_eq_true rfl⟩) hS (fun q _ h => hFc q h) hFc (fun s11 t H locs ht hvm hw hB _ _ hS => ?_)
      obtain ⟨hP, -, hD⟩ := hB
      rw [ht] at hP
      have hD := hD.weaken (fun _ _ _ h9 => hFc _ h9)
      refine W.widen (k := 3) (n := 3090) (by decide) (by decide) ?_
      refine lv_goto (tgt := 139) hx hb dH_ask_130 (by decide) ?_
      refine lv_iload hx hb dH_ask_139 (lv_at hl 5 rfl) ?_
      refine W.widen (k := 4) (n := 3100) (by decide) (by decide) ?_
      exact vx_ret (W.iret (v := x7) hx hb hr (fun t ht hW => ⟨⟨x7, (ad, s11), rfl, ⟨hA0, hw⟩, by rw [ht]; exact hP, va_K.moved hW.alike hK, hD⟩, hS.F ht⟩) hS.2.2 dH_ask_141)
def wpc_ask_N73 (post : Int32 → Sg → Prop) (px : String → Sg → Prop) (σ : Sg) (k6 : Nat) (k8 : Nat) (x1 : Int32) (x2 : Int32) (x5 : Int32) (x7 : Int32) : Prop := wp_nextMoment (fun r2 s1 => (k8 < sN s1 ∧ wp_askInit (fun s4 => (k8 < sN s4 ∧ ((sC s4 = 0 → sC σ = 0) ∧ sC s4 ≤ 1900 ∧ (∀ i j, sK s4 i = some j → j < sN s4) ∧ ((sG s4 6).toInt ≤ sC s4 ∧ 0 ≤ (sG s4 6).toInt) ∧ k8 < sN (aR (uG 5 (sG s4 5 + 1) s4) k8) ∧ wpc_ask_C95 post px (aR (uG 5 (sG s4 5 + 1) s4) k8) k6 k8 x1 x2 x5 x7))) s1 k8 x1 x2 r2)) σ
set_option maxHeartbeats 4000000 in
set_option maxRecDepth 100000 in
theorem k_ask_N73 {p : Program} {l : Launch} {e : Env} {s : State} {m : MethodId} {args : Array Value} {below : List Frame} {meth : Method} {c : Code} {D : va_G} {ca : Nat → ClassId} {ad ad0 : Nat → Nat → Nat} {A : Nat → Prop} {t0 mi : Nat} {post : Int32 → Sg → Prop} {px : String → Sg → Prop} (hx : p.tables.exec = Jvm.exec) (hb : c.code = cH_ask) (hr : meth.sig.returnType = (some .int)) (hml : c.maxLocals = 9) (hts : ∀ w ∈ tbG, w.before args s = true) (hown : s.vm.findClass RH = some m.cls) (hlocks : meth.locks = false) (hA : ∀ q : Nat, s.heap.size ≤ q → A q) (hK : va_K D clX (tyA ca) s) (hE : eX A s) (hl0 : l.stackTraces = false) (hexc : ∀ x ∈ c.exceptionTable.toList, False) (hL : eL t0 mi A s) (hA0 : ∀ k i, k ≤ 8 → ad k i = ad0 k i) (σ : Sg) (h9 : sC σ = 0 → ad 9 0 = t0) (k6 : Nat) (hk6 : k6 < 8) (k8 : Nat) (hk8 : k8 < sN σ) (x1 : Int32) (x2 : Int32) (x5 : Int32) (x7 : Int32) (hw : wpc_ask_N73 post px σ k6 k8 x1 x2 x5 x7) : ∀ (H : Heap) (locs : List Loc), va_P D clX (wX ca ad σ) H → va_D A (wX ca ad σ) → va_S A s.heap H locs → ∀ ls : Array Slot, lv_has ls 9 [(0, .ref (ad 0 0)), (1, .int x1), (2, .int x2), (5, .int x5), (6, .ref (ad 6 k6)), (7, .int x7)] → W p l e (headSpec wsH_ask ({ frames := 9, cells := 4, slots := 3100, locals := 260 })).room s m args below meth c H locs 2 12 (vx_MQ below (va_Qi (fun (r : Int32) (u : (Nat → Nat → Nat) × Sg) => (∀ k i, k ≤ 8 → u.1 k i = ad0 k i) ∧ post r u.2) (fun u t => va_P D clX (wX ca u.1 u.2) t.heap ∧ va_K D clX (tyA ca) t ∧ va_D A (wX ca u.1 u.2)) A) (vx_X (fun u : String × Sg => px u.1 u.2) (atXx D ca ad0 A) A) args s 4 3100 A) (F0 m 73 ls [.ref (ad 10 k8)]) := by
  intro H locs hP hD hS ls hl
  unfold wpc_ask_N73 at hw
  refine lv_dup hx hb dH_ask_73 rfl ?_
  refine lv_iload_n hx hb dH_ask_74 rfl (lv_at hl 1 rfl) ?_
  refine lv_iload_n hx hb dH_ask_75 rfl (lv_at hl 2 rfl) ?_
  refine lv_aload_n hx hb dH_ask_76 rfl (lv_at hl 0 rfl) ?_
  have hFc := px_free hD hS hA
  refine va_calli (va_runV (As := []) (rest := [.int x2, .int x1, .ref (ad 10 k8), .ref (ad 10 k8)]) ⟨hx, hb, hml, hown, hts⟩ (c_nextMoment l D ca ad σ  _ _ hw) (cwV 0 hts (gV tw_342 tw_344 tp_4 tw_1 tw_345) rfl rfl rfl (by decide +kernel) ⟨Nat.le_of_ble_eq_true rfl, Nat.le_of_ble_eq_true rfl⟩) ⟨px_blind, (px_recv hK hP gX_0 rfl), fun U hU hW => px_pre hP hK hD hE hS hFc hU hW⟩ rfl rfl hl.1 rfl (lv_room (Nat.le_of_ble_eq_true rfl)) dH_ask_77 ⟨Nat.le_of_ble_eq_true rfl, Nat.le_of_ble_eq_true rfl⟩) hS (fun q _ h => hFc q h) hFc (fun r2 s1 t H locs ht hvm hw hB _ _ hS => ?_)
  obtain ⟨hP, -, hD⟩ := hB
  rw [ht] at hP
  have hD := hD.weaken (fun _ _ _ h9 => hFc _ h9)
  refine W.widen (k := 2) (n := 12) (by decide) (by decide) ?_
  obtain ⟨hb3, hw⟩ := hw
  have hFc := px_free hD hS hA
  refine va_callv (va_runI (As := [.int x1, .int x2, .int r2]) (rest := [.ref (ad 10 k8)]) ⟨hx, hb, hml, hown, hts⟩ (c_askInit l D ca ad s1 k8 hb3 x1 x2 r2 _ _ hw) (cwI 3 hts (gB tw_348) rfl rfl rfl (hts _ tw_14) (hts _ tw_346) (hts _ tw_347) rfl (by decide +kernel) ⟨Nat.le_of_ble_eq_true rfl, Nat.le_of_ble_eq_true rfl⟩) ⟨px_blind, fun U hU hW => px_pre hP hK hD hE hS hFc hU hW⟩ rfl rfl hl.1 rfl (lv_room (Nat.le_of_ble_eq_true rfl)) dH_ask_80 ⟨Nat.le_of_ble_eq_true rfl, Nat.le_of_ble_eq_true rfl⟩) hS (fun q _ h => hFc q h) hFc (fun s4 t H locs ht hvm hw hB _ _ hS => ?_)
  obtain ⟨hP, -, hD⟩ := hB
  rw [ht] at hP
  have hD := hD.weaken (fun _ _ _ h9 => hFc _ h9)
  refine W.widen (k := 2) (n := 12) (by decide) (by decide) ?_
  refine lv_astore (lv' := [(8, .ref (ad 10 k8)), (0, .ref (ad 0 0)), (1, .int x1), (2, .int x2), (5, .int x5), (6, .ref (ad 6 k6)), (7, .int x7)]) hx hb dH_ask_83 hl (by decide) rfl (fun ls hl => ?_)
  refine lv_aload_n hx hb dH_ask_85 rfl (lv_at hl 1 rfl) ?_
  refine va_get (D := D) (ci := 0) (v := .ref (ad 2 0)) (C := RH) (T := TH) (N := 8) hx hb hts inH hown hK hP 0 gX_0 rfl 1 (by decide) (hts _ tw_151) (fun _ h9 => h9) rfl dH_ask_86 ?_
  refine lv_aload hx hb dH_ask_89 (lv_at hl 0 rfl) ?_
  obtain ⟨hb6, hw⟩ := hw
  obtain ⟨g1, g2, g3, g4, g5, hw⟩ := hw
  have hFc := px_free hD hS hA
  refine va_calli (va_runV (As := [.ref (ad 10 k8)]) (rest := []) ⟨hx, hb, hml, hown, hts⟩ (c_add1 l D ca ad s4 t0 mi k8 _ (fun z => h9 (g1 z)) g2 (fun i _ j hj => g3 i j hj) hb6 g4) (cwV 1 hts (gV tw_376 tw_377 tw_378 tw_4 tw_379) rfl rfl rfl (by decide +kernel) ⟨Nat.le_of_ble_eq_true rfl, Nat.le_of_ble_eq_true rfl⟩) ⟨pa_blind, px_recv hK hP gX_2 rfl, fun U hU hW => pa_pre hP hK hD hE hL hS hFc hU hW⟩ rfl rfl hl.1 rfl (lv_room (Nat.le_of_ble_eq_true rfl)) dH_ask_91 ⟨Nat.le_of_ble_eq_true rfl, Nat.le_of_ble_eq_true rfl⟩) hS (fun q _ h => hFc q h) hFc (fun r9 u9 t H locs ht hvm hz hB _ _ hS => ?_)
  obtain ⟨ad9, s9⟩ := u9
  obtain ⟨er, ha9, es⟩ := hz
  have es : s9 = (aR (uG 5 (sG s4 5 + 1) s4) k8) := es
  subst es
  have ha9 : ∀ k i, k ≠ 9 → ad9 k i = ad k i := ha9
  obtain ⟨hP, -, hD⟩ := hB
  rw [ht] at hP
  have hD := hD.weaken (fun _ _ _ h9 => hFc _ h9)
  refine W.widen (k := 3) (n := 3090) (Nat.le_of_ble_eq_true rfl) (Nat.le_of_ble_eq_true rfl) ?_
  refine lv_pop hx hb dH_ask_94 rfl ?_
  rw [← ha9 0 0 (by decide), ← ha9 6 k6 (by decide), ← ha9 10 k8 (by decide)] at hl
  exact k_ask_C95 (ad := ad9) (t0 := t0) (mi := mi) hx hb hr hml hts hown hlocks hA hK hE hl0 hexc hL (fun k i hk => (ha9 k i (by omega)).trans (hA0 k i hk)) (aR (uG 5 (sG s4 5 + 1) s4) k8) k6 hk6 k8 g5 x1 x2 x5 x7 hw _ _ hP hD hS ls (lv_sub hl [1, 2, 3, 4, 5, 6, 0] rfl)
def wp_ask (post : Int32 → Sg → Prop) (px : String → Sg → Prop) (σ : Sg) (a0 a1 a2 a3 : Int32) : Prop := wp_takeTape (fun r2 s1 => wp_patronOf (fun r4 s3 => (∃ j5 : Nat, r4 = some j5 ∧ j5 < 8 ∧ wp_canBeAsked (fun r9 s8 => ((¬ (r9 = 0) → wp_size (fun r12 s11 => wp_waits (fun r14 s13 => ((¬ (r14 = 0) → px "java/lang/IllegalStateException" s13) ∧ ((r14 = 0) → (((r12 < 1024) → (NewOk s13 ∧ (sC s13 = 0 → sC σ = 0) ∧ wpc_ask_N73 post px (nQ s13) j5 (sN s13) a0 a1 r2 r12)) ∧ (¬ (r12 < 1024) → px "java/lang/IllegalStateException" s13))))) s11 j5) s8) ∧ ((r9 = 0) → px "java/lang/IllegalArgumentException" s8))) s3 a1 a2 a3 r2)) px s1 a0) σ
set_option maxHeartbeats 4000000 in
set_option maxRecDepth 100000 in
theorem c_ask (l : Launch) (D : va_G) (ca : Nat → ClassId) (ad : Nat → Nat → Nat) (σ : Sg) (t0 mi : Nat) (a0 a1 a2 a3 : Int32) (sz : Nat) (post : Int32 → Sg → Prop) (px : String → Sg → Prop) (hl0 : l.stackTraces = false) (h9 : sC σ = 0 → ad 9 0 = t0) (hw : wp_ask post px σ a0 a1 a2 a3) : vx_Met l yH_ask wsH_ask ({ frames := 9, cells := 4, slots := 3100, locals := 260 }) (va_Pc [.ref (ad 0 0), .int a0, .int a1, .int a2, .int a3] (preA D ca ad σ t0 mi sz)) (va_Qi (fun (r : Int32) (u : (Nat → Nat → Nat) × Sg) => (∀ k i, k ≤ 8 → u.1 k i = ad k i) ∧ post r u.2) (fun u t => va_P D clX (wX ca u.1 u.2) t.heap ∧ va_K D clX (tyA ca) t ∧ va_D (va_A (wX ca ad σ) sz) (wX ca u.1 u.2)) (va_A (wX ca ad σ) sz)) (vx_X (fun u : String × Sg => px u.1 u.2) (atXx D ca ad (va_A (wX ca ad σ) sz)) (va_A (wX ca ad σ) sz)) 4 3100 (va_A (wX ca ad σ) sz) := by
  refine vx_ofW (cc := cH_ask) (maxL := 9) (ret := (some .int)) (by decide) rfl ?_
  intro p e s m args below meth c s₁ B hml hexc hv
  obtain ⟨rfl, ⟨hsz, hP, hK, hD0, hE⟩, hL⟩ := hv
  have hx := B.exec
  have hb := B.bytes
  have hr := B.returns
  have hts : ∀ w ∈ tbG, w.before _ s = true := fun w h => atoms_spec (ws := wsH_ask) B.pre w (List.mem_cons_of_mem _ h)
  have hown : s.vm.findClass RH = some m.cls := findClass_of_methodNamed B.named
  have hlocks := B.notSynchronized
  subst hsz
  have hD := hD0.self (sz := s.heap.size)
  generalize hAe : va_A (wX ca ad σ) s.heap.size = A at hD hE hL ⊢
  have hA : ∀ q : Nat, s.heap.size ≤ q → A q := fun q h => by rw [← hAe]; exact Or.inr h
  clear hAe
  have hS : va_S A s.heap s.heap [] := va_S.rf
  have hl := lv_entry ([.ref (ad 0 0), .int a0, .int a1, .int a2, .int a3]) (n := 9) (Nat.le_of_ble_eq_true rfl)
  rw [lg_entry_eq]
  generalize (lg_sl ([.ref (ad 0 0), .int a0, .int a1, .int a2, .int a3]) ++ List.replicate (9 - (lg_sl ([.ref (ad 0 0), .int a0, .int a1, .int a2, .int a3])).length) Slot.unset).toArray = ls at hl ⊢
  have hl : lv_has ls 9 [(0, .ref (ad 0 0)), (1, .int a0), (2, .int a1), (3, .int a2), (4, .int a3)] := hl
  unfold wp_ask at hw
  have hP : va_P D clX (wX ca ad σ) s.heap := hP
  refine lv_aload_n hx hb dH_ask_0 rfl (lv_at hl 0 rfl) ?_
  have hFc := px_free hD hS hA
  refine va_calli (va_runV (As := []) (rest := []) ⟨hx, hb, hml, hown, hts⟩ (c_takeTape l D ca ad σ  _ _ hw) (cwV 0 hts (gV tw_305 tw_307 tp_2 tw_1 tw_308) rfl rfl rfl (by decide +kernel) ⟨Nat.le_of_ble_eq_true rfl, Nat.le_of_ble_eq_true rfl⟩) ⟨px_blind, (px_recv hK hP gX_0 rfl), fun U hU hW => px_pre hP hK hD hE hS hFc hU hW⟩ rfl rfl hl.1 rfl (lv_room (Nat.le_of_ble_eq_true rfl)) dH_ask_1 ⟨Nat.le_of_ble_eq_true rfl, Nat.le_of_ble_eq_true rfl⟩) hS (fun q _ h => hFc q h) hFc (fun r2 s1 t H locs ht hvm hw hB _ _ hS => ?_)
  obtain ⟨hP, -, hD⟩ := hB
  rw [ht] at hP
  have hD := hD.weaken (fun _ _ _ h9 => hFc _ h9)
  refine lv_istore (lv' := [(5, .int r2), (0, .ref (ad 0 0)), (1, .int a0), (2, .int a1), (3, .int a2), (4, .int a3)]) hx hb dH_ask_4 hl (by decide) rfl (fun ls hl => ?_)
  refine lv_aload_n hx hb dH_ask_6 rfl (lv_at hl 1 rfl) ?_
  refine lv_iload_n hx hb dH_ask_7 rfl (lv_at hl 2 rfl) ?_
  have hFc := px_free hD hS hA
  refine vx_calle (vx_runV (As := [.int a0]) (rest := []) ⟨hx, hb, hml, hown, hts⟩ (c_patronOf l D ca ad s1 a0 _ _ _ hl0 hw) (cwV 1 hts (gV tw_309 tw_311 tp_3 tw_1 tw_312) rfl rfl rfl (by decide +kernel) ⟨Nat.le_of_ble_eq_true rfl, Nat.le_of_ble_eq_true rfl⟩) ⟨px_blind, (px_recv hK hP gX_0 rfl), fun U hU hW => px_pre hP hK hD hE hS hFc hU hW⟩ rfl rfl hl.1 rfl (lv_room (Nat.le_of_ble_eq_true rfl)) dH_ask_8 ⟨Nat.le_of_ble_eq_true rfl, Nat.le_of_ble_eq_true rfl⟩) hS (fun q _ h => hFc q h) hFc (fun q _ h => hFc q h) (fun E9 ce9 q9 u9 t9 H locs ht hvm hw hB _ _ hS hce hcv hcl => ?_) (fun r4 s3 t H locs ht hvm hw hB _ _ hS => ?_)
  · obtain ⟨rfl, hP, -, hD⟩ := hB
    rw [ht] at hP
    exact vx_out (fun x9 h9 => (hexc x9 h9).elim) hlocks hce hcv hcl (fun t8 h8 hv8 => ⟨u9, hw, ⟨rfl, by rw [h8]; exact hP, va_K.moved hv8 hK, hD.weaken (fun _ _ _ h7 => hFc _ h7)⟩, hS.F h8⟩) hS.2.2 (by decide) (by decide)
  obtain ⟨hP, -, hD⟩ := hB
  rw [ht] at hP
  have hD := hD.weaken (fun _ _ _ h9 => hFc _ h9)
  refine W.widen (k := 1) (n := 6) (by decide) (by decide) ?_
  obtain ⟨j5, e6, hj7, hw⟩ := hw
  subst e6
  refine lv_astore (lv' := [(6, .ref (ad 6 j5)), (5, .int r2), (0, .ref (ad 0 0)), (1, .int a0), (2, .int a1), (3, .int a2), (4, .int a3)]) hx hb dH_ask_11 hl (by decide) rfl (fun ls hl => ?_)
  refine lv_iload_n hx hb dH_ask_13 rfl (lv_at hl 4 rfl) ?_
  refine lv_iload_n hx hb dH_ask_14 rfl (lv_at hl 5 rfl) ?_
  refine lv_iload hx hb dH_ask_15 (lv_at hl 6 rfl) ?_
  refine lv_iload hx hb dH_ask_17 (lv_at hl 1 rfl) ?_
  have hFc := px_free hD hS hA
  refine va_calli (va_runS (As := [.int a1, .int a2, .int a3, .int r2]) (rest := []) ⟨hx, hb, hml, hown, hts⟩ (c_canBeAsked l D ca ad s3 a1 a2 a3 r2 _ _ hw) (va_cwS 4 hts (gS tw_329 tw_330 tw_1 tw_331) rfl rfl rfl (by decide +kernel) ⟨Nat.le_of_ble_eq_true rfl, Nat.le_of_ble_eq_true rfl⟩) ⟨px_blind, fun U hU hW => px_pre hP hK hD hE hS hFc hU hW⟩ rfl rfl hl.1 rfl (lv_room (Nat.le_of_ble_eq_true rfl)) dH_ask_19 ⟨Nat.le_of_ble_eq_true rfl, Nat.le_of_ble_eq_true rfl⟩) hS (fun q _ h => hFc q h) hFc (fun r9 s8 t H locs ht hvm hw hB _ _ hS => ?_)
  obtain ⟨hP, -, hD⟩ := hB
  rw [ht] at hP
  have hD := hD.weaken (fun _ _ _ h9 => hFc _ h9)
  refine W.widen (k := 1) (n := 6) (by decide) (by decide) ?_
  refine lv_if_ne (tgt := 35) hx hb dH_ask_22 (by decide) (fun c10 => ?_) (fun c10 => ?_)
  · have hw := hw.1 c10
    refine lv_aload_n hx hb dH_ask_35 rfl (lv_at hl 2 rfl) ?_
    refine va_get (D := D) (ci := 0) (v := .ref (ad 2 0)) (C := RH) (T := TH) (N := 8) hx hb hts inH hown hK hP 0 gX_0 rfl 1 (by decide) (hts _ tw_151) (fun _ h9 => h9) rfl dH_ask_36 ?_
    have hFc := px_free hD hS hA
    refine va_calli (va_runV (As := []) (rest := []) ⟨hx, hb, hml, hown, hts⟩ (c_size l D ca ad s8  _ _ hw) (cwV 0 hts (gV tw_190 tw_191 tw_192 tw_4 tw_193) rfl rfl rfl (by decide +kernel) ⟨Nat.le_of_ble_eq_true rfl, Nat.le_of_ble_eq_true rfl⟩) ⟨px_blind, (px_recv hK hP gX_2 rfl), fun U hU hW => px_pre hP hK hD hE hS hFc hU hW⟩ rfl rfl hl.1 rfl (lv_room (Nat.le_of_ble_eq_true rfl)) dH_ask_39 ⟨Nat.le_of_ble_eq_true rfl, Nat.le_of_ble_eq_true rfl⟩) hS (fun q _ h => hFc q h) hFc (fun r12 s11 t H locs ht hvm hw hB _ _ hS => ?_)
    obtain ⟨hP, -, hD⟩ := hB
    rw [ht] at hP
    have hD := hD.weaken (fun _ _ _ h9 => hFc _ h9)
    refine W.widen (k := 1) (n := 6) (by decide) (by decide) ?_
    refine lv_istore (lv' := [(7, .int r12), (6, .ref (ad 6 j5)), (5, .int r2), (0, .ref (ad 0 0)), (1, .int a0), (2, .int a1), (3, .int a2), (4, .int a3)]) hx hb dH_ask_42 hl (by decide) rfl (fun ls hl => ?_)
    refine lv_aload hx hb dH_ask_44 (lv_at hl 1 rfl) ?_
    have hFc := px_free hD hS hA
    refine va_calli (va_runV (As := []) (rest := []) ⟨hx, hb, hml, hown, hts⟩ (c_waits l D ca ad s11 j5 hj7 _ _ hw) (cwV 0 hts (gV tw_198 tw_199 tw_200 tw_6 tw_201) rfl rfl rfl (by decide +kernel) ⟨Nat.le_of_ble_eq_true rfl, Nat.le_of_ble_eq_true rfl⟩) ⟨px_blind, (px_recv hK hP (gX_6 hj7) rfl), fun U hU hW => px_pre hP hK hD hE hS hFc hU hW⟩ rfl rfl hl.1 rfl (lv_room (Nat.le_of_ble_eq_true rfl)) dH_ask_46 ⟨Nat.le_of_ble_eq_true rfl, Nat.le_of_ble_eq_true rfl⟩) hS (fun q _ h => hFc q h) hFc (fun r14 s13 t H locs ht hvm hw hB _ _ hS => ?_)
    obtain ⟨hP, -, hD⟩ := hB
    rw [ht] at hP
    have hD := hD.weaken (fun _ _ _ h9 => hFc _ h9)
    refine W.widen (k := 1) (n := 6) (by decide) (by decide) ?_
    refine lv_if_ne (tgt := 60) hx hb dH_ask_49 (by decide) (fun c15 => ?_) (fun c15 => ?_)
    · have hw := hw.1 c15
      obtain ⟨sa9, hstr⟩ := hE.str 4 _ rfl
      exact vx_throwS (names := ["java/lang/RuntimeException", "java/lang/Exception"]) hx hb hl0 hown (by decide +kernel) (by decide +kernel) (hts _ tw_281) (hts _ tw_12) hstr (hE.hat60 hts) gd_60 hE.1 hE.2.1 hS (hl.1.trans hml.symm) dH_ask_60 dH_ask_63 dH_ask_64 dH_ask_66 dH_ask_69 (fun x9 h9 => (hexc x9 h9).elim) (by decide) (by decide) (by decide) (by decide) hlocks (fun t hv hz hk => ⟨(_, s13), hw, ⟨rfl, hP.kept (fun k9 q9 h9 => hk _ (va_at.lt (hP k9 q9 h9))), va_K.moved hv hK, hD⟩, va_S.F2 hS hz hk⟩) hS.2.2 (by decide) (by decide)
    · have hw := hw.2 c15
      refine lv_iload hx hb dH_ask_52 (lv_at hl 0 rfl) ?_
      refine lv_sipush (v := 1024) hx hb dH_ask_54 (by decide) ?_
      refine lv_icmp_lt (tgt := 70) hx hb dH_ask_57 (by decide) (fun c16 => ?_) (fun c16 => ?_)
      · have hw := hw.1 c16
        obtain ⟨hok, g1, hw⟩ := hw
        refine va_new (ci := 2) (fs := [.int 0, .int 0, .int 0, .int 0, .int 0, .int 0]) (C := RQ) (T := TQ) (N := 6) hx hb hts inQ tyQ tyQ_ok hown (hts _ tw_340) (hts _ tw_341) (hts _ tw_14) hK hP hD hS hA rfl (fun j hj => by rcases (show j = 0 ∨ j = 1 ∨ j = 2 ∨ j = 3 ∨ j = 4 ∨ j = 5 by omega) with rfl | rfl | rfl | rfl | rfl | rfl <;> rfl) (Nat.le_of_ble_eq_true rfl) (Nat.le_of_ble_eq_true rfl) dH_ask_70 (fun q H hP hD hS => ?_)
        rw [wX_split] at hP hD
        have hP := px_nP hP
        have hD := px_nD hD
        rw [← wX_new hok] at hP hD
        refine W.widen (k := 2) (n := 12) (by decide) (by decide) ?_
        refine W.eq (g2 := F0 m 73 ls [.ref (up2 ad 10 (sN s13) q 10 (sN s13))]) (by rw [up2_s]) ?_
        have hl : lv_has ls 9 [(7, .int r12), (6, .ref (up2 ad 10 (sN s13) q 6 j5)), (5, .int r2), (0, .ref (up2 ad 10 (sN s13) q 0 0)), (1, .int a0), (2, .int a1), (3, .int a2), (4, .int a3)] := hl
        exact k_ask_N73 (ad := up2 ad 10 (sN s13) q) (ad0 := ad) (t0 := t0) (mi := mi) hx hb hr hml hts hown hlocks hA hK hE hl0 hexc hL (fun k i hk => by unfold up2; rw [if_neg (by omega)]) (nQ s13) (fun z => h9 (g1 z)) j5 hj7 (sN s13) (Nat.lt_succ_self _) a0 a1 r2 r12 hw _ _ hP hD hS ls (lv_sub hl [3, 4, 5, 2, 1, 0] rfl)
      · have hw := hw.2 c16
        obtain ⟨sa9, hstr⟩ := hE.str 4 _ rfl
        exact vx_throwS (names := ["java/lang/RuntimeException", "java/lang/Exception"]) hx hb hl0 hown (by decide +kernel) (by decide +kernel) (hts _ tw_281) (hts _ tw_12) hstr (hE.hat60 hts) gd_60 hE.1 hE.2.1 hS (hl.1.trans hml.symm) dH_ask_60 dH_ask_63 dH_ask_64 dH_ask_66 dH_ask_69 (fun x9 h9 => (hexc x9 h9).elim) (by decide) (by decide) (by decide) (by decide) hlocks (fun t hv hz hk => ⟨(_, s13), hw, ⟨rfl, hP.kept (fun k9 q9 h9 => hk _ (va_at.lt (hP k9 q9 h9))), va_K.moved hv hK, hD⟩, va_S.F2 hS hz hk⟩) hS.2.2 (by decide) (by decide)
  · have hw := hw.2 c10
    obtain ⟨sa9, hstr⟩ := hE.str 3 _ rfl
    exact vx_throwS (names := ["java/lang/RuntimeException", "java/lang/Exception"]) hx hb hl0 hown (by decide +kernel) (by decide +kernel) (hts _ tw_214) (hts _ tw_11) hstr (hE.hat53 hts) gd_53 hE.1 hE.2.1 hS (hl.1.trans hml.symm) dH_ask_25 dH_ask_28 dH_ask_29 dH_ask_31 dH_ask_34 (fun x9 h9 => (hexc x9 h9).elim) (by decide) (by decide) (by decide) (by decide) hlocks (fun t hv hz hk => ⟨(_, s8), hw, ⟨rfl, hP.kept (fun k9 q9 h9 => hk _ (va_at.lt (hP k9 q9 h9))), va_K.moved hv hK, hD⟩, va_S.F2 hS hz hk⟩) hS.2.2 (by decide) (by decide)
