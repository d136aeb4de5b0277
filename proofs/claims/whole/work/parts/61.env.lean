theorem ka_1 {args : Array Value} {s : State} {ty : FieldType} (h : (Cond.arrayClass ty).before args s = true) : ∃ c : ClassId, ArrOfT s c ty ∧ s.vm.findClass ("[" ++ ty.toString) = some c := by
  obtain ⟨c, k, comp, h1, h2, h3⟩ := Cond.arrayClass_spec h
  exact ⟨c, fun n z => ⟨fun k h => (by cases h), k, h2, comp, h3⟩, h1⟩
theorem ka_2 {args : Array Value} {s : State} {C : String} (h : (Cond.arrayOver (.object C)).before args s = true) : ∃ c : ClassId, ArrOfT s c (.object C) ∧ va_RA s c (.object C) := by
  obtain ⟨comp, c, k, h1, h2, h3, h4, h5⟩ := Cond.arrayOver_spec h
  exact ⟨c, fun n z => ⟨fun k h => (by cases h), k, h3, comp, h4⟩, k, comp, h3, h4, h1, h5⟩
theorem ks_of {args : Array Value} {s : State} {own tx : String} {k : Nat} (h1 : (Cond.stringRef own k tx).before args s = true) (h2 : (Cond.exactly (.string own k) "java/lang/String").before args s = true) : ∃ sa : Nat, vk_R own k tx sa s := by
  obtain ⟨a, c, cell, kk, e, -⟩ := Cond.exactly_spec h2
  exact ⟨a, vk_R.of h1 e⟩
/-- what the claim gives of the start: the classes' numbers, the strings, the statics -/
theorem env_0 {s : State} {b : Nat} (hts0 : ∀ w ∈ lw_tbl, w.before #[Value.ref b] s = true) (hgv : (Jvm.Cond.and given_1 narrow_1).before #[Value.ref b] s = true) : ∃ (D : va_G) (ca cm : Nat → ClassId) (t0 mi : Nat), va_K D clX (tyA ca ++ tyM9 cm) s ∧ eX (aL s) s ∧ eN s ∧ eL t0 mi (aL s) s := by
  have hts : ∀ w ∈ tbG, w.before #[Value.ref b] s = true := fun w h => hts0 w (tb_ok w h)
  have tb : ∀ (i : Nat) {w : Cond}, tables_1[i]? = some w → w.before #[Value.ref b] s = true := fun i w h => hts0 w (List.mem_append_right _ (List.mem_of_getElem? h))
  have fl := flat_of_before _ hgv
  have hAo : ∀ a : Nat, a < s.heap.size → ¬ aL s a := fun a h => Nat.not_le.mpr h
  obtain ⟨c0, i0, k0⟩ := u_known (C := RH) (T := TH) (N := 8) (n := 8) hts inH (hts _ tw_22)
  obtain ⟨c1, i1, k1⟩ := u_known (C := RP) (T := TP) (N := 16) (n := 16) hts inP (hts _ tw_72)
  obtain ⟨c2, i2, k2⟩ := u_known (C := RQ) (T := TQ) (N := 6) (n := 6) hts inQ (hts _ tw_341)
  obtain ⟨c3, i3, k3⟩ := u_known (C := RG) (T := TG) (N := 2) (n := 2) hts inG (hts _ tw_58)
  obtain ⟨c4, i4, k4⟩ := u_known (C := RL) (T := TL) (N := 3) (n := 3) hts inL (hts _ tw_32)
  obtain ⟨c5, i5, k5⟩ := u_known (C := RM) (T := TM) (N := 26) (n := 26) hts inM (hts _ tw_586)
  obtain ⟨D, hKc⟩ : ∃ D : va_G, ∀ (k : Nat) (q : vw_C), clX[k]? = some q → u_Kn s q.1 q.2.1 q.2.2 (D.1 k) (D.2 k) := by
    refine ⟨(fun k => match k with | 0 => c0 | 1 => c1 | 2 => c2 | 3 => c3 | 4 => c4 | _ => c5, fun k => match k with | 0 => i0 | 1 => i1 | 2 => i2 | 3 => i3 | 4 => i4 | _ => i5), ?_⟩
    intro k q hq
    match k, hq with
    | 0, hq => cases hq; exact k0
    | 1, hq => cases hq; exact k1
    | 2, hq => cases hq; exact k2
    | 3, hq => cases hq; exact k3
    | 4, hq => cases hq; exact k4
    | 5, hq => cases hq; exact k5
    | k + 6, hq => simp [clX] at hq
  obtain ⟨a0, x0, y0⟩ := ka_1 (hts _ tw_71)
  obtain ⟨a1, x1, y1⟩ := ka_1 (hts _ tw_149)
  obtain ⟨a2, x2, y2⟩ := ka_2 (C := "PatronHall$Patron") (tb 30 (by decide +kernel))
  obtain ⟨a3, x3, y3⟩ := ka_2 (C := "java/lang/Object") (tb 422 (by decide +kernel))
  obtain ⟨a4, x4, y4⟩ := ka_1 (hts _ tw_670)
  have hX1 : (Cond.isRef (.static "java/util/ArrayList" "DEFAULTCAPACITY_EMPTY_ELEMENTDATA" "[Ljava/lang/Object;")).before #[Value.ref b] s = true := fl _ (by decide +kernel)
  obtain ⟨mi, hmi⟩ := va_Mi.of (C := "[Ljava/lang/Object;") (fl (.isRef (.mirror "[Ljava/lang/Object;")) (by decide +kernel))
  obtain ⟨t0, et0, hT0⟩ := va_Tof (args := #[Value.ref b]) (s := s) (tm := (.static "java/util/ArrayList" "DEFAULTCAPACITY_EMPTY_ELEMENTDATA" "[Ljava/lang/Object;")) (ty := .object "java/lang/Object") (N := 0) (f := fun _ => .null) (A := aL s) (by decide) (fl _ (by decide +kernel)) (va_eqt (fl (.eq (.length (.static "java/util/ArrayList" "DEFAULTCAPACITY_EMPTY_ELEMENTDATA" "[Ljava/lang/Object;")) (.int 0)) (by decide +kernel))) (fun j hj => absurd hj (Nat.not_lt_zero j)) hAo
  refine ⟨D, fun k => match k with | 0 => a0 | 1 => a1 | 2 => a2 | _ => a3, fun k => match k with | 0 => a0 | _ => a4, t0, mi, ⟨hKc, fun k q hq => ?_⟩, ⟨vx_Zqof (tb 241 (by decide +kernel)) (hts _ tw_8) (fl _ (by decide +kernel)) hAo, vx_Zqof (tb 243 (by decide +kernel)) (hts _ tw_8) (fl _ (by decide +kernel)) hAo, fun k q hq => ?_, fun w hw => ?_⟩, ⟨va_Nc.of (fl _ (by decide +kernel)), va_Nc.of (fl _ (by decide +kernel)), va_Nc.of (fl _ (by decide +kernel))⟩, ⟨hmi, va_AO.of (tb 422 (by decide +kernel)), va_Nw.of (w := .declares ⟨"java/lang/Object", "getClass", "()Ljava/lang/Class;"⟩) rfl (tb 772 (by decide +kernel)), va_Zref (tb 44 (by decide +kernel)) (hts _ tw_4) et0 hAo, hT0⟩⟩
  · match k, hq with
    | 0, hq => cases hq; exact ⟨x0, y0⟩
    | 1, hq => cases hq; exact ⟨x1, y1⟩
    | 2, hq => cases hq; exact ⟨x2, y2⟩
    | 3, hq => cases hq; exact ⟨x3, y3⟩
    | 4, hq => cases hq; exact ⟨x0, y0⟩
    | 5, hq => cases hq; exact ⟨x4, y4⟩
    | k + 6, hq => simp [tyA, tyM9] at hq
  · match k, hq with
    | 0, hq => cases hq; exact ks_of (tb 255 (by decide +kernel)) (fl _ (by decide +kernel))
    | 1, hq => cases hq; exact ks_of (tb 290 (by decide +kernel)) (fl _ (by decide +kernel))
    | 2, hq => cases hq; exact ks_of (tb 322 (by decide +kernel)) (fl _ (by decide +kernel))
    | 3, hq => cases hq; exact ks_of (tb 338 (by decide +kernel)) (fl _ (by decide +kernel))
    | 4, hq => cases hq; exact ks_of (tb 339 (by decide +kernel)) (fl _ (by decide +kernel))
    | 5, hq => cases hq; exact ks_of (tb 494 (by decide +kernel)) (fl _ (by decide +kernel))
    | 6, hq => cases hq; exact ks_of (tb 518 (by decide +kernel)) (fl _ (by decide +kernel))
    | 7, hq => cases hq; exact ks_of (tb 538 (by decide +kernel)) (fl _ (by decide +kernel))
    | 8, hq => cases hq; exact ks_of (tb 546 (by decide +kernel)) (fl _ (by decide +kernel))
    | 9, hq => cases hq; exact ks_of (tb 561 (by decide +kernel)) (fl _ (by decide +kernel))
    | 10, hq => cases hq; exact ks_of (tb 569 (by decide +kernel)) (fl _ (by decide +kernel))
    | 11, hq => cases hq; exact ks_of (tb 584 (by decide +kernel)) (fl _ (by decide +kernel))
    | k + 12, hq => simp [strX] at hq
  · simp only [badX, List.mem_cons, List.not_mem_nil, or_false] at hw
    rcases hw with rfl | rfl | rfl | rfl | rfl | rfl | rfl | rfl
    · exact va_Nw.of rfl (tb 218 (by decide +kernel))
    · exact va_Nw.of rfl (tb 220 (by decide +kernel))
    · exact va_Nw.of rfl (tb 222 (by decide +kernel))
    · exact va_Nw.of rfl (tb 216 (by decide +kernel))
    · exact va_Nw.of rfl (tb 283 (by decide +kernel))
    · exact va_Nw.of rfl (tb 315 (by decide +kernel))
    · exact va_Nw.of rfl (tb 777 (by decide +kernel))
    · exact va_Nw.of rfl (tb 467 (by decide +kernel))
