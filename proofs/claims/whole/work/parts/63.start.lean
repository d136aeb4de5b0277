theorem px_sw {D : va_G} {cl : List vw_C} {X Y Z : va_W} {H : Heap} (h : va_P D cl ((X ++ Y) ++ Z) H) : va_P D cl ((X ++ Z) ++ Y) H := by
  refine va_P.app (va_P.app (px_fP (px_fP h)) (px_sP h)) (px_sP (px_fP h))
theorem px_swD {A : Nat → Prop} {X Y Z : va_W} (h : va_D A ((X ++ Y) ++ Z)) : va_D A ((X ++ Z) ++ Y) := by
  have ix : ∀ {k : Nat} {q : Nat × va_E}, X[k]? = some q → ((X ++ Y) ++ Z)[k]? = some q := fun e => px_l (px_l e)
  have iy : ∀ {k : Nat} {q : Nat × va_E}, Y[k]? = some q → ((X ++ Y) ++ Z)[X.length + k]? = some q := fun e => px_l (by rw [px_ar _ rfl]; exact e)
  have iz : ∀ {k : Nat} {q : Nat × va_E}, Z[k]? = some q → ((X ++ Y) ++ Z)[X.length + Y.length + k]? = some q := fun e => by rw [px_ar _ (List.length_append ..)]; exact e
  refine va_D.app (va_D.app (px_fD (px_fD h)) (px_sD h) (fun i j p q h1 h2 e => ?_)) (px_sD (px_fD h)) (fun i j p q h1 h2 e => ?_)
  · have := h.1 _ _ p q (ix h1) (iz h2) e
    have := (List.getElem?_eq_some_iff.mp h1).1
    omega
  · rcases Nat.lt_or_ge i X.length with hi | hi
    · have h1 : X[i]? = some p := by rw [← px_al hi]; exact h1
      have := h.1 _ _ p q (ix h1) (iy h2) e
      omega
    · obtain ⟨k, rfl⟩ := Nat.exists_eq_add_of_le hi
      rw [px_ar _ rfl] at h1
      have := h.1 _ _ p q (iz h1) (iy h2) e
      have := (List.getElem?_eq_some_iff.mp h2).1
      omega
set_option maxHeartbeats 4000000 in
set_option maxRecDepth 100000 in
/-- YOUR PART: from the entry, for every script of at most 2560 ints, the law comes to its end with true -/
theorem whole_start {p : Program} {e : Env} {s : State} {m : MethodId} {below : List Frame} {meth : Method} {c : Code} (l : Launch) (hl0 : l.stackTraces = false) {b L : Nat} {xs : Nat → Int32} (hL : L ≤ 2560) (C0 : lw_At p s m meth c b L xs) : W p l e room_1 s m #[Value.ref b] below meth c s.heap [] 0 0 (lw_Z below #[Value.ref b] s) (entryFrame m ([Value.ref b] : List Value).toArray 7) := by
  obtain ⟨hx, hb, hret, hml, hown, hts0, hX, hbl, hlk, hgv⟩ := id C0
  have hown : s.vm.findClass RW = some m.cls := hown
  obtain ⟨D, ca, cm, t0, mi, hK, hE, hN, hLe⟩ := env_0 hts0 hgv
  have hts : ∀ w ∈ tbG, w.before #[Value.ref b] s = true := fun w h => hts0 w (tb_ok w h)
  have tb : ∀ (i : Nat) {w : Cond}, tables_1[i]? = some w → w.before #[Value.ref b] s = true := fun i w h => hts0 w (List.mem_append_right _ (List.mem_of_getElem? h))
  have hAO : va_AO "PatronHall$Patron" s := va_AO.of (tb 30 (by decide +kernel))
  have hNst : va_Nw (.methodLinkNest "PatronHall" 24 yG_init "PatronHall") s := va_Nw.of rfl (tb 59 (by decide +kernel))
  have hKa := hK.sub (tys' := tyA ca) [0, 1, 2, 3] rfl
  have hKm := hK.sub (tys' := tyM9 cm) [4, 5] rfl
  have hA : ∀ q : Nat, s.heap.size ≤ q → aL s q := fun _ h => h
  have hS : va_S (aL s) s.heap s.heap [] := va_S.rf
  have hP : va_P D clX [] s.heap := fun k q h => by simp at h
  have hD : va_D (aL s) [] := ⟨fun i j p q h => by simp at h, fun k q h => by simp at h⟩
  have hl := lv_entry ([.ref b]) (n := 7) (Nat.le_of_ble_eq_true rfl)
  rw [lg_entry_eq]
  generalize (lg_sl ([.ref b]) ++ List.replicate (7 - (lg_sl ([.ref b])).length) Slot.unset).toArray = ls at hl ⊢
  have hl : lv_has ls 7 [(0, .ref b)] := hl
  refine va_new (ci := 0) (fs := [.null, .null, .null, .null, .int 0, .int 0, .int 0, .int 0]) (C := RH) (T := TH) (N := 8) hx hb hts inH tyH tyH_ok hown (hts _ tw_21) (hts _ tw_22) (hts _ tw_1) hK hP hD hS hA rfl (fun j hj => by rcases (show j = 0 ∨ j = 1 ∨ j = 2 ∨ j = 3 ∨ j = 4 ∨ j = 5 ∨ j = 6 ∨ j = 7 by omega) with rfl | rfl | rfl | rfl | rfl | rfl | rfl | rfl <;> rfl) (Nat.le_of_ble_eq_true rfl) (Nat.le_of_ble_eq_true rfl) dLaw_0 (fun q0 H hP hD hS => ?_)
  have hP : va_P D clX [(q0, .inr (0, [.null, .null, .null, .null, .int 0, .int 0, .int 0, .int 0]))] H := hP
  have hD : va_D (aL s) [(q0, .inr (0, [.null, .null, .null, .null, .int 0, .int 0, .int 0, .int 0]))] := hD
  refine W.widen (k := 1) (n := 8) (by omega) (by omega) ?_
  refine lv_dup hx hb dLaw_3 rfl ?_
  have hFc := px_free hD hS hA
  refine va_callv (va_runI (As := []) (rest := [.ref q0]) ⟨hx, hb, hml, hown, hts⟩ (c_initH9 l D ca q0 t0 H.size) (cwI 0 hts (gB tw_25) rfl rfl rfl (hts _ tw_1) (hts _ tw_23) (hts _ tw_24) rfl (by decide +kernel) ⟨Nat.le_of_ble_eq_true rfl, Nat.le_of_ble_eq_true rfl⟩) ⟨fun a U g mk q => by obtain ⟨q0, q1, qP, qK, qD, qE1, qE2, qE3⟩ := q; exact ⟨q0, q1, qP, va_K.moved (u := U) (U := U.calling g mk a) (Vm.Alike.refl U.vm) qK, qD, qE1.moved (Vm.Alike.refl U.vm), va_Nw.same (u := U) (U := U.calling g mk a) rfl rfl qE2, qE3.moved (Vm.Alike.refl U.vm)⟩, fun U hU hW => ⟨rfl, by rw [hU], by rw [hU]; exact hP, va_K.moved hW.alike hKa, hD.weaken (fun _ _ _ _ => trivial), hAO.moved hW.alike, va_Nw.warmM hW hNst, ((hLe.2.2.2.1.kept (fun a h1 h2 => by rw [hU]; exact hS.2.1 a h1 h2)).moved hW.alike).narrow hFc⟩⟩ rfl rfl hl.1 rfl (lv_room (Nat.le_of_ble_eq_true rfl)) dLaw_4 ⟨Nat.le_of_ble_eq_true rfl, Nat.le_of_ble_eq_true rfl⟩) hS (fun q _ h => hFc q h) hFc (fun ad t H1 locs ht hvm hw9 hB hz1 hk1 hS => ?_)
  obtain ⟨hP1, -, hD1⟩ := hB
  rw [ht] at hP1
  obtain ⟨hw9, rfl⟩ : ad 9 0 = t0 ∧ ad 0 0 = q0 := hw9
  obtain ⟨hP, hD⟩ := px_join (Y := []) (by rw [List.append_nil]; exact hP) (by rw [List.append_nil]; exact hD) hFc hk1 hP1 hD1
  rw [List.append_nil] at hP hD
  generalize H1 = H at hP hS ⊢
  refine W.widen (k := 30) (n := 3829) (by omega) (by omega) ?_
  have hl : lv_has ls 7 [(0, .ref b)] := hl
  refine lv_astore_n (lv' := [(1, .ref (ad 0 0)), (0, .ref b)]) hx hb dLaw_7 rfl hl (by decide) rfl (fun ls hl => ?_)
  refine va_new (ci := 5) (fs := [.int 0, .int 0, .int 0, .int 0, .int 0, .int 0, .int 0, .null, .null, .null, .null, .null, .null, .null, .null, .null, .null, .null, .null, .null, .null, .null, .null, .null, .null, .null]) (C := RM) (T := TM) (N := 26) hx hb hts inM tyM tyM_ok hown (hts _ tw_585) (hts _ tw_586) (hts _ tw_7) hK hP hD hS hA rfl (fun j hj => by rcases (show j = 0 ∨ j = 1 ∨ j = 2 ∨ j = 3 ∨ j = 4 ∨ j = 5 ∨ j = 6 ∨ j = 7 ∨ j = 8 ∨ j = 9 ∨ j = 10 ∨ j = 11 ∨ j = 12 ∨ j = 13 ∨ j = 14 ∨ j = 15 ∨ j = 16 ∨ j = 17 ∨ j = 18 ∨ j = 19 ∨ j = 20 ∨ j = 21 ∨ j = 22 ∨ j = 23 ∨ j = 24 ∨ j = 25 by omega) with rfl | rfl | rfl | rfl | rfl | rfl | rfl | rfl | rfl | rfl | rfl | rfl | rfl | rfl | rfl | rfl | rfl | rfl | rfl | rfl | rfl | rfl | rfl | rfl | rfl | rfl <;> rfl) (Nat.le_of_ble_eq_true rfl) (Nat.le_of_ble_eq_true rfl) dLaw_8 (fun q1 H hP hD hS => ?_)
  refine W.widen (k := 31) (n := 3855) (by omega) (by omega) ?_
  refine lv_dup hx hb dLaw_11 rfl ?_
  have hPc := px_sP hP
  have hDc := px_sD hD
  have hFc := px_free hDc hS hA
  refine va_callv (va_runI (As := []) (rest := [.ref q1]) ⟨hx, hb, hml, hown, hts⟩ (c_initM9 l D cm q1 H.size) (cwI 0 hts (gB tw_589) rfl rfl rfl (hts _ tw_7) (hts _ tw_587) (hts _ tw_588) rfl (by decide +kernel) ⟨Nat.le_of_ble_eq_true rfl, Nat.le_of_ble_eq_true rfl⟩) ⟨fun a U g mk q => by obtain ⟨q0, q1, qP, qK, qD⟩ := q; exact ⟨q0, q1, qP, va_K.moved (u := U) (U := U.calling g mk a) (Vm.Alike.refl U.vm) qK, qD⟩, fun U hU hW => ⟨rfl, by rw [hU], by rw [hU]; exact hPc, va_K.moved hW.alike hKm, hDc.weaken (fun _ _ _ _ => trivial)⟩⟩ rfl rfl hl.1 rfl (lv_room (Nat.le_of_ble_eq_true rfl)) dLaw_12 ⟨Nat.le_of_ble_eq_true rfl, Nat.le_of_ble_eq_true rfl⟩) hS (fun q _ h => hFc q h) hFc (fun am t H1 locs ht hvm hw9m hB hz1 hk1 hS => ?_)
  obtain ⟨hP1, -, hD1⟩ := hB
  rw [ht] at hP1
  obtain rfl : am 0 0 = q1 := hw9m
  obtain ⟨hP, hD⟩ := px_joinR hP hD hFc hk1 hP1 hD1
  generalize H1 = H at hP hS ⊢
  refine W.widen (k := 50) (n := 13855) (by omega) (by omega) ?_
  refine lv_astore_n (lv' := [(2, .ref (am 0 0)), (1, .ref (ad 0 0)), (0, .ref b)]) hx hb dLaw_15 rfl hl (by decide) rfl (fun ls hl => ?_)
  refine lv_iconst (v := 1) hx hb dLaw_16 (by decide) ?_
  refine va_newa (atype := .long) (ty := .long) (a0 := (1, .inr (.inl (fun _ => 0)))) hx hb (hts _ tw_767) rfl hK hP hD hS hA (fun _ => rfl) (by decide) (N' := 1) (by decide) (by decide) (Nat.le_of_ble_eq_true rfl) (Nat.le_of_ble_eq_true rfl) dLaw_17 (fun o cj H hK hP hD hS => ?_)
  have hK := hK.sub (tys' := tyZ ca cj cm) [0, 1, 2, 3, 6, 4, 5] rfl
  have hP := px_sw (X := wX ca ad sg0) hP
  have hD := px_swD (X := wX ca ad sg0) hD
  refine W.widen (k := 51 + 4 * 0) (n := 13856 + 3100 * 0) (by omega) (by omega) ?_
  refine lv_astore_n (lv' := [(3, .ref o), (2, .ref (am 0 0)), (1, .ref (ad 0 0)), (0, .ref b)]) hx hb dLaw_19 rfl hl (by decide) rfl (fun ls hl => ?_)
  refine lv_iconst (v := 0) hx hb dLaw_20 (by decide) ?_
  refine lv_istore (lv' := [(4, .int 0), (3, .ref o), (2, .ref (am 0 0)), (1, .ref (ad 0 0)), (0, .ref b)]) hx hb dLaw_21 hl (by decide) rfl (fun ls hl => ?_)
  exact law_loop hx hb hml hown hts hX hbl hl0 hK hE hN hLe hret hlk hL 512 0 rfl ad sg0 (fun _ => 0) sm0 (fun _ => hw9) rl_0 H _ hP hD hS ls (lv_sub hl [4, 3, 2, 1, 0] rfl)
