/-! THE LAW'S HELPERS: the class's cells beside the answer's array o -/
def wW (ca : Nat → ClassId) (ad : Nat → Nat → Nat) (cj : ClassId) (o : Nat) (σ : Sg) (f : Nat → Int64) : va_W := wX ca ad σ ++ [(o, .inl (cj, 1, .inr (.inl f)))]
def tyW (ca : Nat → ClassId) (cj : ClassId) : List (ClassId × FieldType) := tyA ca ++ [(cj, .long)]
def eN (U : State) : Prop := va_Nc "java/lang/IllegalStateException" "java/lang/IllegalArgumentException" U ∧ va_Nc "java/lang/IllegalArgumentException" "java/lang/IndexOutOfBoundsException" U ∧ va_Nc "java/lang/IllegalStateException" "java/lang/IndexOutOfBoundsException" U
theorem eN.moved {u U : State} (hvm : u.vm.Alike U.vm) (h : eN u) : eN U := ⟨h.1.moved hvm, h.2.1.moved hvm, h.2.2.moved hvm⟩
abbrev preW (D : va_G) (ca : Nat → ClassId) (ad : Nat → Nat → Nat) (cj : ClassId) (o : Nat) (σ : Sg) (f : Nat → Int64) (sz : Nat) (U : State) : Prop := U.heap.size = sz ∧ va_P D clX (wW ca ad cj o σ f) U.heap ∧ va_K D clX (tyW ca cj) U ∧ va_D (fun _ => True) (wW ca ad cj o σ f) ∧ eX (va_A (wW ca ad cj o σ f) sz) U ∧ eN U
abbrev atW (D : va_G) (ca : Nat → ClassId) (ad : Nat → Nat → Nat) (cj : ClassId) (o : Nat) (A : Nat → Prop) (σ : Sg) (f : Nat → Int64) (t : State) : Prop := va_P D clX (wW ca ad cj o σ f) t.heap ∧ va_K D clX (tyW ca cj) t ∧ va_D A (wW ca ad cj o σ f)
theorem px_fP {D : va_G} {cl : List vw_C} {X Y : va_W} {H : Heap} (h : va_P D cl (X ++ Y) H) : va_P D cl X H := fun k q e => h k q (px_l e)
theorem px_fD {A : Nat → Prop} {X Y : va_W} (h : va_D A (X ++ Y)) : va_D A X := ⟨fun i j p q h1 h2 e => h.1 i j p q (px_l h1) (px_l h2) e, fun k q e => h.2 k q (px_l e)⟩
/-- behind a call on the first part: the second is as it was -/
theorem px_join {A : Nat → Prop} {D : va_G} {cl : List vw_C} {X X' Y : va_W} {H H1 : Heap} (hP : va_P D cl (X ++ Y) H) (hD : va_D A (X ++ Y)) (hF : ∀ q, va_A X H.size q → A q) (hk : ∀ q : Nat, q < H.size → ¬ va_A X H.size q → H1[q]? = H[q]?) (hP1 : va_P D cl X' H1) (hD1 : va_D (va_A X H.size) X') : va_P D cl (X' ++ Y) H1 ∧ va_D A (X' ++ Y) := by
  have ar : ∀ (k : Nat) (q : Nat × va_E), Y[k]? = some q → (X ++ Y)[X.length + k]? = some q := fun k q e => by rw [px_ar _ rfl]; exact e
  have ny : ∀ (k : Nat) (q : Nat × va_E), Y[k]? = some q → ¬ va_A X H.size q.1 := by
    intro k q e z
    rcases z with ⟨i, x, hx⟩ | z
    · have h1 := hD.1 i (X.length + k) (q.1, x) q (px_l hx) (ar k q e) rfl
      have h2 := (List.getElem?_eq_some_iff.mp hx).1
      omega
    · exact absurd (va_at.lt (hP _ _ (ar k q e))) (by omega)
  refine ⟨hP1.app (fun k q e => ?_), va_D.app (hD1.weaken (fun _ _ _ h => hF _ h)) ⟨fun i j p q h1 h2 e => ?_, fun k q e => hD.2 _ q (ar k q e)⟩ (fun i j p q h1 h2 e => ?_)⟩
  · exact (hP _ _ (ar k q e)).kept (hk q.1 (va_at.lt (hP _ _ (ar k q e))) (ny k q e))
  · have h3 := hD.1 _ _ p q (ar i p h1) (ar j q h2) e
    omega
  · exact ny j q h2 (e ▸ hD1.2 i p h1)
theorem pw_blind {D : va_G} {ca : Nat → ClassId} {ad : Nat → Nat → Nat} {cj : ClassId} {o : Nat} {σ : Sg} {f : Nat → Int64} {sz : Nat} {av : List Value} : FrameBlind (va_Pc av (preW D ca ad cj o σ f sz)) := fun a U g mk q => by
  obtain ⟨q0, q1, qP, qK, qD, qE, qN⟩ := q
  exact ⟨q0, q1, qP, va_K.moved (u := U) (U := U.calling g mk a) (Vm.Alike.refl U.vm) qK, qD, ⟨qE.1.moved (Vm.Alike.refl U.vm), qE.2.1.moved (Vm.Alike.refl U.vm), fun k q e => by obtain ⟨sa, z⟩ := qE.2.2.1 k q e; exact ⟨sa, vk_R.same rfl z⟩, fun w hw => va_Nw.same (u := U) (U := U.calling g mk a) (List.all_eq_true.mp (by decide +kernel : badX.all (fun w => w.onTables) = true) w hw) rfl (qE.2.2.2 w hw)⟩, qN.moved (Vm.Alike.refl U.vm)⟩

theorem dW_feed_0 : decode cW_feed 0 = .ok (.aload 4, 2) := by decide +kernel
theorem dW_feed_2 : decode cW_feed 2 = .ok (.iconst 0, 1) := by decide +kernel
theorem dW_feed_3 : decode cW_feed 3 = .ok (.aload_n 0, 1) := by decide +kernel
theorem dW_feed_4 : decode cW_feed 4 = .ok (.lload_n 1, 1) := by decide +kernel
theorem dW_feed_5 : decode cW_feed 5 = .ok (.iload_n 3, 1) := by decide +kernel
theorem dW_feed_6 : decode cW_feed 6 = .ok (.invokevirtual 7, 3) := by decide +kernel
theorem dW_feed_9 : decode cW_feed 9 = .ok (.i2l, 1) := by decide +kernel
theorem dW_feed_10 : decode cW_feed 10 = .ok (.lastore, 1) := by decide +kernel
theorem dW_feed_11 : decode cW_feed 11 = .ok (.goto 11, 3) := by decide +kernel
theorem dW_feed_14 : decode cW_feed 14 = .ok (.astore 5, 2) := by decide +kernel
theorem dW_feed_16 : decode cW_feed 16 = .ok (.iconst 1, 1) := by decide +kernel
theorem dW_feed_17 : decode cW_feed 17 = .ok (.ireturn, 1) := by decide +kernel
theorem dW_feed_18 : decode cW_feed 18 = .ok (.astore 5, 2) := by decide +kernel
theorem dW_feed_20 : decode cW_feed 20 = .ok (.iconst 2, 1) := by decide +kernel
theorem dW_feed_21 : decode cW_feed 21 = .ok (.ireturn, 1) := by decide +kernel
theorem dW_feed_22 : decode cW_feed 22 = .ok (.iconst 0, 1) := by decide +kernel
theorem dW_feed_23 : decode cW_feed 23 = .ok (.ireturn, 1) := by decide +kernel
def wpW_feed (post : Int32 → Sg → (Nat → Int64) → Prop) (σ : Sg) (f : Nat → Int64) (a0 : Int64) (a1 : Int32) : Prop := wp_feed (fun r s1 => post 0 s1 (vp_updL f (0 : Int32).toNatClampNeg r.toInt64)) (fun E s1 => (E = "java/lang/IllegalArgumentException" ∧ post 1 s1 f) ∨ (E = "java/lang/IllegalStateException" ∧ post 2 s1 f)) σ a0 a1
set_option maxHeartbeats 4000000 in
set_option maxRecDepth 100000 in
theorem c_W_feed (l : Launch) (D : va_G) (ca : Nat → ClassId) (ad : Nat → Nat → Nat) (cj : ClassId) (o : Nat) (σ : Sg) (f : Nat → Int64) (a0 : Int64) (a1 : Int32) (sz : Nat) (post : Int32 → Sg → (Nat → Int64) → Prop) (hl0 : l.stackTraces = false) (hw : wpW_feed post σ f a0 a1) : Met l yW_feed wsW_feed ({ frames := 9, cells := 1, slots := 6, locals := 144 }) (va_Pc [.ref (ad 0 0), .long a0, .int a1, .ref o] (preW D ca ad cj o σ f sz)) (va_Qi (fun (r : Int32) (u : Sg × (Nat → Int64)) => post r u.1 u.2) (fun u t => atW D ca ad cj o (va_A (wW ca ad cj o σ f) sz) u.1 u.2 t) (va_A (wW ca ad cj o σ f) sz)) 1 6 (va_A (wW ca ad cj o σ f) sz) := by
  refine va_MetW (cc := cW_feed) (maxL := 6) (ret := (some .int)) (hh := [(0, 11, 14, 13), (0, 11, 18, 15)]) (by decide) rfl ?_
  intro p e s m args below meth c s₁ B hml hv
  obtain ⟨rfl, hsz, hP, hK, hD0, hE, hN⟩ := hv
  have hx := B.exec
  have hb := B.bytes
  have hr := B.returns
  have htab : c.exceptionTable.toList = tableOf [(0, 11, 14, 13), (0, 11, 18, 15)] := vx_table (x := yW_feed) B (atoms_spec (ws := wsW_feed) B.pre _ List.mem_cons_self)
  have hts : ∀ w ∈ tbG, w.before _ s = true := fun w h => atoms_spec (ws := wsW_feed) B.pre w (List.mem_cons_of_mem _ h)
  have hown : s.vm.findClass RW = some m.cls := findClass_of_methodNamed B.named
  have hlocks := B.notSynchronized
  subst hsz
  have hD := hD0.self (sz := s.heap.size)
  generalize hAe : va_A (wW ca ad cj o σ f) s.heap.size = A at hD hE ⊢
  have hA : ∀ q : Nat, s.heap.size ≤ q → A q := fun q h => by rw [← hAe]; exact Or.inr h
  clear hAe
  have hS : va_S A s.heap s.heap [] := va_S.rf
  have hl := lv_entry ([.ref (ad 0 0), .long a0, .int a1, .ref o]) (n := 6) (Nat.le_of_ble_eq_true rfl)
  rw [lg_entry_eq]
  generalize (lg_sl ([.ref (ad 0 0), .long a0, .int a1, .ref o]) ++ List.replicate (6 - (lg_sl ([.ref (ad 0 0), .long a0, .int a1, .ref o])).length) Slot.unset).toArray = ls at hl ⊢
  have hl : lv_has ls 6 [(0, .ref (ad 0 0)), (1, .long a0), (3, .int a1), (4, .ref o)] := hl
  unfold wpW_feed at hw
  have hK4 := hK.sub (tys' := tyA ca) [0, 1, 2, 3] rfl
  refine lv_aload hx hb dW_feed_0 (lv_at hl 3 rfl) ?_
  refine lv_iconst (v := 0) hx hb dW_feed_2 (by decide) ?_
  refine lv_aload_n hx hb dW_feed_3 rfl (lv_at hl 0 rfl) ?_
  refine lv_lload_n hx hb dW_feed_4 rfl (lv_at hl 1 rfl) ?_
  refine lv_iload_n hx hb dW_feed_5 rfl (lv_at hl 2 rfl) ?_
  have hPX := px_fP hP
  have hDX := px_fD hD
  have hFc := px_free hDX hS hA
  refine vx_calli (vx_runV (As := [.long a0, .int a1]) (rest := [.int 0, .ref o]) ⟨hx, hb, hml, hown, hts⟩ (c_feed l D ca ad σ a0 a1 _ _ _ hl0 hw) (cwV 2 hts (gV tw_210 tw_211 tw_212 tw_1 tw_213) rfl rfl rfl (by decide +kernel) ⟨Nat.le_of_ble_eq_true rfl, Nat.le_of_ble_eq_true rfl⟩) ⟨px_blind, px_recv hK4 hPX gX_0 rfl, fun U hU hW => px_pre hPX hK4 hDX hE hS hFc hU hW⟩ rfl rfl hl.1 rfl (lv_room (Nat.le_of_ble_eq_true rfl)) dW_feed_6 ⟨Nat.le_of_ble_eq_true rfl, Nat.le_of_ble_eq_true rfl⟩) hS (fun q _ h => hFc q h) hFc (fun q _ h => hFc q h) (fun E9 ce9 q9 u9 t9 H locs ht hvm hw hB hz1 hk1 hS hce hcv hcl => ?_) (fun r9 u t H locs ht hvm hw hB hz1 hk1 hS => ?_)
  · obtain ⟨rfl, hP1, -, hD1⟩ := hB
    rw [ht] at hP1
    obtain ⟨hP, hD⟩ := px_join hP hD hFc hk1 hP1 hD1
    rcases hw with ⟨e1, hw⟩ | ⟨e1, hw⟩
    · refine vx_catch (own := RW) (name := "java/lang/IllegalArgumentException") hown [] ⟨0, 11, 14, 13⟩ [⟨0, 11, 18, 15⟩] (htab.trans rfl) (fun z hz => by cases hz) rfl (by decide) (hts _ tw_208) (by rw [e1]; exact va_Nw.use rfl (hE.bad (.castable "java/lang/IllegalArgumentException" "java/lang/IllegalArgumentException") (by decide +kernel))) hce hcv hcl ?_
      refine W.widen (k := 1) (n := 6) (Nat.le_of_ble_eq_true rfl) (Nat.le_of_ble_eq_true rfl) ?_
      refine lv_astore (lv' := [(5, .ref q9), (0, .ref (ad 0 0)), (1, .long a0), (3, .int a1), (4, .ref o)]) hx hb dW_feed_14 hl (by decide) rfl (fun ls hl => ?_)
      refine lv_iconst (v := 1) hx hb dW_feed_16 (by decide) ?_
      exact W.iret (v := 1) hx hb hr (fun t ht hW => ⟨⟨1, (u9.2, f), rfl, hw, by rw [ht]; exact hP, va_K.moved hW.alike hK, hD⟩, hS.F ht⟩) hS.2.2 dW_feed_17
    · refine vx_catch (own := RW) (name := "java/lang/IllegalStateException") hown [⟨0, 11, 14, 13⟩] ⟨0, 11, 18, 15⟩ [] (htab.trans rfl) (fun z hz => by simp only [List.mem_cons, List.not_mem_nil, or_false] at hz; rcases hz with rfl; exact Or.inr ⟨by decide, "java/lang/IllegalArgumentException", hts _ tw_208, by rw [e1]; exact hN.1⟩) rfl (by decide) (hts _ tw_209) (by rw [e1]; exact va_Nw.use rfl (hE.bad (.castable "java/lang/IllegalStateException" "java/lang/IllegalStateException") (by decide +kernel))) hce hcv hcl ?_
      refine W.widen (k := 1) (n := 6) (Nat.le_of_ble_eq_true rfl) (Nat.le_of_ble_eq_true rfl) ?_
      refine lv_astore (lv' := [(5, .ref q9), (0, .ref (ad 0 0)), (1, .long a0), (3, .int a1), (4, .ref o)]) hx hb dW_feed_18 hl (by decide) rfl (fun ls hl => ?_)
      refine lv_iconst (v := 2) hx hb dW_feed_20 (by decide) ?_
      exact W.iret (v := 2) hx hb hr (fun t ht hW => ⟨⟨2, (u9.2, f), rfl, hw, by rw [ht]; exact hP, va_K.moved hW.alike hK, hD⟩, hS.F ht⟩) hS.2.2 dW_feed_21
  · obtain ⟨s9, rfl⟩ : ∃ z, z = u := ⟨_, rfl⟩
    obtain ⟨hP1, -, hD1⟩ := hB
    rw [ht] at hP1
    obtain ⟨hP, hD⟩ := px_join hP hD hFc hk1 hP1 hD1
    refine W.widen (k := 1) (n := 6) (Nat.le_of_ble_eq_true rfl) (Nat.le_of_ble_eq_true rfl) ?_
    refine lv_i2l (v := r9.toInt64) hx hb dW_feed_9 rfl ?_
    refine va_last hx hb hK hP hD hS ((wX ca ad s9).length + 0) 4 px_e rfl (by unfold vp_in; decide) dW_feed_10 (fun H locs hP hD hS => ?_)
    rw [px_es] at hP hD
    refine lv_goto (tgt := 22) hx hb dW_feed_11 (by decide) ?_
    refine lv_iconst (v := 0) hx hb dW_feed_22 (by decide) ?_
    exact W.iret (v := 0) hx hb hr (fun t ht hW => ⟨⟨0, (s9, vp_updL f (0 : Int32).toNatClampNeg r9.toInt64), rfl, hw, by rw [ht]; exact hP, va_K.moved hW.alike hK, hD⟩, hS.F ht⟩) hS.2.2 dW_feed_23
theorem dW_ask_0 : decode cW_ask 0 = .ok (.aload 5, 2) := by decide +kernel
theorem dW_ask_2 : decode cW_ask 2 = .ok (.iconst 0, 1) := by decide +kernel
theorem dW_ask_3 : decode cW_ask 3 = .ok (.aload_n 0, 1) := by decide +kernel
theorem dW_ask_4 : decode cW_ask 4 = .ok (.iload_n 1, 1) := by decide +kernel
theorem dW_ask_5 : decode cW_ask 5 = .ok (.iload_n 2, 1) := by decide +kernel
theorem dW_ask_6 : decode cW_ask 6 = .ok (.iload_n 3, 1) := by decide +kernel
theorem dW_ask_7 : decode cW_ask 7 = .ok (.iload 4, 2) := by decide +kernel
theorem dW_ask_9 : decode cW_ask 9 = .ok (.invokevirtual 17, 3) := by decide +kernel
theorem dW_ask_12 : decode cW_ask 12 = .ok (.i2l, 1) := by decide +kernel
theorem dW_ask_13 : decode cW_ask 13 = .ok (.lastore, 1) := by decide +kernel
theorem dW_ask_14 : decode cW_ask 14 = .ok (.goto 15, 3) := by decide +kernel
theorem dW_ask_17 : decode cW_ask 17 = .ok (.astore 6, 2) := by decide +kernel
theorem dW_ask_19 : decode cW_ask 19 = .ok (.iconst 1, 1) := by decide +kernel
theorem dW_ask_20 : decode cW_ask 20 = .ok (.ireturn, 1) := by decide +kernel
theorem dW_ask_21 : decode cW_ask 21 = .ok (.astore 6, 2) := by decide +kernel
theorem dW_ask_23 : decode cW_ask 23 = .ok (.iconst 2, 1) := by decide +kernel
theorem dW_ask_24 : decode cW_ask 24 = .ok (.ireturn, 1) := by decide +kernel
theorem dW_ask_25 : decode cW_ask 25 = .ok (.astore 6, 2) := by decide +kernel
theorem dW_ask_27 : decode cW_ask 27 = .ok (.iconst 3, 1) := by decide +kernel
theorem dW_ask_28 : decode cW_ask 28 = .ok (.ireturn, 1) := by decide +kernel
theorem dW_ask_29 : decode cW_ask 29 = .ok (.iconst 0, 1) := by decide +kernel
theorem dW_ask_30 : decode cW_ask 30 = .ok (.ireturn, 1) := by decide +kernel
def wpW_ask (post : Int32 → Sg → (Nat → Int64) → Prop) (σ : Sg) (f : Nat → Int64) (a0 : Int32) (a1 : Int32) (a2 : Int32) (a3 : Int32) : Prop := wp_ask (fun r s1 => post 0 s1 (vp_updL f (0 : Int32).toNatClampNeg r.toInt64)) (fun E s1 => (E = "java/lang/IndexOutOfBoundsException" ∧ post 1 s1 f) ∨ (E = "java/lang/IllegalArgumentException" ∧ post 2 s1 f) ∨ (E = "java/lang/IllegalStateException" ∧ post 3 s1 f)) σ a0 a1 a2 a3
set_option maxHeartbeats 4000000 in
set_option maxRecDepth 100000 in
theorem c_W_ask (l : Launch) (D : va_G) (ca : Nat → ClassId) (ad : Nat → Nat → Nat) (cj : ClassId) (o : Nat) (t0 mi : Nat) (σ : Sg) (f : Nat → Int64) (a0 : Int32) (a1 : Int32) (a2 : Int32) (a3 : Int32) (sz : Nat) (post : Int32 → Sg → (Nat → Int64) → Prop) (hl0 : l.stackTraces = false) (h9 : sC σ = 0 → ad 9 0 = t0) (hw : wpW_ask post σ f a0 a1 a2 a3) : Met l yW_ask wsW_ask ({ frames := 10, cells := 4, slots := 3100, locals := 288 }) (va_Pc [.ref (ad 0 0), .int a0, .int a1, .int a2, .int a3, .ref o] (fun U => preW D ca ad cj o σ f sz U ∧ eL t0 mi (va_A (wW ca ad cj o σ f) sz) U)) (va_Qi (fun (r : Int32) (u : (Nat → Nat → Nat) × Sg × (Nat → Int64)) => (∀ k i, k ≤ 8 → u.1 k i = ad k i) ∧ (r ≠ 0 → u.1 = ad) ∧ post r u.2.1 u.2.2) (fun u t => atW D ca u.1 cj o (va_A (wW ca ad cj o σ f) sz) u.2.1 u.2.2 t) (va_A (wW ca ad cj o σ f) sz)) 4 3100 (va_A (wW ca ad cj o σ f) sz) := by
  refine va_MetW (cc := cW_ask) (maxL := 7) (ret := (some .int)) (hh := [(0, 14, 17, 21), (0, 14, 21, 13), (0, 14, 25, 15)]) (by decide) rfl ?_
  intro p e s m args below meth c s₁ B hml hv
  obtain ⟨rfl, ⟨hsz, hP, hK, hD0, hE, hN⟩, hL⟩ := hv
  have hx := B.exec
  have hb := B.bytes
  have hr := B.returns
  have htab : c.exceptionTable.toList = tableOf [(0, 14, 17, 21), (0, 14, 21, 13), (0, 14, 25, 15)] := vx_table (x := yW_ask) B (atoms_spec (ws := wsW_ask) B.pre _ List.mem_cons_self)
  have hts : ∀ w ∈ tbG, w.before _ s = true := fun w h => atoms_spec (ws := wsW_ask) B.pre w (List.mem_cons_of_mem _ h)
  have hown : s.vm.findClass RW = some m.cls := findClass_of_methodNamed B.named
  have hlocks := B.notSynchronized
  subst hsz
  have hD := hD0.self (sz := s.heap.size)
  generalize hAe : va_A (wW ca ad cj o σ f) s.heap.size = A at hD hE hL ⊢
  have hA : ∀ q : Nat, s.heap.size ≤ q → A q := fun q h => by rw [← hAe]; exact Or.inr h
  clear hAe
  have hS : va_S A s.heap s.heap [] := va_S.rf
  have hl := lv_entry ([.ref (ad 0 0), .int a0, .int a1, .int a2, .int a3, .ref o]) (n := 7) (Nat.le_of_ble_eq_true rfl)
  rw [lg_entry_eq]
  generalize (lg_sl ([.ref (ad 0 0), .int a0, .int a1, .int a2, .int a3, .ref o]) ++ List.replicate (7 - (lg_sl ([.ref (ad 0 0), .int a0, .int a1, .int a2, .int a3, .ref o])).length) Slot.unset).toArray = ls at hl ⊢
  have hl : lv_has ls 7 [(0, .ref (ad 0 0)), (1, .int a0), (2, .int a1), (3, .int a2), (4, .int a3), (5, .ref o)] := hl
  unfold wpW_ask at hw
  have hK4 := hK.sub (tys' := tyA ca) [0, 1, 2, 3] rfl
  refine lv_aload hx hb dW_ask_0 (lv_at hl 5 rfl) ?_
  refine lv_iconst (v := 0) hx hb dW_ask_2 (by decide) ?_
  refine lv_aload_n hx hb dW_ask_3 rfl (lv_at hl 0 rfl) ?_
  refine lv_iload_n hx hb dW_ask_4 rfl (lv_at hl 1 rfl) ?_
  refine lv_iload_n hx hb dW_ask_5 rfl (lv_at hl 2 rfl) ?_
  refine lv_iload_n hx hb dW_ask_6 rfl (lv_at hl 3 rfl) ?_
  refine lv_iload hx hb dW_ask_7 (lv_at hl 4 rfl) ?_
  have hPX := px_fP hP
  have hDX := px_fD hD
  have hFc := px_free hDX hS hA
  refine vx_calli (vx_runV (As := [.int a0, .int a1, .int a2, .int a3]) (rest := [.int 0, .ref o]) ⟨hx, hb, hml, hown, hts⟩ (c_ask l D ca ad σ t0 mi a0 a1 a2 a3 _ _ _ hl0 h9 hw) (cwV 4 hts (gV tw_301 tw_302 tw_303 tw_1 tw_304) rfl rfl rfl (by decide +kernel) ⟨Nat.le_of_ble_eq_true rfl, Nat.le_of_ble_eq_true rfl⟩) ⟨pa_blind, px_recv hK4 hPX gX_0 rfl, fun U hU hW => pa_pre hPX hK4 hDX hE hL hS hFc hU hW⟩ rfl rfl hl.1 rfl (lv_room (Nat.le_of_ble_eq_true rfl)) dW_ask_9 ⟨Nat.le_of_ble_eq_true rfl, Nat.le_of_ble_eq_true rfl⟩) hS (fun q _ h => hFc q h) hFc (fun q _ h => hFc q h) (fun E9 ce9 q9 u9 t9 H locs ht hvm hw hB hz1 hk1 hS hce hcv hcl => ?_) (fun r9 u t H locs ht hvm hw hB hz1 hk1 hS => ?_)
  · obtain ⟨rfl, hP1, -, hD1⟩ := hB
    rw [ht] at hP1
    obtain ⟨hP, hD⟩ := px_join hP hD hFc hk1 hP1 hD1
    rcases hw with ⟨e1, hw⟩ | ⟨e1, hw⟩ | ⟨e1, hw⟩
    · refine vx_catch (own := RW) (name := "java/lang/IndexOutOfBoundsException") hown [] ⟨0, 14, 17, 21⟩ [⟨0, 14, 21, 13⟩, ⟨0, 14, 25, 15⟩] (htab.trans rfl) (fun z hz => by cases hz) rfl (by decide) (hts _ tw_300) (by rw [e1]; exact va_Nw.use rfl (hE.bad (.castable "java/lang/IndexOutOfBoundsException" "java/lang/IndexOutOfBoundsException") (by decide +kernel))) hce hcv hcl ?_
      refine W.widen (k := 4) (n := 3100) (Nat.le_of_ble_eq_true rfl) (Nat.le_of_ble_eq_true rfl) ?_
      refine lv_astore (lv' := [(6, .ref q9), (0, .ref (ad 0 0)), (1, .int a0), (2, .int a1), (3, .int a2), (4, .int a3), (5, .ref o)]) hx hb dW_ask_17 hl (by decide) rfl (fun ls hl => ?_)
      refine lv_iconst (v := 1) hx hb dW_ask_19 (by decide) ?_
      exact W.iret (v := 1) hx hb hr (fun t ht hW => ⟨⟨1, (ad, u9.2, f), rfl, ⟨fun _ _ _ => rfl, fun _ => rfl, hw⟩, by rw [ht]; exact hP, va_K.moved hW.alike hK, hD⟩, hS.F ht⟩) hS.2.2 dW_ask_20
    · refine vx_catch (own := RW) (name := "java/lang/IllegalArgumentException") hown [⟨0, 14, 17, 21⟩] ⟨0, 14, 21, 13⟩ [⟨0, 14, 25, 15⟩] (htab.trans rfl) (fun z hz => by simp only [List.mem_cons, List.not_mem_nil, or_false] at hz; rcases hz with rfl; exact Or.inr ⟨by decide, "java/lang/IndexOutOfBoundsException", hts _ tw_300, by rw [e1]; exact hN.2.1⟩) rfl (by decide) (hts _ tw_208) (by rw [e1]; exact va_Nw.use rfl (hE.bad (.castable "java/lang/IllegalArgumentException" "java/lang/IllegalArgumentException") (by decide +kernel))) hce hcv hcl ?_
      refine W.widen (k := 4) (n := 3100) (Nat.le_of_ble_eq_true rfl) (Nat.le_of_ble_eq_true rfl) ?_
      refine lv_astore (lv' := [(6, .ref q9), (0, .ref (ad 0 0)), (1, .int a0), (2, .int a1), (3, .int a2), (4, .int a3), (5, .ref o)]) hx hb dW_ask_21 hl (by decide) rfl (fun ls hl => ?_)
      refine lv_iconst (v := 2) hx hb dW_ask_23 (by decide) ?_
      exact W.iret (v := 2) hx hb hr (fun t ht hW => ⟨⟨2, (ad, u9.2, f), rfl, ⟨fun _ _ _ => rfl, fun _ => rfl, hw⟩, by rw [ht]; exact hP, va_K.moved hW.alike hK, hD⟩, hS.F ht⟩) hS.2.2 dW_ask_24
    · refine vx_catch (own := RW) (name := "java/lang/IllegalStateException") hown [⟨0, 14, 17, 21⟩, ⟨0, 14, 21, 13⟩] ⟨0, 14, 25, 15⟩ [] (htab.trans rfl) (fun z hz => by simp only [List.mem_cons, List.not_mem_nil, or_false] at hz; rcases hz with rfl | rfl <;> first | (exact Or.inr ⟨by decide, "java/lang/IndexOutOfBoundsException", hts _ tw_300, by rw [e1]; exact hN.2.2⟩) | (exact Or.inr ⟨by decide, "java/lang/IllegalArgumentException", hts _ tw_208, by rw [e1]; exact hN.1⟩)) rfl (by decide) (hts _ tw_209) (by rw [e1]; exact va_Nw.use rfl (hE.bad (.castable "java/lang/IllegalStateException" "java/lang/IllegalStateException") (by decide +kernel))) hce hcv hcl ?_
      refine W.widen (k := 4) (n := 3100) (Nat.le_of_ble_eq_true rfl) (Nat.le_of_ble_eq_true rfl) ?_
      refine lv_astore (lv' := [(6, .ref q9), (0, .ref (ad 0 0)), (1, .int a0), (2, .int a1), (3, .int a2), (4, .int a3), (5, .ref o)]) hx hb dW_ask_25 hl (by decide) rfl (fun ls hl => ?_)
      refine lv_iconst (v := 3) hx hb dW_ask_27 (by decide) ?_
      exact W.iret (v := 3) hx hb hr (fun t ht hW => ⟨⟨3, (ad, u9.2, f), rfl, ⟨fun _ _ _ => rfl, fun _ => rfl, hw⟩, by rw [ht]; exact hP, va_K.moved hW.alike hK, hD⟩, hS.F ht⟩) hS.2.2 dW_ask_28
  · obtain ⟨ad9, s9⟩ := u
    obtain ⟨ha9, hw⟩ := hw
    obtain ⟨hP1, -, hD1⟩ := hB
    rw [ht] at hP1
    obtain ⟨hP, hD⟩ := px_join hP hD hFc hk1 hP1 hD1
    refine W.widen (k := 4) (n := 3100) (Nat.le_of_ble_eq_true rfl) (Nat.le_of_ble_eq_true rfl) ?_
    refine lv_i2l (v := r9.toInt64) hx hb dW_ask_12 rfl ?_
    refine va_last hx hb hK hP hD hS ((wX ca ad9 s9).length + 0) 4 px_e rfl (by unfold vp_in; decide) dW_ask_13 (fun H locs hP hD hS => ?_)
    rw [px_es] at hP hD
    refine lv_goto (tgt := 29) hx hb dW_ask_14 (by decide) ?_
    refine lv_iconst (v := 0) hx hb dW_ask_29 (by decide) ?_
    exact W.iret (v := 0) hx hb hr (fun t ht hW => ⟨⟨0, (ad9, s9, vp_updL f (0 : Int32).toNatClampNeg r9.toInt64), rfl, ⟨ha9, fun z => absurd rfl z, hw⟩, by rw [ht]; exact hP, va_K.moved hW.alike hK, hD⟩, hS.F ht⟩) hS.2.2 dW_ask_30
theorem dW_giveUp_0 : decode cW_giveUp 0 = .ok (.aload_n 2, 1) := by decide +kernel
theorem dW_giveUp_1 : decode cW_giveUp 1 = .ok (.iconst 0, 1) := by decide +kernel
theorem dW_giveUp_2 : decode cW_giveUp 2 = .ok (.aload_n 0, 1) := by decide +kernel
theorem dW_giveUp_3 : decode cW_giveUp 3 = .ok (.iload_n 1, 1) := by decide +kernel
theorem dW_giveUp_4 : decode cW_giveUp 4 = .ok (.invokevirtual 23, 3) := by decide +kernel
theorem dW_giveUp_7 : decode cW_giveUp 7 = .ok (.ifCond .eq 7, 3) := by decide +kernel
theorem dW_giveUp_10 : decode cW_giveUp 10 = .ok (.lconst 1, 1) := by decide +kernel
theorem dW_giveUp_11 : decode cW_giveUp 11 = .ok (.goto 4, 3) := by decide +kernel
theorem dW_giveUp_14 : decode cW_giveUp 14 = .ok (.lconst 0, 1) := by decide +kernel
theorem dW_giveUp_15 : decode cW_giveUp 15 = .ok (.lastore, 1) := by decide +kernel
theorem dW_giveUp_16 : decode cW_giveUp 16 = .ok (.goto 6, 3) := by decide +kernel
theorem dW_giveUp_19 : decode cW_giveUp 19 = .ok (.astore_n 3, 1) := by decide +kernel
theorem dW_giveUp_20 : decode cW_giveUp 20 = .ok (.iconst 1, 1) := by decide +kernel
theorem dW_giveUp_21 : decode cW_giveUp 21 = .ok (.ireturn, 1) := by decide +kernel
theorem dW_giveUp_22 : decode cW_giveUp 22 = .ok (.iconst 0, 1) := by decide +kernel
theorem dW_giveUp_23 : decode cW_giveUp 23 = .ok (.ireturn, 1) := by decide +kernel
def wpW_giveUp (post : Int32 → Sg → (Nat → Int64) → Prop) (σ : Sg) (f : Nat → Int64) (a0 : Int32) : Prop := wp_giveUp (fun r s1 => ((r = 0 → post 0 s1 (vp_updL f (0 : Int32).toNatClampNeg 0)) ∧ (¬ r = 0 → post 0 s1 (vp_updL f (0 : Int32).toNatClampNeg 1)))) (fun E s1 => (E = "java/lang/IndexOutOfBoundsException" ∧ post 1 s1 f)) σ a0
set_option maxHeartbeats 4000000 in
set_option maxRecDepth 100000 in
theorem c_W_giveUp (l : Launch) (D : va_G) (ca : Nat → ClassId) (ad : Nat → Nat → Nat) (cj : ClassId) (o : Nat) (σ : Sg) (f : Nat → Int64) (a0 : Int32) (sz : Nat) (post : Int32 → Sg → (Nat → Int64) → Prop) (hl0 : l.stackTraces = false) (hw : wpW_giveUp post σ f a0) : Met l yW_giveUp wsW_giveUp ({ frames := 10, cells := 1, slots := 6, locals := 164 }) (va_Pc [.ref (ad 0 0), .int a0, .ref o] (preW D ca ad cj o σ f sz)) (va_Qi (fun (r : Int32) (u : Sg × (Nat → Int64)) => post r u.1 u.2) (fun u t => atW D ca ad cj o (va_A (wW ca ad cj o σ f) sz) u.1 u.2 t) (va_A (wW ca ad cj o σ f) sz)) 1 6 (va_A (wW ca ad cj o σ f) sz) := by
  refine va_MetW (cc := cW_giveUp) (maxL := 4) (ret := (some .int)) (hh := [(0, 16, 19, 21)]) (by decide) rfl ?_
  intro p e s m args below meth c s₁ B hml hv
  obtain ⟨rfl, hsz, hP, hK, hD0, hE, hN⟩ := hv
  have hx := B.exec
  have hb := B.bytes
  have hr := B.returns
  have htab : c.exceptionTable.toList = tableOf [(0, 16, 19, 21)] := vx_table (x := yW_giveUp) B (atoms_spec (ws := wsW_giveUp) B.pre _ List.mem_cons_self)
  have hts : ∀ w ∈ tbG, w.before _ s = true := fun w h => atoms_spec (ws := wsW_giveUp) B.pre w (List.mem_cons_of_mem _ h)
  have hown : s.vm.findClass RW = some m.cls := findClass_of_methodNamed B.named
  have hlocks := B.notSynchronized
  subst hsz
  have hD := hD0.self (sz := s.heap.size)
  generalize hAe : va_A (wW ca ad cj o σ f) s.heap.size = A at hD hE ⊢
  have hA : ∀ q : Nat, s.heap.size ≤ q → A q := fun q h => by rw [← hAe]; exact Or.inr h
  clear hAe
  have hS : va_S A s.heap s.heap [] := va_S.rf
  have hl := lv_entry ([.ref (ad 0 0), .int a0, .ref o]) (n := 4) (Nat.le_of_ble_eq_true rfl)
  rw [lg_entry_eq]
  generalize (lg_sl ([.ref (ad 0 0), .int a0, .ref o]) ++ List.replicate (4 - (lg_sl ([.ref (ad 0 0), .int a0, .ref o])).length) Slot.unset).toArray = ls at hl ⊢
  have hl : lv_has ls 4 [(0, .ref (ad 0 0)), (1, .int a0), (2, .ref o)] := hl
  unfold wpW_giveUp at hw
  have hK4 := hK.sub (tys' := tyA ca) [0, 1, 2, 3] rfl
  refine lv_aload_n hx hb dW_giveUp_0 rfl (lv_at hl 2 rfl) ?_
  refine lv_iconst (v := 0) hx hb dW_giveUp_1 (by decide) ?_
  refine lv_aload_n hx hb dW_giveUp_2 rfl (lv_at hl 0 rfl) ?_
  refine lv_iload_n hx hb dW_giveUp_3 rfl (lv_at hl 1 rfl) ?_
  have hPX := px_fP hP
  have hDX := px_fD hD
  have hFc := px_free hDX hS hA
  refine vx_calli (vx_runV (As := [.int a0]) (rest := [.int 0, .ref o]) ⟨hx, hb, hml, hown, hts⟩ (c_giveUp l D ca ad σ a0 _ _ _ hl0 hw) (cwV 1 hts (gV tw_479 tw_480 tw_481 tw_1 tw_482) rfl rfl rfl (by decide +kernel) ⟨Nat.le_of_ble_eq_true rfl, Nat.le_of_ble_eq_true rfl⟩) ⟨px_blind, px_recv hK4 hPX gX_0 rfl, fun U hU hW => px_pre hPX hK4 hDX hE hS hFc hU hW⟩ rfl rfl hl.1 rfl (lv_room (Nat.le_of_ble_eq_true rfl)) dW_giveUp_4 ⟨Nat.le_of_ble_eq_true rfl, Nat.le_of_ble_eq_true rfl⟩) hS (fun q _ h => hFc q h) hFc (fun q _ h => hFc q h) (fun E9 ce9 q9 u9 t9 H locs ht hvm hw hB hz1 hk1 hS hce hcv hcl => ?_) (fun r9 u t H locs ht hvm hw hB hz1 hk1 hS => ?_)
  · obtain ⟨rfl, hP1, -, hD1⟩ := hB
    rw [ht] at hP1
    obtain ⟨hP, hD⟩ := px_join hP hD hFc hk1 hP1 hD1
    obtain ⟨e1, hw⟩ := hw
    refine vx_catch (own := RW) (name := "java/lang/IndexOutOfBoundsException") hown [] ⟨0, 16, 19, 21⟩ [] (htab.trans rfl) (fun z hz => by cases hz) rfl (by decide) (hts _ tw_300) (by rw [e1]; exact va_Nw.use rfl (hE.bad (.castable "java/lang/IndexOutOfBoundsException" "java/lang/IndexOutOfBoundsException") (by decide +kernel))) hce hcv hcl ?_
    refine W.widen (k := 1) (n := 6) (Nat.le_of_ble_eq_true rfl) (Nat.le_of_ble_eq_true rfl) ?_
    refine lv_astore_n (lv' := [(3, .ref q9), (0, .ref (ad 0 0)), (1, .int a0), (2, .ref o)]) hx hb dW_giveUp_19 rfl hl (by decide) rfl (fun ls hl => ?_)
    refine lv_iconst (v := 1) hx hb dW_giveUp_20 (by decide) ?_
    exact W.iret (v := 1) hx hb hr (fun t ht hW => ⟨⟨1, (u9.2, f), rfl, hw, by rw [ht]; exact hP, va_K.moved hW.alike hK, hD⟩, hS.F ht⟩) hS.2.2 dW_giveUp_21
  · obtain ⟨s9, rfl⟩ : ∃ z, z = u := ⟨_, rfl⟩
    obtain ⟨hP1, -, hD1⟩ := hB
    rw [ht] at hP1
    obtain ⟨hP, hD⟩ := px_join hP hD hFc hk1 hP1 hD1
    refine W.widen (k := 1) (n := 6) (Nat.le_of_ble_eq_true rfl) (Nat.le_of_ble_eq_true rfl) ?_
    refine lv_if_eq (tgt := 14) hx hb dW_giveUp_7 (by decide) (fun c1 => ?_) (fun c1 => ?_)
    · have hw := hw.1 c1
      refine lv_lconst (v := 0) hx hb dW_giveUp_14 (by decide) ?_
      refine va_last hx hb hK hP hD hS ((wX ca ad s9).length + 0) 4 px_e rfl (by unfold vp_in; decide) dW_giveUp_15 (fun H locs hP hD hS => ?_)
      rw [px_es] at hP hD
      refine lv_goto (tgt := 22) hx hb dW_giveUp_16 (by decide) ?_
      refine lv_iconst (v := 0) hx hb dW_giveUp_22 (by decide) ?_
      exact W.iret (v := 0) hx hb hr (fun t ht hW => ⟨⟨0, (s9, vp_updL f (0 : Int32).toNatClampNeg 0), rfl, hw, by rw [ht]; exact hP, va_K.moved hW.alike hK, hD⟩, hS.F ht⟩) hS.2.2 dW_giveUp_23
    · have hw := hw.2 c1
      refine lv_lconst (v := 1) hx hb dW_giveUp_10 (by decide) ?_
      refine lv_goto (tgt := 15) hx hb dW_giveUp_11 (by decide) ?_
      refine va_last hx hb hK hP hD hS ((wX ca ad s9).length + 0) 4 px_e rfl (by unfold vp_in; decide) dW_giveUp_15 (fun H locs hP hD hS => ?_)
      rw [px_es] at hP hD
      refine lv_goto (tgt := 22) hx hb dW_giveUp_16 (by decide) ?_
      refine lv_iconst (v := 0) hx hb dW_giveUp_22 (by decide) ?_
      exact W.iret (v := 0) hx hb hr (fun t ht hW => ⟨⟨0, (s9, vp_updL f (0 : Int32).toNatClampNeg 1), rfl, hw, by rw [ht]; exact hP, va_K.moved hW.alike hK, hD⟩, hS.F ht⟩) hS.2.2 dW_giveUp_23
theorem dW_reply_0 : decode cW_reply 0 = .ok (.aload 5, 2) := by decide +kernel
theorem dW_reply_2 : decode cW_reply 2 = .ok (.iconst 0, 1) := by decide +kernel
theorem dW_reply_3 : decode cW_reply 3 = .ok (.aload_n 0, 1) := by decide +kernel
theorem dW_reply_4 : decode cW_reply 4 = .ok (.iload_n 1, 1) := by decide +kernel
theorem dW_reply_5 : decode cW_reply 5 = .ok (.iload_n 2, 1) := by decide +kernel
theorem dW_reply_6 : decode cW_reply 6 = .ok (.iload_n 3, 1) := by decide +kernel
theorem dW_reply_7 : decode cW_reply 7 = .ok (.iload 4, 2) := by decide +kernel
theorem dW_reply_9 : decode cW_reply 9 = .ok (.invokevirtual 27, 3) := by decide +kernel
theorem dW_reply_12 : decode cW_reply 12 = .ok (.ifCond .eq 7, 3) := by decide +kernel
theorem dW_reply_15 : decode cW_reply 15 = .ok (.lconst 1, 1) := by decide +kernel
theorem dW_reply_16 : decode cW_reply 16 = .ok (.goto 4, 3) := by decide +kernel
theorem dW_reply_19 : decode cW_reply 19 = .ok (.lconst 0, 1) := by decide +kernel
theorem dW_reply_20 : decode cW_reply 20 = .ok (.lastore, 1) := by decide +kernel
theorem dW_reply_21 : decode cW_reply 21 = .ok (.goto 11, 3) := by decide +kernel
theorem dW_reply_24 : decode cW_reply 24 = .ok (.astore 6, 2) := by decide +kernel
theorem dW_reply_26 : decode cW_reply 26 = .ok (.iconst 1, 1) := by decide +kernel
theorem dW_reply_27 : decode cW_reply 27 = .ok (.ireturn, 1) := by decide +kernel
theorem dW_reply_28 : decode cW_reply 28 = .ok (.astore 6, 2) := by decide +kernel
theorem dW_reply_30 : decode cW_reply 30 = .ok (.iconst 2, 1) := by decide +kernel
theorem dW_reply_31 : decode cW_reply 31 = .ok (.ireturn, 1) := by decide +kernel
theorem dW_reply_32 : decode cW_reply 32 = .ok (.iconst 0, 1) := by decide +kernel
theorem dW_reply_33 : decode cW_reply 33 = .ok (.ireturn, 1) := by decide +kernel
def wpW_reply (post : Int32 → Sg → (Nat → Int64) → Prop) (σ : Sg) (f : Nat → Int64) (a0 : Int32) (a1 : Int32) (a2 : Int32) (a3 : Int32) : Prop := wp_reply (fun r s1 => ((r = 0 → post 0 s1 (vp_updL f (0 : Int32).toNatClampNeg 0)) ∧ (¬ r = 0 → post 0 s1 (vp_updL f (0 : Int32).toNatClampNeg 1)))) (fun E s1 => (E = "java/lang/IndexOutOfBoundsException" ∧ post 1 s1 f) ∨ (E = "java/lang/IllegalArgumentException" ∧ post 2 s1 f)) σ a0 a1 a2 a3
set_option maxHeartbeats 4000000 in
set_option maxRecDepth 100000 in
theorem c_W_reply (l : Launch) (D : va_G) (ca : Nat → ClassId) (ad : Nat → Nat → Nat) (cj : ClassId) (o : Nat) (σ : Sg) (f : Nat → Int64) (a0 : Int32) (a1 : Int32) (a2 : Int32) (a3 : Int32) (sz : Nat) (post : Int32 → Sg → (Nat → Int64) → Prop) (hl0 : l.stackTraces = false) (hw : wpW_reply post σ f a0 a1 a2 a3) : Met l yW_reply wsW_reply ({ frames := 10, cells := 2, slots := 12, locals := 167 }) (va_Pc [.ref (ad 0 0), .int a0, .int a1, .int a2, .int a3, .ref o] (preW D ca ad cj o σ f sz)) (va_Qi (fun (r : Int32) (u : Sg × (Nat → Int64)) => post r u.1 u.2) (fun u t => atW D ca ad cj o (va_A (wW ca ad cj o σ f) sz) u.1 u.2 t) (va_A (wW ca ad cj o σ f) sz)) 2 12 (va_A (wW ca ad cj o σ f) sz) := by
  refine va_MetW (cc := cW_reply) (maxL := 7) (ret := (some .int)) (hh := [(0, 21, 24, 21), (0, 21, 28, 13)]) (by decide) rfl ?_
  intro p e s m args below meth c s₁ B hml hv
  obtain ⟨rfl, hsz, hP, hK, hD0, hE, hN⟩ := hv
  have hx := B.exec
  have hb := B.bytes
  have hr := B.returns
  have htab : c.exceptionTable.toList = tableOf [(0, 21, 24, 21), (0, 21, 28, 13)] := vx_table (x := yW_reply) B (atoms_spec (ws := wsW_reply) B.pre _ List.mem_cons_self)
  have hts : ∀ w ∈ tbG, w.before _ s = true := fun w h => atoms_spec (ws := wsW_reply) B.pre w (List.mem_cons_of_mem _ h)
  have hown : s.vm.findClass RW = some m.cls := findClass_of_methodNamed B.named
  have hlocks := B.notSynchronized
  subst hsz
  have hD := hD0.self (sz := s.heap.size)
  generalize hAe : va_A (wW ca ad cj o σ f) s.heap.size = A at hD hE ⊢
  have hA : ∀ q : Nat, s.heap.size ≤ q → A q := fun q h => by rw [← hAe]; exact Or.inr h
  clear hAe
  have hS : va_S A s.heap s.heap [] := va_S.rf
  have hl := lv_entry ([.ref (ad 0 0), .int a0, .int a1, .int a2, .int a3, .ref o]) (n := 7) (Nat.le_of_ble_eq_true rfl)
  rw [lg_entry_eq]
  generalize (lg_sl ([.ref (ad 0 0), .int a0, .int a1, .int a2, .int a3, .ref o]) ++ List.replicate (7 - (lg_sl ([.ref (ad 0 0), .int a0, .int a1, .int a2, .int a3, .ref o])).length) Slot.unset).toArray = ls at hl ⊢
  have hl : lv_has ls 7 [(0, .ref (ad 0 0)), (1, .int a0), (2, .int a1), (3, .int a2), (4, .int a3), (5, .ref o)] := hl
  unfold wpW_reply at hw
  have hK4 := hK.sub (tys' := tyA ca) [0, 1, 2, 3] rfl
  refine lv_aload hx hb dW_reply_0 (lv_at hl 5 rfl) ?_
  refine lv_iconst (v := 0) hx hb dW_reply_2 (by decide) ?_
  refine lv_aload_n hx hb dW_reply_3 rfl (lv_at hl 0 rfl) ?_
  refine lv_iload_n hx hb dW_reply_4 rfl (lv_at hl 1 rfl) ?_
  refine lv_iload_n hx hb dW_reply_5 rfl (lv_at hl 2 rfl) ?_
  refine lv_iload_n hx hb dW_reply_6 rfl (lv_at hl 3 rfl) ?_
  refine lv_iload hx hb dW_reply_7 (lv_at hl 4 rfl) ?_
  have hPX := px_fP hP
  have hDX := px_fD hD
  have hFc := px_free hDX hS hA
  refine vx_calli (vx_runV (As := [.int a0, .int a1, .int a2, .int a3]) (rest := [.int 0, .ref o]) ⟨hx, hb, hml, hown, hts⟩ (c_reply l D ca ad σ a0 a1 a2 a3 _ _ _ hl0 hw) (cwV 4 hts (gV tw_486 tw_487 tw_488 tw_1 tw_489) rfl rfl rfl (by decide +kernel) ⟨Nat.le_of_ble_eq_true rfl, Nat.le_of_ble_eq_true rfl⟩) ⟨px_blind, px_recv hK4 hPX gX_0 rfl, fun U hU hW => px_pre hPX hK4 hDX hE hS hFc hU hW⟩ rfl rfl hl.1 rfl (lv_room (Nat.le_of_ble_eq_true rfl)) dW_reply_9 ⟨Nat.le_of_ble_eq_true rfl, Nat.le_of_ble_eq_true rfl⟩) hS (fun q _ h => hFc q h) hFc (fun q _ h => hFc q h) (fun E9 ce9 q9 u9 t9 H locs ht hvm hw hB hz1 hk1 hS hce hcv hcl => ?_) (fun r9 u t H locs ht hvm hw hB hz1 hk1 hS => ?_)
  · obtain ⟨rfl, hP1, -, hD1⟩ := hB
    rw [ht] at hP1
    obtain ⟨hP, hD⟩ := px_join hP hD hFc hk1 hP1 hD1
    rcases hw with ⟨e1, hw⟩ | ⟨e1, hw⟩
    · refine vx_catch (own := RW) (name := "java/lang/IndexOutOfBoundsException") hown [] ⟨0, 21, 24, 21⟩ [⟨0, 21, 28, 13⟩] (htab.trans rfl) (fun z hz => by cases hz) rfl (by decide) (hts _ tw_300) (by rw [e1]; exact va_Nw.use rfl (hE.bad (.castable "java/lang/IndexOutOfBoundsException" "java/lang/IndexOutOfBoundsException") (by decide +kernel))) hce hcv hcl ?_
      refine W.widen (k := 2) (n := 12) (Nat.le_of_ble_eq_true rfl) (Nat.le_of_ble_eq_true rfl) ?_
      refine lv_astore (lv' := [(6, .ref q9), (0, .ref (ad 0 0)), (1, .int a0), (2, .int a1), (3, .int a2), (4, .int a3), (5, .ref o)]) hx hb dW_reply_24 hl (by decide) rfl (fun ls hl => ?_)
      refine lv_iconst (v := 1) hx hb dW_reply_26 (by decide) ?_
      exact W.iret (v := 1) hx hb hr (fun t ht hW => ⟨⟨1, (u9.2, f), rfl, hw, by rw [ht]; exact hP, va_K.moved hW.alike hK, hD⟩, hS.F ht⟩) hS.2.2 dW_reply_27
    · refine vx_catch (own := RW) (name := "java/lang/IllegalArgumentException") hown [⟨0, 21, 24, 21⟩] ⟨0, 21, 28, 13⟩ [] (htab.trans rfl) (fun z hz => by simp only [List.mem_cons, List.not_mem_nil, or_false] at hz; rcases hz with rfl; exact Or.inr ⟨by decide, "java/lang/IndexOutOfBoundsException", hts _ tw_300, by rw [e1]; exact hN.2.1⟩) rfl (by decide) (hts _ tw_208) (by rw [e1]; exact va_Nw.use rfl (hE.bad (.castable "java/lang/IllegalArgumentException" "java/lang/IllegalArgumentException") (by decide +kernel))) hce hcv hcl ?_
      refine W.widen (k := 2) (n := 12) (Nat.le_of_ble_eq_true rfl) (Nat.le_of_ble_eq_true rfl) ?_
      refine lv_astore (lv' := [(6, .ref q9), (0, .ref (ad 0 0)), (1, .int a0), (2, .int a1), (3, .int a2), (4, .int a3), (5, .ref o)]) hx hb dW_reply_28 hl (by decide) rfl (fun ls hl => ?_)
      refine lv_iconst (v := 2) hx hb dW_reply_30 (by decide) ?_
      exact W.iret (v := 2) hx hb hr (fun t ht hW => ⟨⟨2, (u9.2, f), rfl, hw, by rw [ht]; exact hP, va_K.moved hW.alike hK, hD⟩, hS.F ht⟩) hS.2.2 dW_reply_31
  · obtain ⟨s9, rfl⟩ : ∃ z, z = u := ⟨_, rfl⟩
    obtain ⟨hP1, -, hD1⟩ := hB
    rw [ht] at hP1
    obtain ⟨hP, hD⟩ := px_join hP hD hFc hk1 hP1 hD1
    refine W.widen (k := 2) (n := 12) (Nat.le_of_ble_eq_true rfl) (Nat.le_of_ble_eq_true rfl) ?_
    refine lv_if_eq (tgt := 19) hx hb dW_reply_12 (by decide) (fun c1 => ?_) (fun c1 => ?_)
    · have hw := hw.1 c1
      refine lv_lconst (v := 0) hx hb dW_reply_19 (by decide) ?_
      refine va_last hx hb hK hP hD hS ((wX ca ad s9).length + 0) 4 px_e rfl (by unfold vp_in; decide) dW_reply_20 (fun H locs hP hD hS => ?_)
      rw [px_es] at hP hD
      refine lv_goto (tgt := 32) hx hb dW_reply_21 (by decide) ?_
      refine lv_iconst (v := 0) hx hb dW_reply_32 (by decide) ?_
      exact W.iret (v := 0) hx hb hr (fun t ht hW => ⟨⟨0, (s9, vp_updL f (0 : Int32).toNatClampNeg 0), rfl, hw, by rw [ht]; exact hP, va_K.moved hW.alike hK, hD⟩, hS.F ht⟩) hS.2.2 dW_reply_33
    · have hw := hw.2 c1
      refine lv_lconst (v := 1) hx hb dW_reply_15 (by decide) ?_
      refine lv_goto (tgt := 20) hx hb dW_reply_16 (by decide) ?_
      refine va_last hx hb hK hP hD hS ((wX ca ad s9).length + 0) 4 px_e rfl (by unfold vp_in; decide) dW_reply_20 (fun H locs hP hD hS => ?_)
      rw [px_es] at hP hD
      refine lv_goto (tgt := 32) hx hb dW_reply_21 (by decide) ?_
      refine lv_iconst (v := 0) hx hb dW_reply_32 (by decide) ?_
      exact W.iret (v := 0) hx hb hr (fun t ht hW => ⟨⟨0, (s9, vp_updL f (0 : Int32).toNatClampNeg 1), rfl, hw, by rw [ht]; exact hP, va_K.moved hW.alike hK, hD⟩, hS.F ht⟩) hS.2.2 dW_reply_33
theorem dW_tick_0 : decode cW_tick 0 = .ok (.aload_n 2, 1) := by decide +kernel
theorem dW_tick_1 : decode cW_tick 1 = .ok (.iconst 0, 1) := by decide +kernel
theorem dW_tick_2 : decode cW_tick 2 = .ok (.aload_n 0, 1) := by decide +kernel
theorem dW_tick_3 : decode cW_tick 3 = .ok (.iload_n 1, 1) := by decide +kernel
theorem dW_tick_4 : decode cW_tick 4 = .ok (.invokevirtual 31, 3) := by decide +kernel
theorem dW_tick_7 : decode cW_tick 7 = .ok (.i2l, 1) := by decide +kernel
theorem dW_tick_8 : decode cW_tick 8 = .ok (.lastore, 1) := by decide +kernel
theorem dW_tick_9 : decode cW_tick 9 = .ok (.goto 6, 3) := by decide +kernel
theorem dW_tick_12 : decode cW_tick 12 = .ok (.astore_n 3, 1) := by decide +kernel
theorem dW_tick_13 : decode cW_tick 13 = .ok (.iconst 1, 1) := by decide +kernel
theorem dW_tick_14 : decode cW_tick 14 = .ok (.ireturn, 1) := by decide +kernel
theorem dW_tick_15 : decode cW_tick 15 = .ok (.iconst 0, 1) := by decide +kernel
theorem dW_tick_16 : decode cW_tick 16 = .ok (.ireturn, 1) := by decide +kernel
def wpW_tick (post : Int32 → Sg → (Nat → Int64) → Prop) (σ : Sg) (f : Nat → Int64) (a0 : Int32) : Prop := wp_tick (fun r s1 => post 0 s1 (vp_updL f (0 : Int32).toNatClampNeg r.toInt64)) (fun E s1 => (E = "java/lang/IllegalArgumentException" ∧ post 1 s1 f)) σ a0
set_option maxHeartbeats 4000000 in
set_option maxRecDepth 100000 in
theorem c_W_tick (l : Launch) (D : va_G) (ca : Nat → ClassId) (ad : Nat → Nat → Nat) (cj : ClassId) (o : Nat) (σ : Sg) (f : Nat → Int64) (a0 : Int32) (sz : Nat) (post : Int32 → Sg → (Nat → Int64) → Prop) (hl0 : l.stackTraces = false) (hw : wpW_tick post σ f a0) : Met l yW_tick wsW_tick ({ frames := 9, cells := 1, slots := 6, locals := 145 }) (va_Pc [.ref (ad 0 0), .int a0, .ref o] (preW D ca ad cj o σ f sz)) (va_Qi (fun (r : Int32) (u : Sg × (Nat → Int64)) => post r u.1 u.2) (fun u t => atW D ca ad cj o (va_A (wW ca ad cj o σ f) sz) u.1 u.2 t) (va_A (wW ca ad cj o σ f) sz)) 1 6 (va_A (wW ca ad cj o σ f) sz) := by
  refine va_MetW (cc := cW_tick) (maxL := 4) (ret := (some .int)) (hh := [(0, 9, 12, 13)]) (by decide) rfl ?_
  intro p e s m args below meth c s₁ B hml hv
  obtain ⟨rfl, hsz, hP, hK, hD0, hE, hN⟩ := hv
  have hx := B.exec
  have hb := B.bytes
  have hr := B.returns
  have htab : c.exceptionTable.toList = tableOf [(0, 9, 12, 13)] := vx_table (x := yW_tick) B (atoms_spec (ws := wsW_tick) B.pre _ List.mem_cons_self)
  have hts : ∀ w ∈ tbG, w.before _ s = true := fun w h => atoms_spec (ws := wsW_tick) B.pre w (List.mem_cons_of_mem _ h)
  have hown : s.vm.findClass RW = some m.cls := findClass_of_methodNamed B.named
  have hlocks := B.notSynchronized
  subst hsz
  have hD := hD0.self (sz := s.heap.size)
  generalize hAe : va_A (wW ca ad cj o σ f) s.heap.size = A at hD hE ⊢
  have hA : ∀ q : Nat, s.heap.size ≤ q → A q := fun q h => by rw [← hAe]; exact Or.inr h
  clear hAe
  have hS : va_S A s.heap s.heap [] := va_S.rf
  have hl := lv_entry ([.ref (ad 0 0), .int a0, .ref o]) (n := 4) (Nat.le_of_ble_eq_true rfl)
  rw [lg_entry_eq]
  generalize (lg_sl ([.ref (ad 0 0), .int a0, .ref o]) ++ List.replicate (4 - (lg_sl ([.ref (ad 0 0), .int a0, .ref o])).length) Slot.unset).toArray = ls at hl ⊢
  have hl : lv_has ls 4 [(0, .ref (ad 0 0)), (1, .int a0), (2, .ref o)] := hl
  unfold wpW_tick at hw
  have hK4 := hK.sub (tys' := tyA ca) [0, 1, 2, 3] rfl
  refine lv_aload_n hx hb dW_tick_0 rfl (lv_at hl 2 rfl) ?_
  refine lv_iconst (v := 0) hx hb dW_tick_1 (by decide) ?_
  refine lv_aload_n hx hb dW_tick_2 rfl (lv_at hl 0 rfl) ?_
  refine lv_iload_n hx hb dW_tick_3 rfl (lv_at hl 1 rfl) ?_
  have hPX := px_fP hP
  have hDX := px_fD hD
  have hFc := px_free hDX hS hA
  refine vx_calli (vx_runV (As := [.int a0]) (rest := [.int 0, .ref o]) ⟨hx, hb, hml, hown, hts⟩ (c_tick l D ca ad σ a0 _ _ _ hl0 hw) (cwV 1 hts (gV tw_514 tw_515 tw_516 tw_1 tw_517) rfl rfl rfl (by decide +kernel) ⟨Nat.le_of_ble_eq_true rfl, Nat.le_of_ble_eq_true rfl⟩) ⟨px_blind, px_recv hK4 hPX gX_0 rfl, fun U hU hW => px_pre hPX hK4 hDX hE hS hFc hU hW⟩ rfl rfl hl.1 rfl (lv_room (Nat.le_of_ble_eq_true rfl)) dW_tick_4 ⟨Nat.le_of_ble_eq_true rfl, Nat.le_of_ble_eq_true rfl⟩) hS (fun q _ h => hFc q h) hFc (fun q _ h => hFc q h) (fun E9 ce9 q9 u9 t9 H locs ht hvm hw hB hz1 hk1 hS hce hcv hcl => ?_) (fun r9 u t H locs ht hvm hw hB hz1 hk1 hS => ?_)
  · obtain ⟨rfl, hP1, -, hD1⟩ := hB
    rw [ht] at hP1
    obtain ⟨hP, hD⟩ := px_join hP hD hFc hk1 hP1 hD1
    obtain ⟨e1, hw⟩ := hw
    refine vx_catch (own := RW) (name := "java/lang/IllegalArgumentException") hown [] ⟨0, 9, 12, 13⟩ [] (htab.trans rfl) (fun z hz => by cases hz) rfl (by decide) (hts _ tw_208) (by rw [e1]; exact va_Nw.use rfl (hE.bad (.castable "java/lang/IllegalArgumentException" "java/lang/IllegalArgumentException") (by decide +kernel))) hce hcv hcl ?_
    refine W.widen (k := 1) (n := 6) (Nat.le_of_ble_eq_true rfl) (Nat.le_of_ble_eq_true rfl) ?_
    refine lv_astore_n (lv' := [(3, .ref q9), (0, .ref (ad 0 0)), (1, .int a0), (2, .ref o)]) hx hb dW_tick_12 rfl hl (by decide) rfl (fun ls hl => ?_)
    refine lv_iconst (v := 1) hx hb dW_tick_13 (by decide) ?_
    exact W.iret (v := 1) hx hb hr (fun t ht hW => ⟨⟨1, (u9.2, f), rfl, hw, by rw [ht]; exact hP, va_K.moved hW.alike hK, hD⟩, hS.F ht⟩) hS.2.2 dW_tick_14
  · obtain ⟨s9, rfl⟩ : ∃ z, z = u := ⟨_, rfl⟩
    obtain ⟨hP1, -, hD1⟩ := hB
    rw [ht] at hP1
    obtain ⟨hP, hD⟩ := px_join hP hD hFc hk1 hP1 hD1
    refine W.widen (k := 1) (n := 6) (Nat.le_of_ble_eq_true rfl) (Nat.le_of_ble_eq_true rfl) ?_
    refine lv_i2l (v := r9.toInt64) hx hb dW_tick_7 rfl ?_
    refine va_last hx hb hK hP hD hS ((wX ca ad s9).length + 0) 4 px_e rfl (by unfold vp_in; decide) dW_tick_8 (fun H locs hP hD hS => ?_)
    rw [px_es] at hP hD
    refine lv_goto (tgt := 15) hx hb dW_tick_9 (by decide) ?_
    refine lv_iconst (v := 0) hx hb dW_tick_15 (by decide) ?_
    exact W.iret (v := 0) hx hb hr (fun t ht hW => ⟨⟨0, (s9, vp_updL f (0 : Int32).toNatClampNeg r9.toInt64), rfl, hw, by rw [ht]; exact hP, va_K.moved hW.alike hK, hD⟩, hS.F ht⟩) hS.2.2 dW_tick_16
theorem dW_client_0 : decode cW_client 0 = .ok (.aload_n 3, 1) := by decide +kernel
theorem dW_client_1 : decode cW_client 1 = .ok (.iconst 0, 1) := by decide +kernel
theorem dW_client_2 : decode cW_client 2 = .ok (.aload_n 0, 1) := by decide +kernel
theorem dW_client_3 : decode cW_client 3 = .ok (.iload_n 1, 1) := by decide +kernel
theorem dW_client_4 : decode cW_client 4 = .ok (.iload_n 2, 1) := by decide +kernel
theorem dW_client_5 : decode cW_client 5 = .ok (.invokevirtual 35, 3) := by decide +kernel
theorem dW_client_8 : decode cW_client 8 = .ok (.i2l, 1) := by decide +kernel
theorem dW_client_9 : decode cW_client 9 = .ok (.lastore, 1) := by decide +kernel
theorem dW_client_10 : decode cW_client 10 = .ok (.goto 7, 3) := by decide +kernel
theorem dW_client_13 : decode cW_client 13 = .ok (.astore 4, 2) := by decide +kernel
theorem dW_client_15 : decode cW_client 15 = .ok (.iconst 1, 1) := by decide +kernel
theorem dW_client_16 : decode cW_client 16 = .ok (.ireturn, 1) := by decide +kernel
theorem dW_client_17 : decode cW_client 17 = .ok (.iconst 0, 1) := by decide +kernel
theorem dW_client_18 : decode cW_client 18 = .ok (.ireturn, 1) := by decide +kernel
def wpW_client (post : Int32 → Sg → (Nat → Int64) → Prop) (σ : Sg) (f : Nat → Int64) (a0 : Int32) (a1 : Int32) : Prop := wp_client (fun r s1 => post 0 s1 (vp_updL f (0 : Int32).toNatClampNeg r.toInt64)) (fun E s1 => (E = "java/lang/IndexOutOfBoundsException" ∧ post 1 s1 f)) σ a0 a1
set_option maxHeartbeats 4000000 in
set_option maxRecDepth 100000 in
theorem c_W_client (l : Launch) (D : va_G) (ca : Nat → ClassId) (ad : Nat → Nat → Nat) (cj : ClassId) (o : Nat) (σ : Sg) (f : Nat → Int64) (a0 : Int32) (a1 : Int32) (sz : Nat) (post : Int32 → Sg → (Nat → Int64) → Prop) (hl0 : l.stackTraces = false) (hw : wpW_client post σ f a0 a1) : Met l yW_client wsW_client ({ frames := 10, cells := 2, slots := 12, locals := 164 }) (va_Pc [.ref (ad 0 0), .int a0, .int a1, .ref o] (preW D ca ad cj o σ f sz)) (va_Qi (fun (r : Int32) (u : Sg × (Nat → Int64)) => post r u.1 u.2) (fun u t => atW D ca ad cj o (va_A (wW ca ad cj o σ f) sz) u.1 u.2 t) (va_A (wW ca ad cj o σ f) sz)) 2 12 (va_A (wW ca ad cj o σ f) sz) := by
  refine va_MetW (cc := cW_client) (maxL := 5) (ret := (some .int)) (hh := [(0, 10, 13, 21)]) (by decide) rfl ?_
  intro p e s m args below meth c s₁ B hml hv
  obtain ⟨rfl, hsz, hP, hK, hD0, hE, hN⟩ := hv
  have hx := B.exec
  have hb := B.bytes
  have hr := B.returns
  have htab : c.exceptionTable.toList = tableOf [(0, 10, 13, 21)] := vx_table (x := yW_client) B (atoms_spec (ws := wsW_client) B.pre _ List.mem_cons_self)
  have hts : ∀ w ∈ tbG, w.before _ s = true := fun w h => atoms_spec (ws := wsW_client) B.pre w (List.mem_cons_of_mem _ h)
  have hown : s.vm.findClass RW = some m.cls := findClass_of_methodNamed B.named
  have hlocks := B.notSynchronized
  subst hsz
  have hD := hD0.self (sz := s.heap.size)
  generalize hAe : va_A (wW ca ad cj o σ f) s.heap.size = A at hD hE ⊢
  have hA : ∀ q : Nat, s.heap.size ≤ q → A q := fun q h => by rw [← hAe]; exact Or.inr h
  clear hAe
  have hS : va_S A s.heap s.heap [] := va_S.rf
  have hl := lv_entry ([.ref (ad 0 0), .int a0, .int a1, .ref o]) (n := 5) (Nat.le_of_ble_eq_true rfl)
  rw [lg_entry_eq]
  generalize (lg_sl ([.ref (ad 0 0), .int a0, .int a1, .ref o]) ++ List.replicate (5 - (lg_sl ([.ref (ad 0 0), .int a0, .int a1, .ref o])).length) Slot.unset).toArray = ls at hl ⊢
  have hl : lv_has ls 5 [(0, .ref (ad 0 0)), (1, .int a0), (2, .int a1), (3, .ref o)] := hl
  unfold wpW_client at hw
  have hK4 := hK.sub (tys' := tyA ca) [0, 1, 2, 3] rfl
  refine lv_aload_n hx hb dW_client_0 rfl (lv_at hl 3 rfl) ?_
  refine lv_iconst (v := 0) hx hb dW_client_1 (by decide) ?_
  refine lv_aload_n hx hb dW_client_2 rfl (lv_at hl 0 rfl) ?_
  refine lv_iload_n hx hb dW_client_3 rfl (lv_at hl 1 rfl) ?_
  refine lv_iload_n hx hb dW_client_4 rfl (lv_at hl 2 rfl) ?_
  have hPX := px_fP hP
  have hDX := px_fD hD
  have hFc := px_free hDX hS hA
  refine vx_calli (vx_runV (As := [.int a0, .int a1]) (rest := [.int 0, .ref o]) ⟨hx, hb, hml, hown, hts⟩ (c_client l D ca ad σ a0 a1 _ _ _ hl0 hw) (cwV 2 hts (gV tw_534 tw_535 tw_536 tw_1 tw_537) rfl rfl rfl (by decide +kernel) ⟨Nat.le_of_ble_eq_true rfl, Nat.le_of_ble_eq_true rfl⟩) ⟨px_blind, px_recv hK4 hPX gX_0 rfl, fun U hU hW => px_pre hPX hK4 hDX hE hS hFc hU hW⟩ rfl rfl hl.1 rfl (lv_room (Nat.le_of_ble_eq_true rfl)) dW_client_5 ⟨Nat.le_of_ble_eq_true rfl, Nat.le_of_ble_eq_true rfl⟩) hS (fun q _ h => hFc q h) hFc (fun q _ h => hFc q h) (fun E9 ce9 q9 u9 t9 H locs ht hvm hw hB hz1 hk1 hS hce hcv hcl => ?_) (fun r9 u t H locs ht hvm hw hB hz1 hk1 hS => ?_)
  · obtain ⟨rfl, hP1, -, hD1⟩ := hB
    rw [ht] at hP1
    obtain ⟨hP, hD⟩ := px_join hP hD hFc hk1 hP1 hD1
    obtain ⟨e1, hw⟩ := hw
    refine vx_catch (own := RW) (name := "java/lang/IndexOutOfBoundsException") hown [] ⟨0, 10, 13, 21⟩ [] (htab.trans rfl) (fun z hz => by cases hz) rfl (by decide) (hts _ tw_300) (by rw [e1]; exact va_Nw.use rfl (hE.bad (.castable "java/lang/IndexOutOfBoundsException" "java/lang/IndexOutOfBoundsException") (by decide +kernel))) hce hcv hcl ?_
    refine W.widen (k := 2) (n := 12) (Nat.le_of_ble_eq_true rfl) (Nat.le_of_ble_eq_true rfl) ?_
    refine lv_astore (lv' := [(4, .ref q9), (0, .ref (ad 0 0)), (1, .int a0), (2, .int a1), (3, .ref o)]) hx hb dW_client_13 hl (by decide) rfl (fun ls hl => ?_)
    refine lv_iconst (v := 1) hx hb dW_client_15 (by decide) ?_
    exact W.iret (v := 1) hx hb hr (fun t ht hW => ⟨⟨1, (u9.2, f), rfl, hw, by rw [ht]; exact hP, va_K.moved hW.alike hK, hD⟩, hS.F ht⟩) hS.2.2 dW_client_16
  · obtain ⟨s9, rfl⟩ : ∃ z, z = u := ⟨_, rfl⟩
    obtain ⟨hP1, -, hD1⟩ := hB
    rw [ht] at hP1
    obtain ⟨hP, hD⟩ := px_join hP hD hFc hk1 hP1 hD1
    refine W.widen (k := 2) (n := 12) (Nat.le_of_ble_eq_true rfl) (Nat.le_of_ble_eq_true rfl) ?_
    refine lv_i2l (v := r9.toInt64) hx hb dW_client_8 rfl ?_
    refine va_last hx hb hK hP hD hS ((wX ca ad s9).length + 0) 4 px_e rfl (by unfold vp_in; decide) dW_client_9 (fun H locs hP hD hS => ?_)
    rw [px_es] at hP hD
    refine lv_goto (tgt := 17) hx hb dW_client_10 (by decide) ?_
    refine lv_iconst (v := 0) hx hb dW_client_17 (by decide) ?_
    exact W.iret (v := 0) hx hb hr (fun t ht hW => ⟨⟨0, (s9, vp_updL f (0 : Int32).toNatClampNeg r9.toInt64), rfl, hw, by rw [ht]; exact hP, va_K.moved hW.alike hK, hD⟩, hS.F ht⟩) hS.2.2 dW_client_18
theorem dW_dataAt_0 : decode cW_dataAt 0 = .ok (.aload_n 3, 1) := by decide +kernel
theorem dW_dataAt_1 : decode cW_dataAt 1 = .ok (.iconst 0, 1) := by decide +kernel
theorem dW_dataAt_2 : decode cW_dataAt 2 = .ok (.aload_n 0, 1) := by decide +kernel
theorem dW_dataAt_3 : decode cW_dataAt 3 = .ok (.iload_n 1, 1) := by decide +kernel
theorem dW_dataAt_4 : decode cW_dataAt 4 = .ok (.iload_n 2, 1) := by decide +kernel
theorem dW_dataAt_5 : decode cW_dataAt 5 = .ok (.invokevirtual 39, 3) := by decide +kernel
theorem dW_dataAt_8 : decode cW_dataAt 8 = .ok (.i2l, 1) := by decide +kernel
theorem dW_dataAt_9 : decode cW_dataAt 9 = .ok (.lastore, 1) := by decide +kernel
theorem dW_dataAt_10 : decode cW_dataAt 10 = .ok (.goto 7, 3) := by decide +kernel
theorem dW_dataAt_13 : decode cW_dataAt 13 = .ok (.astore 4, 2) := by decide +kernel
theorem dW_dataAt_15 : decode cW_dataAt 15 = .ok (.iconst 1, 1) := by decide +kernel
theorem dW_dataAt_16 : decode cW_dataAt 16 = .ok (.ireturn, 1) := by decide +kernel
theorem dW_dataAt_17 : decode cW_dataAt 17 = .ok (.iconst 0, 1) := by decide +kernel
theorem dW_dataAt_18 : decode cW_dataAt 18 = .ok (.ireturn, 1) := by decide +kernel
def wpW_dataAt (post : Int32 → Sg → (Nat → Int64) → Prop) (σ : Sg) (f : Nat → Int64) (a0 : Int32) (a1 : Int32) : Prop := wp_dataAt (fun r s1 => post 0 s1 (vp_updL f (0 : Int32).toNatClampNeg r.toInt64)) (fun E s1 => (E = "java/lang/IndexOutOfBoundsException" ∧ post 1 s1 f)) σ a0 a1
set_option maxHeartbeats 4000000 in
set_option maxRecDepth 100000 in
theorem c_W_dataAt (l : Launch) (D : va_G) (ca : Nat → ClassId) (ad : Nat → Nat → Nat) (cj : ClassId) (o : Nat) (σ : Sg) (f : Nat → Int64) (a0 : Int32) (a1 : Int32) (sz : Nat) (post : Int32 → Sg → (Nat → Int64) → Prop) (hl0 : l.stackTraces = false) (hw : wpW_dataAt post σ f a0 a1) : Met l yW_dataAt wsW_dataAt ({ frames := 10, cells := 2, slots := 12, locals := 164 }) (va_Pc [.ref (ad 0 0), .int a0, .int a1, .ref o] (preW D ca ad cj o σ f sz)) (va_Qi (fun (r : Int32) (u : Sg × (Nat → Int64)) => post r u.1 u.2) (fun u t => atW D ca ad cj o (va_A (wW ca ad cj o σ f) sz) u.1 u.2 t) (va_A (wW ca ad cj o σ f) sz)) 2 12 (va_A (wW ca ad cj o σ f) sz) := by
  refine va_MetW (cc := cW_dataAt) (maxL := 5) (ret := (some .int)) (hh := [(0, 10, 13, 21)]) (by decide) rfl ?_
  intro p e s m args below meth c s₁ B hml hv
  obtain ⟨rfl, hsz, hP, hK, hD0, hE, hN⟩ := hv
  have hx := B.exec
  have hb := B.bytes
  have hr := B.returns
  have htab : c.exceptionTable.toList = tableOf [(0, 10, 13, 21)] := vx_table (x := yW_dataAt) B (atoms_spec (ws := wsW_dataAt) B.pre _ List.mem_cons_self)
  have hts : ∀ w ∈ tbG, w.before _ s = true := fun w h => atoms_spec (ws := wsW_dataAt) B.pre w (List.mem_cons_of_mem _ h)
  have hown : s.vm.findClass RW = some m.cls := findClass_of_methodNamed B.named
  have hlocks := B.notSynchronized
  subst hsz
  have hD := hD0.self (sz := s.heap.size)
  generalize hAe : va_A (wW ca ad cj o σ f) s.heap.size = A at hD hE ⊢
  have hA : ∀ q : Nat, s.heap.size ≤ q → A q := fun q h => by rw [← hAe]; exact Or.inr h
  clear hAe
  have hS : va_S A s.heap s.heap [] := va_S.rf
  have hl := lv_entry ([.ref (ad 0 0), .int a0, .int a1, .ref o]) (n := 5) (Nat.le_of_ble_eq_true rfl)
  rw [lg_entry_eq]
  generalize (lg_sl ([.ref (ad 0 0), .int a0, .int a1, .ref o]) ++ List.replicate (5 - (lg_sl ([.ref (ad 0 0), .int a0, .int a1, .ref o])).length) Slot.unset).toArray = ls at hl ⊢
  have hl : lv_has ls 5 [(0, .ref (ad 0 0)), (1, .int a0), (2, .int a1), (3, .ref o)] := hl
  unfold wpW_dataAt at hw
  have hK4 := hK.sub (tys' := tyA ca) [0, 1, 2, 3] rfl
  refine lv_aload_n hx hb dW_dataAt_0 rfl (lv_at hl 3 rfl) ?_
  refine lv_iconst (v := 0) hx hb dW_dataAt_1 (by decide) ?_
  refine lv_aload_n hx hb dW_dataAt_2 rfl (lv_at hl 0 rfl) ?_
  refine lv_iload_n hx hb dW_dataAt_3 rfl (lv_at hl 1 rfl) ?_
  refine lv_iload_n hx hb dW_dataAt_4 rfl (lv_at hl 2 rfl) ?_
  have hPX := px_fP hP
  have hDX := px_fD hD
  have hFc := px_free hDX hS hA
  refine vx_calli (vx_runV (As := [.int a0, .int a1]) (rest := [.int 0, .ref o]) ⟨hx, hb, hml, hown, hts⟩ (c_dataAt l D ca ad σ a0 a1 _ _ _ hl0 hw) (cwV 2 hts (gV tw_542 tw_543 tw_544 tw_1 tw_545) rfl rfl rfl (by decide +kernel) ⟨Nat.le_of_ble_eq_true rfl, Nat.le_of_ble_eq_true rfl⟩) ⟨px_blind, px_recv hK4 hPX gX_0 rfl, fun U hU hW => px_pre hPX hK4 hDX hE hS hFc hU hW⟩ rfl rfl hl.1 rfl (lv_room (Nat.le_of_ble_eq_true rfl)) dW_dataAt_5 ⟨Nat.le_of_ble_eq_true rfl, Nat.le_of_ble_eq_true rfl⟩) hS (fun q _ h => hFc q h) hFc (fun q _ h => hFc q h) (fun E9 ce9 q9 u9 t9 H locs ht hvm hw hB hz1 hk1 hS hce hcv hcl => ?_) (fun r9 u t H locs ht hvm hw hB hz1 hk1 hS => ?_)
  · obtain ⟨rfl, hP1, -, hD1⟩ := hB
    rw [ht] at hP1
    obtain ⟨hP, hD⟩ := px_join hP hD hFc hk1 hP1 hD1
    obtain ⟨e1, hw⟩ := hw
    refine vx_catch (own := RW) (name := "java/lang/IndexOutOfBoundsException") hown [] ⟨0, 10, 13, 21⟩ [] (htab.trans rfl) (fun z hz => by cases hz) rfl (by decide) (hts _ tw_300) (by rw [e1]; exact va_Nw.use rfl (hE.bad (.castable "java/lang/IndexOutOfBoundsException" "java/lang/IndexOutOfBoundsException") (by decide +kernel))) hce hcv hcl ?_
    refine W.widen (k := 2) (n := 12) (Nat.le_of_ble_eq_true rfl) (Nat.le_of_ble_eq_true rfl) ?_
    refine lv_astore (lv' := [(4, .ref q9), (0, .ref (ad 0 0)), (1, .int a0), (2, .int a1), (3, .ref o)]) hx hb dW_dataAt_13 hl (by decide) rfl (fun ls hl => ?_)
    refine lv_iconst (v := 1) hx hb dW_dataAt_15 (by decide) ?_
    exact W.iret (v := 1) hx hb hr (fun t ht hW => ⟨⟨1, (u9.2, f), rfl, hw, by rw [ht]; exact hP, va_K.moved hW.alike hK, hD⟩, hS.F ht⟩) hS.2.2 dW_dataAt_16
  · obtain ⟨s9, rfl⟩ : ∃ z, z = u := ⟨_, rfl⟩
    obtain ⟨hP1, -, hD1⟩ := hB
    rw [ht] at hP1
    obtain ⟨hP, hD⟩ := px_join hP hD hFc hk1 hP1 hD1
    refine W.widen (k := 2) (n := 12) (Nat.le_of_ble_eq_true rfl) (Nat.le_of_ble_eq_true rfl) ?_
    refine lv_i2l (v := r9.toInt64) hx hb dW_dataAt_8 rfl ?_
    refine va_last hx hb hK hP hD hS ((wX ca ad s9).length + 0) 4 px_e rfl (by unfold vp_in; decide) dW_dataAt_9 (fun H locs hP hD hS => ?_)
    rw [px_es] at hP hD
    refine lv_goto (tgt := 17) hx hb dW_dataAt_10 (by decide) ?_
    refine lv_iconst (v := 0) hx hb dW_dataAt_17 (by decide) ?_
    exact W.iret (v := 0) hx hb hr (fun t ht hW => ⟨⟨0, (s9, vp_updL f (0 : Int32).toNatClampNeg r9.toInt64), rfl, hw, by rw [ht]; exact hP, va_K.moved hW.alike hK, hD⟩, hS.F ht⟩) hS.2.2 dW_dataAt_18
theorem dW_answer_0 : decode cW_answer 0 = .ok (.aload_n 2, 1) := by decide +kernel
theorem dW_answer_1 : decode cW_answer 1 = .ok (.iconst 0, 1) := by decide +kernel
theorem dW_answer_2 : decode cW_answer 2 = .ok (.aload_n 0, 1) := by decide +kernel
theorem dW_answer_3 : decode cW_answer 3 = .ok (.iload_n 1, 1) := by decide +kernel
theorem dW_answer_4 : decode cW_answer 4 = .ok (.invokevirtual 42, 3) := by decide +kernel
theorem dW_answer_7 : decode cW_answer 7 = .ok (.i2l, 1) := by decide +kernel
theorem dW_answer_8 : decode cW_answer 8 = .ok (.lastore, 1) := by decide +kernel
theorem dW_answer_9 : decode cW_answer 9 = .ok (.goto 6, 3) := by decide +kernel
theorem dW_answer_12 : decode cW_answer 12 = .ok (.astore_n 3, 1) := by decide +kernel
theorem dW_answer_13 : decode cW_answer 13 = .ok (.iconst 1, 1) := by decide +kernel
theorem dW_answer_14 : decode cW_answer 14 = .ok (.ireturn, 1) := by decide +kernel
theorem dW_answer_15 : decode cW_answer 15 = .ok (.iconst 0, 1) := by decide +kernel
theorem dW_answer_16 : decode cW_answer 16 = .ok (.ireturn, 1) := by decide +kernel
def wpW_answer (post : Int32 → Sg → (Nat → Int64) → Prop) (σ : Sg) (f : Nat → Int64) (a0 : Int32) : Prop := wp_answer (fun r s1 => post 0 s1 (vp_updL f (0 : Int32).toNatClampNeg r.toInt64)) (fun E s1 => (E = "java/lang/IndexOutOfBoundsException" ∧ post 1 s1 f)) σ a0
set_option maxHeartbeats 4000000 in
set_option maxRecDepth 100000 in
theorem c_W_answer (l : Launch) (D : va_G) (ca : Nat → ClassId) (ad : Nat → Nat → Nat) (cj : ClassId) (o : Nat) (σ : Sg) (f : Nat → Int64) (a0 : Int32) (sz : Nat) (post : Int32 → Sg → (Nat → Int64) → Prop) (hl0 : l.stackTraces = false) (hw : wpW_answer post σ f a0) : Met l yW_answer wsW_answer ({ frames := 10, cells := 1, slots := 6, locals := 162 }) (va_Pc [.ref (ad 0 0), .int a0, .ref o] (preW D ca ad cj o σ f sz)) (va_Qi (fun (r : Int32) (u : Sg × (Nat → Int64)) => post r u.1 u.2) (fun u t => atW D ca ad cj o (va_A (wW ca ad cj o σ f) sz) u.1 u.2 t) (va_A (wW ca ad cj o σ f) sz)) 1 6 (va_A (wW ca ad cj o σ f) sz) := by
  refine va_MetW (cc := cW_answer) (maxL := 4) (ret := (some .int)) (hh := [(0, 9, 12, 21)]) (by decide) rfl ?_
  intro p e s m args below meth c s₁ B hml hv
  obtain ⟨rfl, hsz, hP, hK, hD0, hE, hN⟩ := hv
  have hx := B.exec
  have hb := B.bytes
  have hr := B.returns
  have htab : c.exceptionTable.toList = tableOf [(0, 9, 12, 21)] := vx_table (x := yW_answer) B (atoms_spec (ws := wsW_answer) B.pre _ List.mem_cons_self)
  have hts : ∀ w ∈ tbG, w.before _ s = true := fun w h => atoms_spec (ws := wsW_answer) B.pre w (List.mem_cons_of_mem _ h)
  have hown : s.vm.findClass RW = some m.cls := findClass_of_methodNamed B.named
  have hlocks := B.notSynchronized
  subst hsz
  have hD := hD0.self (sz := s.heap.size)
  generalize hAe : va_A (wW ca ad cj o σ f) s.heap.size = A at hD hE ⊢
  have hA : ∀ q : Nat, s.heap.size ≤ q → A q := fun q h => by rw [← hAe]; exact Or.inr h
  clear hAe
  have hS : va_S A s.heap s.heap [] := va_S.rf
  have hl := lv_entry ([.ref (ad 0 0), .int a0, .ref o]) (n := 4) (Nat.le_of_ble_eq_true rfl)
  rw [lg_entry_eq]
  generalize (lg_sl ([.ref (ad 0 0), .int a0, .ref o]) ++ List.replicate (4 - (lg_sl ([.ref (ad 0 0), .int a0, .ref o])).length) Slot.unset).toArray = ls at hl ⊢
  have hl : lv_has ls 4 [(0, .ref (ad 0 0)), (1, .int a0), (2, .ref o)] := hl
  unfold wpW_answer at hw
  have hK4 := hK.sub (tys' := tyA ca) [0, 1, 2, 3] rfl
  refine lv_aload_n hx hb dW_answer_0 rfl (lv_at hl 2 rfl) ?_
  refine lv_iconst (v := 0) hx hb dW_answer_1 (by decide) ?_
  refine lv_aload_n hx hb dW_answer_2 rfl (lv_at hl 0 rfl) ?_
  refine lv_iload_n hx hb dW_answer_3 rfl (lv_at hl 1 rfl) ?_
  have hPX := px_fP hP
  have hDX := px_fD hD
  have hFc := px_free hDX hS hA
  refine vx_calli (vx_runV (As := [.int a0]) (rest := [.int 0, .ref o]) ⟨hx, hb, hml, hown, hts⟩ (c_answer l D ca ad σ a0 _ _ _ hl0 hw) (cwV 1 hts (gV tw_550 tw_551 tw_552 tw_1 tw_553) rfl rfl rfl (by decide +kernel) ⟨Nat.le_of_ble_eq_true rfl, Nat.le_of_ble_eq_true rfl⟩) ⟨px_blind, px_recv hK4 hPX gX_0 rfl, fun U hU hW => px_pre hPX hK4 hDX hE hS hFc hU hW⟩ rfl rfl hl.1 rfl (lv_room (Nat.le_of_ble_eq_true rfl)) dW_answer_4 ⟨Nat.le_of_ble_eq_true rfl, Nat.le_of_ble_eq_true rfl⟩) hS (fun q _ h => hFc q h) hFc (fun q _ h => hFc q h) (fun E9 ce9 q9 u9 t9 H locs ht hvm hw hB hz1 hk1 hS hce hcv hcl => ?_) (fun r9 u t H locs ht hvm hw hB hz1 hk1 hS => ?_)
  · obtain ⟨rfl, hP1, -, hD1⟩ := hB
    rw [ht] at hP1
    obtain ⟨hP, hD⟩ := px_join hP hD hFc hk1 hP1 hD1
    obtain ⟨e1, hw⟩ := hw
    refine vx_catch (own := RW) (name := "java/lang/IndexOutOfBoundsException") hown [] ⟨0, 9, 12, 21⟩ [] (htab.trans rfl) (fun z hz => by cases hz) rfl (by decide) (hts _ tw_300) (by rw [e1]; exact va_Nw.use rfl (hE.bad (.castable "java/lang/IndexOutOfBoundsException" "java/lang/IndexOutOfBoundsException") (by decide +kernel))) hce hcv hcl ?_
    refine W.widen (k := 1) (n := 6) (Nat.le_of_ble_eq_true rfl) (Nat.le_of_ble_eq_true rfl) ?_
    refine lv_astore_n (lv' := [(3, .ref q9), (0, .ref (ad 0 0)), (1, .int a0), (2, .ref o)]) hx hb dW_answer_12 rfl hl (by decide) rfl (fun ls hl => ?_)
    refine lv_iconst (v := 1) hx hb dW_answer_13 (by decide) ?_
    exact W.iret (v := 1) hx hb hr (fun t ht hW => ⟨⟨1, (u9.2, f), rfl, hw, by rw [ht]; exact hP, va_K.moved hW.alike hK, hD⟩, hS.F ht⟩) hS.2.2 dW_answer_14
  · obtain ⟨s9, rfl⟩ : ∃ z, z = u := ⟨_, rfl⟩
    obtain ⟨hP1, -, hD1⟩ := hB
    rw [ht] at hP1
    obtain ⟨hP, hD⟩ := px_join hP hD hFc hk1 hP1 hD1
    refine W.widen (k := 1) (n := 6) (Nat.le_of_ble_eq_true rfl) (Nat.le_of_ble_eq_true rfl) ?_
    refine lv_i2l (v := r9.toInt64) hx hb dW_answer_7 rfl ?_
    refine va_last hx hb hK hP hD hS ((wX ca ad s9).length + 0) 4 px_e rfl (by unfold vp_in; decide) dW_answer_8 (fun H locs hP hD hS => ?_)
    rw [px_es] at hP hD
    refine lv_goto (tgt := 15) hx hb dW_answer_9 (by decide) ?_
    refine lv_iconst (v := 0) hx hb dW_answer_15 (by decide) ?_
    exact W.iret (v := 0) hx hb hr (fun t ht hW => ⟨⟨0, (s9, vp_updL f (0 : Int32).toNatClampNeg r9.toInt64), rfl, hw, by rw [ht]; exact hP, va_K.moved hW.alike hK, hD⟩, hS.F ht⟩) hS.2.2 dW_answer_16
theorem dW_answerAt_0 : decode cW_answerAt 0 = .ok (.aload_n 3, 1) := by decide +kernel
theorem dW_answerAt_1 : decode cW_answerAt 1 = .ok (.iconst 0, 1) := by decide +kernel
theorem dW_answerAt_2 : decode cW_answerAt 2 = .ok (.aload_n 0, 1) := by decide +kernel
theorem dW_answerAt_3 : decode cW_answerAt 3 = .ok (.iload_n 1, 1) := by decide +kernel
theorem dW_answerAt_4 : decode cW_answerAt 4 = .ok (.iload_n 2, 1) := by decide +kernel
theorem dW_answerAt_5 : decode cW_answerAt 5 = .ok (.invokevirtual 45, 3) := by decide +kernel
theorem dW_answerAt_8 : decode cW_answerAt 8 = .ok (.i2l, 1) := by decide +kernel
theorem dW_answerAt_9 : decode cW_answerAt 9 = .ok (.lastore, 1) := by decide +kernel
theorem dW_answerAt_10 : decode cW_answerAt 10 = .ok (.goto 7, 3) := by decide +kernel
theorem dW_answerAt_13 : decode cW_answerAt 13 = .ok (.astore 4, 2) := by decide +kernel
theorem dW_answerAt_15 : decode cW_answerAt 15 = .ok (.iconst 1, 1) := by decide +kernel
theorem dW_answerAt_16 : decode cW_answerAt 16 = .ok (.ireturn, 1) := by decide +kernel
theorem dW_answerAt_17 : decode cW_answerAt 17 = .ok (.iconst 0, 1) := by decide +kernel
theorem dW_answerAt_18 : decode cW_answerAt 18 = .ok (.ireturn, 1) := by decide +kernel
def wpW_answerAt (post : Int32 → Sg → (Nat → Int64) → Prop) (σ : Sg) (f : Nat → Int64) (a0 : Int32) (a1 : Int32) : Prop := wp_answerAt (fun r s1 => post 0 s1 (vp_updL f (0 : Int32).toNatClampNeg r.toInt64)) (fun E s1 => (E = "java/lang/IndexOutOfBoundsException" ∧ post 1 s1 f)) σ a0 a1
set_option maxHeartbeats 4000000 in
set_option maxRecDepth 100000 in
theorem c_W_answerAt (l : Launch) (D : va_G) (ca : Nat → ClassId) (ad : Nat → Nat → Nat) (cj : ClassId) (o : Nat) (σ : Sg) (f : Nat → Int64) (a0 : Int32) (a1 : Int32) (sz : Nat) (post : Int32 → Sg → (Nat → Int64) → Prop) (hl0 : l.stackTraces = false) (hw : wpW_answerAt post σ f a0 a1) : Met l yW_answerAt wsW_answerAt ({ frames := 10, cells := 2, slots := 12, locals := 164 }) (va_Pc [.ref (ad 0 0), .int a0, .int a1, .ref o] (preW D ca ad cj o σ f sz)) (va_Qi (fun (r : Int32) (u : Sg × (Nat → Int64)) => post r u.1 u.2) (fun u t => atW D ca ad cj o (va_A (wW ca ad cj o σ f) sz) u.1 u.2 t) (va_A (wW ca ad cj o σ f) sz)) 2 12 (va_A (wW ca ad cj o σ f) sz) := by
  refine va_MetW (cc := cW_answerAt) (maxL := 5) (ret := (some .int)) (hh := [(0, 10, 13, 21)]) (by decide) rfl ?_
  intro p e s m args below meth c s₁ B hml hv
  obtain ⟨rfl, hsz, hP, hK, hD0, hE, hN⟩ := hv
  have hx := B.exec
  have hb := B.bytes
  have hr := B.returns
  have htab : c.exceptionTable.toList = tableOf [(0, 10, 13, 21)] := vx_table (x := yW_answerAt) B (atoms_spec (ws := wsW_answerAt) B.pre _ List.mem_cons_self)
  have hts : ∀ w ∈ tbG, w.before _ s = true := fun w h => atoms_spec (ws := wsW_answerAt) B.pre w (List.mem_cons_of_mem _ h)
  have hown : s.vm.findClass RW = some m.cls := findClass_of_methodNamed B.named
  have hlocks := B.notSynchronized
  subst hsz
  have hD := hD0.self (sz := s.heap.size)
  generalize hAe : va_A (wW ca ad cj o σ f) s.heap.size = A at hD hE ⊢
  have hA : ∀ q : Nat, s.heap.size ≤ q → A q := fun q h => by rw [← hAe]; exact Or.inr h
  clear hAe
  have hS : va_S A s.heap s.heap [] := va_S.rf
  have hl := lv_entry ([.ref (ad 0 0), .int a0, .int a1, .ref o]) (n := 5) (Nat.le_of_ble_eq_true rfl)
  rw [lg_entry_eq]
  generalize (lg_sl ([.ref (ad 0 0), .int a0, .int a1, .ref o]) ++ List.replicate (5 - (lg_sl ([.ref (ad 0 0), .int a0, .int a1, .ref o])).length) Slot.unset).toArray = ls at hl ⊢
  have hl : lv_has ls 5 [(0, .ref (ad 0 0)), (1, .int a0), (2, .int a1), (3, .ref o)] := hl
  unfold wpW_answerAt at hw
  have hK4 := hK.sub (tys' := tyA ca) [0, 1, 2, 3] rfl
  refine lv_aload_n hx hb dW_answerAt_0 rfl (lv_at hl 3 rfl) ?_
  refine lv_iconst (v := 0) hx hb dW_answerAt_1 (by decide) ?_
  refine lv_aload_n hx hb dW_answerAt_2 rfl (lv_at hl 0 rfl) ?_
  refine lv_iload_n hx hb dW_answerAt_3 rfl (lv_at hl 1 rfl) ?_
  refine lv_iload_n hx hb dW_answerAt_4 rfl (lv_at hl 2 rfl) ?_
  have hPX := px_fP hP
  have hDX := px_fD hD
  have hFc := px_free hDX hS hA
  refine vx_calli (vx_runV (As := [.int a0, .int a1]) (rest := [.int 0, .ref o]) ⟨hx, hb, hml, hown, hts⟩ (c_answerAt l D ca ad σ a0 a1 _ _ _ hl0 hw) (cwV 2 hts (gV tw_557 tw_558 tw_559 tw_1 tw_560) rfl rfl rfl (by decide +kernel) ⟨Nat.le_of_ble_eq_true rfl, Nat.le_of_ble_eq_true rfl⟩) ⟨px_blind, px_recv hK4 hPX gX_0 rfl, fun U hU hW => px_pre hPX hK4 hDX hE hS hFc hU hW⟩ rfl rfl hl.1 rfl (lv_room (Nat.le_of_ble_eq_true rfl)) dW_answerAt_5 ⟨Nat.le_of_ble_eq_true rfl, Nat.le_of_ble_eq_true rfl⟩) hS (fun q _ h => hFc q h) hFc (fun q _ h => hFc q h) (fun E9 ce9 q9 u9 t9 H locs ht hvm hw hB hz1 hk1 hS hce hcv hcl => ?_) (fun r9 u t H locs ht hvm hw hB hz1 hk1 hS => ?_)
  · obtain ⟨rfl, hP1, -, hD1⟩ := hB
    rw [ht] at hP1
    obtain ⟨hP, hD⟩ := px_join hP hD hFc hk1 hP1 hD1
    obtain ⟨e1, hw⟩ := hw
    refine vx_catch (own := RW) (name := "java/lang/IndexOutOfBoundsException") hown [] ⟨0, 10, 13, 21⟩ [] (htab.trans rfl) (fun z hz => by cases hz) rfl (by decide) (hts _ tw_300) (by rw [e1]; exact va_Nw.use rfl (hE.bad (.castable "java/lang/IndexOutOfBoundsException" "java/lang/IndexOutOfBoundsException") (by decide +kernel))) hce hcv hcl ?_
    refine W.widen (k := 2) (n := 12) (Nat.le_of_ble_eq_true rfl) (Nat.le_of_ble_eq_true rfl) ?_
    refine lv_astore (lv' := [(4, .ref q9), (0, .ref (ad 0 0)), (1, .int a0), (2, .int a1), (3, .ref o)]) hx hb dW_answerAt_13 hl (by decide) rfl (fun ls hl => ?_)
    refine lv_iconst (v := 1) hx hb dW_answerAt_15 (by decide) ?_
    exact W.iret (v := 1) hx hb hr (fun t ht hW => ⟨⟨1, (u9.2, f), rfl, hw, by rw [ht]; exact hP, va_K.moved hW.alike hK, hD⟩, hS.F ht⟩) hS.2.2 dW_answerAt_16
  · obtain ⟨s9, rfl⟩ : ∃ z, z = u := ⟨_, rfl⟩
    obtain ⟨hP1, -, hD1⟩ := hB
    rw [ht] at hP1
    obtain ⟨hP, hD⟩ := px_join hP hD hFc hk1 hP1 hD1
    refine W.widen (k := 2) (n := 12) (Nat.le_of_ble_eq_true rfl) (Nat.le_of_ble_eq_true rfl) ?_
    refine lv_i2l (v := r9.toInt64) hx hb dW_answerAt_8 rfl ?_
    refine va_last hx hb hK hP hD hS ((wX ca ad s9).length + 0) 4 px_e rfl (by unfold vp_in; decide) dW_answerAt_9 (fun H locs hP hD hS => ?_)
    rw [px_es] at hP hD
    refine lv_goto (tgt := 17) hx hb dW_answerAt_10 (by decide) ?_
    refine lv_iconst (v := 0) hx hb dW_answerAt_17 (by decide) ?_
    exact W.iret (v := 0) hx hb hr (fun t ht hW => ⟨⟨0, (s9, vp_updL f (0 : Int32).toNatClampNeg r9.toInt64), rfl, hw, by rw [ht]; exact hP, va_K.moved hW.alike hK, hD⟩, hS.F ht⟩) hS.2.2 dW_answerAt_18
theorem dW_history_0 : decode cW_history 0 = .ok (.aload_n 3, 1) := by decide +kernel
theorem dW_history_1 : decode cW_history 1 = .ok (.iconst 0, 1) := by decide +kernel
theorem dW_history_2 : decode cW_history 2 = .ok (.aload_n 0, 1) := by decide +kernel
theorem dW_history_3 : decode cW_history 3 = .ok (.iload_n 1, 1) := by decide +kernel
theorem dW_history_4 : decode cW_history 4 = .ok (.iload_n 2, 1) := by decide +kernel
theorem dW_history_5 : decode cW_history 5 = .ok (.invokevirtual 48, 3) := by decide +kernel
theorem dW_history_8 : decode cW_history 8 = .ok (.i2l, 1) := by decide +kernel
theorem dW_history_9 : decode cW_history 9 = .ok (.lastore, 1) := by decide +kernel
theorem dW_history_10 : decode cW_history 10 = .ok (.goto 7, 3) := by decide +kernel
theorem dW_history_13 : decode cW_history 13 = .ok (.astore 4, 2) := by decide +kernel
theorem dW_history_15 : decode cW_history 15 = .ok (.iconst 1, 1) := by decide +kernel
theorem dW_history_16 : decode cW_history 16 = .ok (.ireturn, 1) := by decide +kernel
theorem dW_history_17 : decode cW_history 17 = .ok (.iconst 0, 1) := by decide +kernel
theorem dW_history_18 : decode cW_history 18 = .ok (.ireturn, 1) := by decide +kernel
def wpW_history (post : Int32 → Sg → (Nat → Int64) → Prop) (σ : Sg) (f : Nat → Int64) (a0 : Int32) (a1 : Int32) : Prop := wp_history (fun r s1 => post 0 s1 (vp_updL f (0 : Int32).toNatClampNeg r.toInt64)) (fun E s1 => (E = "java/lang/IndexOutOfBoundsException" ∧ post 1 s1 f)) σ a0 a1
set_option maxHeartbeats 4000000 in
set_option maxRecDepth 100000 in
theorem c_W_history (l : Launch) (D : va_G) (ca : Nat → ClassId) (ad : Nat → Nat → Nat) (cj : ClassId) (o : Nat) (σ : Sg) (f : Nat → Int64) (a0 : Int32) (a1 : Int32) (sz : Nat) (post : Int32 → Sg → (Nat → Int64) → Prop) (hl0 : l.stackTraces = false) (hw : wpW_history post σ f a0 a1) : Met l yW_history wsW_history ({ frames := 9, cells := 1, slots := 6, locals := 143 }) (va_Pc [.ref (ad 0 0), .int a0, .int a1, .ref o] (preW D ca ad cj o σ f sz)) (va_Qi (fun (r : Int32) (u : Sg × (Nat → Int64)) => post r u.1 u.2) (fun u t => atW D ca ad cj o (va_A (wW ca ad cj o σ f) sz) u.1 u.2 t) (va_A (wW ca ad cj o σ f) sz)) 1 6 (va_A (wW ca ad cj o σ f) sz) := by
  refine va_MetW (cc := cW_history) (maxL := 5) (ret := (some .int)) (hh := [(0, 10, 13, 21)]) (by decide) rfl ?_
  intro p e s m args below meth c s₁ B hml hv
  obtain ⟨rfl, hsz, hP, hK, hD0, hE, hN⟩ := hv
  have hx := B.exec
  have hb := B.bytes
  have hr := B.returns
  have htab : c.exceptionTable.toList = tableOf [(0, 10, 13, 21)] := vx_table (x := yW_history) B (atoms_spec (ws := wsW_history) B.pre _ List.mem_cons_self)
  have hts : ∀ w ∈ tbG, w.before _ s = true := fun w h => atoms_spec (ws := wsW_history) B.pre w (List.mem_cons_of_mem _ h)
  have hown : s.vm.findClass RW = some m.cls := findClass_of_methodNamed B.named
  have hlocks := B.notSynchronized
  subst hsz
  have hD := hD0.self (sz := s.heap.size)
  generalize hAe : va_A (wW ca ad cj o σ f) s.heap.size = A at hD hE ⊢
  have hA : ∀ q : Nat, s.heap.size ≤ q → A q := fun q h => by rw [← hAe]; exact Or.inr h
  clear hAe
  have hS : va_S A s.heap s.heap [] := va_S.rf
  have hl := lv_entry ([.ref (ad 0 0), .int a0, .int a1, .ref o]) (n := 5) (Nat.le_of_ble_eq_true rfl)
  rw [lg_entry_eq]
  generalize (lg_sl ([.ref (ad 0 0), .int a0, .int a1, .ref o]) ++ List.replicate (5 - (lg_sl ([.ref (ad 0 0), .int a0, .int a1, .ref o])).length) Slot.unset).toArray = ls at hl ⊢
  have hl : lv_has ls 5 [(0, .ref (ad 0 0)), (1, .int a0), (2, .int a1), (3, .ref o)] := hl
  unfold wpW_history at hw
  have hK4 := hK.sub (tys' := tyA ca) [0, 1, 2, 3] rfl
  refine lv_aload_n hx hb dW_history_0 rfl (lv_at hl 3 rfl) ?_
  refine lv_iconst (v := 0) hx hb dW_history_1 (by decide) ?_
  refine lv_aload_n hx hb dW_history_2 rfl (lv_at hl 0 rfl) ?_
  refine lv_iload_n hx hb dW_history_3 rfl (lv_at hl 1 rfl) ?_
  refine lv_iload_n hx hb dW_history_4 rfl (lv_at hl 2 rfl) ?_
  have hPX := px_fP hP
  have hDX := px_fD hD
  have hFc := px_free hDX hS hA
  refine vx_calli (vx_runV (As := [.int a0, .int a1]) (rest := [.int 0, .ref o]) ⟨hx, hb, hml, hown, hts⟩ (c_history l D ca ad σ a0 a1 _ _ _ hl0 hw) (cwV 2 hts (gV tw_565 tw_566 tw_567 tw_1 tw_568) rfl rfl rfl (by decide +kernel) ⟨Nat.le_of_ble_eq_true rfl, Nat.le_of_ble_eq_true rfl⟩) ⟨px_blind, px_recv hK4 hPX gX_0 rfl, fun U hU hW => px_pre hPX hK4 hDX hE hS hFc hU hW⟩ rfl rfl hl.1 rfl (lv_room (Nat.le_of_ble_eq_true rfl)) dW_history_5 ⟨Nat.le_of_ble_eq_true rfl, Nat.le_of_ble_eq_true rfl⟩) hS (fun q _ h => hFc q h) hFc (fun q _ h => hFc q h) (fun E9 ce9 q9 u9 t9 H locs ht hvm hw hB hz1 hk1 hS hce hcv hcl => ?_) (fun r9 u t H locs ht hvm hw hB hz1 hk1 hS => ?_)
  · obtain ⟨rfl, hP1, -, hD1⟩ := hB
    rw [ht] at hP1
    obtain ⟨hP, hD⟩ := px_join hP hD hFc hk1 hP1 hD1
    obtain ⟨e1, hw⟩ := hw
    refine vx_catch (own := RW) (name := "java/lang/IndexOutOfBoundsException") hown [] ⟨0, 10, 13, 21⟩ [] (htab.trans rfl) (fun z hz => by cases hz) rfl (by decide) (hts _ tw_300) (by rw [e1]; exact va_Nw.use rfl (hE.bad (.castable "java/lang/IndexOutOfBoundsException" "java/lang/IndexOutOfBoundsException") (by decide +kernel))) hce hcv hcl ?_
    refine W.widen (k := 1) (n := 6) (Nat.le_of_ble_eq_true rfl) (Nat.le_of_ble_eq_true rfl) ?_
    refine lv_astore (lv' := [(4, .ref q9), (0, .ref (ad 0 0)), (1, .int a0), (2, .int a1), (3, .ref o)]) hx hb dW_history_13 hl (by decide) rfl (fun ls hl => ?_)
    refine lv_iconst (v := 1) hx hb dW_history_15 (by decide) ?_
    exact W.iret (v := 1) hx hb hr (fun t ht hW => ⟨⟨1, (u9.2, f), rfl, hw, by rw [ht]; exact hP, va_K.moved hW.alike hK, hD⟩, hS.F ht⟩) hS.2.2 dW_history_16
  · obtain ⟨s9, rfl⟩ : ∃ z, z = u := ⟨_, rfl⟩
    obtain ⟨hP1, -, hD1⟩ := hB
    rw [ht] at hP1
    obtain ⟨hP, hD⟩ := px_join hP hD hFc hk1 hP1 hD1
    refine W.widen (k := 1) (n := 6) (Nat.le_of_ble_eq_true rfl) (Nat.le_of_ble_eq_true rfl) ?_
    refine lv_i2l (v := r9.toInt64) hx hb dW_history_8 rfl ?_
    refine va_last hx hb hK hP hD hS ((wX ca ad s9).length + 0) 4 px_e rfl (by unfold vp_in; decide) dW_history_9 (fun H locs hP hD hS => ?_)
    rw [px_es] at hP hD
    refine lv_goto (tgt := 17) hx hb dW_history_10 (by decide) ?_
    refine lv_iconst (v := 0) hx hb dW_history_17 (by decide) ?_
    exact W.iret (v := 0) hx hb hr (fun t ht hW => ⟨⟨0, (s9, vp_updL f (0 : Int32).toNatClampNeg r9.toInt64), rfl, hw, by rw [ht]; exact hP, va_K.moved hW.alike hK, hD⟩, hS.F ht⟩) hS.2.2 dW_history_18
