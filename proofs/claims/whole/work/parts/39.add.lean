theorem dL_add__0 : decode cL_add_ 0 = .ok (.iload_n 3, 1) := by decide +kernel
theorem dL_add__1 : decode cL_add_ 1 = .ok (.aload_n 2, 1) := by decide +kernel
theorem dL_add__2 : decode cL_add_ 2 = .ok (.arraylength, 1) := by decide +kernel
theorem dL_add__3 : decode cL_add_ 3 = .ok (.if_icmp .ne 8, 3) := by decide +kernel
theorem dL_add__6 : decode cL_add_ 6 = .ok (.aload_n 0, 1) := by decide +kernel
theorem dL_add__7 : decode cL_add_ 7 = .ok (.invokevirtual 129, 3) := by decide +kernel
theorem dL_add__10 : decode cL_add_ 10 = .ok (.astore_n 2, 1) := by decide +kernel
theorem dL_add__11 : decode cL_add_ 11 = .ok (.aload_n 2, 1) := by decide +kernel
theorem dL_add__12 : decode cL_add_ 12 = .ok (.iload_n 3, 1) := by decide +kernel
theorem dL_add__13 : decode cL_add_ 13 = .ok (.aload_n 1, 1) := by decide +kernel
theorem dL_add__14 : decode cL_add_ 14 = .ok (.aastore, 1) := by decide +kernel
theorem dL_add__15 : decode cL_add_ 15 = .ok (.aload_n 0, 1) := by decide +kernel
theorem dL_add__16 : decode cL_add_ 16 = .ok (.iload_n 3, 1) := by decide +kernel
theorem dL_add__17 : decode cL_add_ 17 = .ok (.iconst 1, 1) := by decide +kernel
theorem dL_add__18 : decode cL_add_ 18 = .ok (.iadd, 1) := by decide +kernel
theorem dL_add__19 : decode cL_add_ 19 = .ok (.putfield 48, 3) := by decide +kernel
theorem dL_add__22 : decode cL_add_ 22 = .ok (.return_, 1) := by decide +kernel
theorem dL_add_0 : decode cL_add 0 = .ok (.aload_n 0, 1) := by decide +kernel
theorem dL_add_1 : decode cL_add 1 = .ok (.dup, 1) := by decide +kernel
theorem dL_add_2 : decode cL_add 2 = .ok (.getfield 63, 3) := by decide +kernel
theorem dL_add_5 : decode cL_add 5 = .ok (.iconst 1, 1) := by decide +kernel
theorem dL_add_6 : decode cL_add 6 = .ok (.iadd, 1) := by decide +kernel
theorem dL_add_7 : decode cL_add 7 = .ok (.putfield 63, 3) := by decide +kernel
theorem dL_add_10 : decode cL_add 10 = .ok (.aload_n 0, 1) := by decide +kernel
theorem dL_add_11 : decode cL_add 11 = .ok (.aload_n 1, 1) := by decide +kernel
theorem dL_add_12 : decode cL_add 12 = .ok (.aload_n 0, 1) := by decide +kernel
theorem dL_add_13 : decode cL_add 13 = .ok (.getfield 9, 3) := by decide +kernel
theorem dL_add_16 : decode cL_add 16 = .ok (.aload_n 0, 1) := by decide +kernel
theorem dL_add_17 : decode cL_add 17 = .ok (.getfield 48, 3) := by decide +kernel
theorem dL_add_20 : decode cL_add 20 = .ok (.invokevirtual 131, 3) := by decide +kernel
theorem dL_add_23 : decode cL_add 23 = .ok (.iconst 1, 1) := by decide +kernel
theorem dL_add_24 : decode cL_add 24 = .ok (.ireturn, 1) := by decide +kernel
/-- behind add: the asking j stands at the list's end; the array grew where it was full -/
def aQ (σ : Sg) (j : Nat) : Sg := uG 6 (sG σ 6 + 1) (uK (va_up (sK σ) (sG σ 6).toNatClampNeg (some j)) σ)
def aR (σ : Sg) (j : Nat) : Sg := if sG σ 6 = nI (sC σ) then aQ (gC (grM (sC σ)) σ) j else aQ σ j
section PA
variable {ca : Nat → ClassId} {ad : Nat → Nat → Nat} {σ : Sg}
theorem eD_up {i j : Nat} : va_up (eD ad σ) i (some (ad 10 j)) = eD ad (uK (va_up (sK σ) i (some j)) σ) := by
  funext x
  show _ = (va_up (sK σ) i (some j) x).map (ad 10)
  unfold va_up
  by_cases h : x = i
  · simp [h]
  · simp only [h, if_false]; rfl
theorem sX_9 {i j : Nat} (hc : sC σ ≠ 0) : (wX ca ad σ).set (6 + (8 + (8 + (8 + (sN σ + 0))))) (ad 9 0, .inl (ca 3, sC σ, .inr (.inr (.inr (.inr (va_up (eD ad σ) i (some (ad 10 j)))))))) = wX ca ad (uK (va_up (sK σ) i (some j)) σ) := by
  rw [wX, px_sr 6 l0, px_sr 8 l6, px_sr 8 l7, px_sr 8 l8, px_sr (sN σ) lQ]
  have e : (wE ca ad σ).set 0 (ad 9 0, .inl (ca 3, sC σ, .inr (.inr (.inr (.inr (va_up (eD ad σ) i (some (ad 10 j)))))))) = wE ca ad (uK (va_up (sK σ) i (some j)) σ) := by
    rw [eD_up]
    unfold wE
    rw [if_neg hc, if_neg (show ¬ sC (uK (va_up (sK σ) i (some j)) σ) = 0 from hc)]
    rfl
  rw [e]; rfl
end PA

set_option maxHeartbeats 4000000 in
set_option maxRecDepth 100000 in
theorem c_add3 (l : Launch) (D : va_G) (ca : Nat → ClassId) (ad : Nat → Nat → Nat) (σ : Sg) (t0 mi j sz : Nat) (h9 : sC σ = 0 → ad 9 0 = t0) (hc9 : sC σ ≤ 1900) (hk : ∀ i, i < sC σ → ∀ j, sK σ i = some j → j < sN σ) (hj : j < sN σ) (hn : (sG σ 6).toInt ≤ sC σ ∧ 0 ≤ (sG σ 6).toInt) : Met l yL_add_ wsL_add_ ({ frames := 5, cells := 1, slots := 3000, locals := 147 }) (va_Pc [.ref (ad 2 0), .ref (ad 10 j), .ref (ad 9 0), .int (sG σ 6)] (preA D ca ad σ t0 mi sz)) (va_Qv (fun u : (Nat → Nat → Nat) × Sg => (∀ k i, k ≠ 9 → u.1 k i = ad k i) ∧ u.2 = aR σ j) (fun u t => va_P D clX (wX ca u.1 u.2) t.heap ∧ va_K D clX (tyA ca) t ∧ va_D (va_A (wX ca ad σ) sz) (wX ca u.1 u.2)) (va_A (wX ca ad σ) sz)) 1 3000 (va_A (wX ca ad σ) sz) := by
  refine Met.ofW (cc := cL_add_) (maxL := 4) (ret := none) (by decide) rfl ?_
  intro p e s m args below meth c s₁ B hml hv
  obtain ⟨rfl, ⟨hsz, hP, hK, hD0, hE⟩, hL⟩ := hv
  have hx := B.exec
  have hb := B.bytes
  have hr := B.returns
  have hts : ∀ w ∈ tbG, w.before _ s = true := fun w h => atoms_spec (ws := wsL_add_) B.pre w (List.mem_cons_of_mem _ h)
  have hown : s.vm.findClass RL = some m.cls := findClass_of_methodNamed B.named
  have hlocks := B.notSynchronized
  subst hsz
  have hD := hD0.self (sz := s.heap.size)
  generalize hAe : va_A (wX ca ad σ) s.heap.size = A at hD hE hL ⊢
  have hA : ∀ q : Nat, s.heap.size ≤ q → A q := fun q h => by rw [← hAe]; exact Or.inr h
  clear hAe
  have hS : va_S A s.heap s.heap [] := va_S.rf
  have hl := lv_entry ([.ref (ad 2 0), .ref (ad 10 j), .ref (ad 9 0), .int (sG σ 6)]) (n := 4) (Nat.le_of_ble_eq_true rfl)
  rw [lg_entry_eq]
  generalize (lg_sl ([.ref (ad 2 0), .ref (ad 10 j), .ref (ad 9 0), .int (sG σ 6)]) ++ List.replicate (4 - (lg_sl ([.ref (ad 2 0), .ref (ad 10 j), .ref (ad 9 0), .int (sG σ 6)])).length) Slot.unset).toArray = ls at hl ⊢
  have hl : lv_has ls 4 [(0, .ref (ad 2 0)), (1, .ref (ad 10 j)), (2, .ref (ad 9 0)), (3, .int (sG σ 6))] := hl
  obtain ⟨n, hnc, en⟩ : ∃ n : Nat, n ≤ sC σ ∧ sG σ 6 = nI n := by
    obtain ⟨n, hn31, en⟩ := nI_of (x := sG σ 6) (by rw [Int32.lt_iff_toInt_lt]; show ¬ (sG σ 6).toInt < 0; omega)
    refine ⟨n, ?_, en⟩
    have h1 := hn.1
    rw [en] at h1
    rw [nI_toInt hn31] at h1
    omega
  refine lv_iload_n hx hb dL_add__0 rfl (lv_at hl 3 rfl) ?_
  refine lv_aload_n hx hb dL_add__1 rfl (lv_at hl 2 rfl) ?_
  by_cases hc : sC σ = 0
  · have hT9 : va_T (.object "java/lang/Object") (ad 9 0) 0 (fun _ => .null) A s s.heap := by rw [h9 hc]; exact hL.2.2.2.2
    refine va_tlen (v := 0) hx hb hT9 hS rfl dL_add__2 ?_
    have e6 : sG σ 6 = 0 := by rw [en, show n = 0 by omega]; rfl
    have e6c : sG σ 6 = nI (sC σ) := by rw [e6, hc]; rfl
    refine lv_icmp_ne (tgt := 11) hx hb dL_add__3 (by decide) (fun z => absurd e6 z) (fun _ => ?_)
    have hFc := px_free hD hS hA
    refine lv_aload_n hx hb dL_add__6 rfl (lv_at hl 0 rfl) ?_
    refine va_callr (va_runV (As := []) (rest := []) ⟨hx, hb, hml, hown, hts⟩ (c_grow0 l D ca ad σ t0 mi _ h9 hc9 hk e6c) (cwV 0 hts (gV tw_384 tw_386 tp_6 tw_4 tw_387) rfl rfl rfl (by decide +kernel) ⟨Nat.le_of_ble_eq_true rfl, Nat.le_of_ble_eq_true rfl⟩) ⟨pa_blind, px_recv hK hP gX_2 rfl, fun U hU hW => pa_pre hP hK hD hE hL hS hFc hU hW⟩ rfl rfl hl.1 rfl (lv_room (Nat.le_of_ble_eq_true rfl)) dL_add__7 ⟨Nat.le_of_ble_eq_true rfl, Nat.le_of_ble_eq_true rfl⟩) hS (fun q _ h => hFc q h) hFc (fun r q t H locs ht hvm hw hB _ _ hS => ?_)
    obtain ⟨rfl, hP, -, hD⟩ := hB
    rw [ht] at hP
    have hD := hD.weaken (fun _ _ _ h9 => hFc _ h9)
    refine W.widen (k := 1) (n := 3000) (Nat.le_of_ble_eq_true rfl) (Nat.le_of_ble_eq_true rfl) ?_
    refine lv_astore_n (lv' := [(2, .ref q), (0, .ref (ad 2 0)), (1, .ref (ad 10 j)), (3, .int (sG σ 6))]) hx hb dL_add__10 rfl hl (by decide) rfl (fun ls hl => ?_)
    have hgp : sC σ < grM (sC σ) := grM_lt _
    have hgm : grM (sC σ) ≤ 3000 := grM_le hc9
    have hcc : sC (gC (grM (sC σ)) σ) ≠ 0 := by show grM (sC σ) ≠ 0; omega
    have hin : vp_in (sG σ 6) (sC (gC (grM (sC σ)) σ)) := by
      rw [e6c]
      exact vp_in_nI hgp (by show grM (sC σ) < 2 ^ 31; omega)
    refine lv_aload_n hx hb dL_add__11 rfl (lv_at hl 0 rfl) ?_
    refine lv_iload_n hx hb dL_add__12 rfl (lv_at hl 3 rfl) ?_
    refine lv_aload_n hx hb dL_add__13 rfl (lv_at hl 2 rfl) ?_
    refine va_astqO (E := "java/lang/Object") hx hb hK hP hD hS (6 + (8 + (8 + (8 + (sN (gC (grM (sC σ)) σ) + 0))))) 3 (6 + (8 + (8 + (8 + j)))) 2 (gX_9 hcc) rfl (hE.bad (.castable "PatronHall$Asking" "java/lang/Object") (by decide +kernel)) (gX_10 (σ := (gC (grM (sC σ)) σ)) hj) rfl hin dL_add__14 (fun H locs hP hD hS => ?_)
    rw [sX_9 (ad := (up2 ad 9 0 q)) hcc] at hP hD
    refine lv_aload_n hx hb dL_add__15 rfl (lv_at hl 1 rfl) ?_
    refine lv_iload_n hx hb dL_add__16 rfl (lv_at hl 3 rfl) ?_
    refine lv_iconst (v := 1) hx hb dL_add__17 (by decide) ?_
    refine lv_iadd hx hb dL_add__18 ?_
    refine va_put (D := D) (ci := 4) (v := .int (sG σ 6 + 1)) (ty := .int) (C := RL) (T := TL) (N := 3) hx hb hts inL tyL tyL_ok nmL hown hK hP hD hS 2 gX_2 rfl 2 (by decide) (hts _ tw_46) (fun _ h9 => h9) rfl (by decide +kernel) rfl rfl (Nat.le_of_ble_eq_true rfl) dL_add__19 (fun H locs hP hD hS => ?_)
    rw [sX_2_2] at hP hD
    refine W.widen (k := 1) (n := 3000) (Nat.le_of_ble_eq_true rfl) (Nat.le_of_ble_eq_true rfl) ?_
    exact W.vret hx hb hr (fun t ht hW => ⟨⟨(up2 ad 9 0 q, aQ (gC (grM (sC σ)) σ) j), rfl, ⟨fun k i hk9 => by simp [up2, hk9], by unfold aR; rw [if_pos e6c]⟩, by rw [ht]; exact hP, va_K.moved hW.alike hK, hD⟩, hS.F ht⟩) hS.2.2 dL_add__22
  · refine va_alen (v := nI (sC σ)) hx hb hK hP (6 + (8 + (8 + (8 + (sN σ + 0))))) 3 (gX_9 hc) rfl rfl dL_add__2 ?_
    refine lv_icmp_ne (tgt := 11) hx hb dL_add__3 (by decide) (fun c1 => ?_) (fun e6c => ?_)
    · have hcc := hc
      have hin : vp_in (sG σ 6) (sC σ) := by
        rw [en]
        exact vp_in_nI (by rcases Nat.lt_or_ge n (sC σ) with q | q; exact q; exact absurd (by rw [en, show n = sC σ by omega]) c1) (by omega)
      refine lv_aload_n hx hb dL_add__11 rfl (lv_at hl 2 rfl) ?_
      refine lv_iload_n hx hb dL_add__12 rfl (lv_at hl 3 rfl) ?_
      refine lv_aload_n hx hb dL_add__13 rfl (lv_at hl 1 rfl) ?_
      refine va_astqO (E := "java/lang/Object") hx hb hK hP hD hS (6 + (8 + (8 + (8 + (sN σ + 0))))) 3 (6 + (8 + (8 + (8 + j)))) 2 (gX_9 hcc) rfl (hE.bad (.castable "PatronHall$Asking" "java/lang/Object") (by decide +kernel)) (gX_10 (σ := σ) hj) rfl hin dL_add__14 (fun H locs hP hD hS => ?_)
      rw [sX_9 (ad := ad) hcc] at hP hD
      refine lv_aload_n hx hb dL_add__15 rfl (lv_at hl 0 rfl) ?_
      refine lv_iload_n hx hb dL_add__16 rfl (lv_at hl 3 rfl) ?_
      refine lv_iconst (v := 1) hx hb dL_add__17 (by decide) ?_
      refine lv_iadd hx hb dL_add__18 ?_
      refine va_put (D := D) (ci := 4) (v := .int (sG σ 6 + 1)) (ty := .int) (C := RL) (T := TL) (N := 3) hx hb hts inL tyL tyL_ok nmL hown hK hP hD hS 2 gX_2 rfl 2 (by decide) (hts _ tw_46) (fun _ h9 => h9) rfl (by decide +kernel) rfl rfl (Nat.le_of_ble_eq_true rfl) dL_add__19 (fun H locs hP hD hS => ?_)
      rw [sX_2_2] at hP hD
      refine W.widen (k := 1) (n := 3000) (by decide) (by decide) ?_
      exact W.vret hx hb hr (fun t ht hW => ⟨⟨(ad, aQ σ j), rfl, ⟨fun _ _ _ => rfl, by unfold aR; rw [if_neg c1]⟩, by rw [ht]; exact hP, va_K.moved hW.alike hK, hD⟩, hS.F ht⟩) hS.2.2 dL_add__22
    · have hFc := px_free hD hS hA
      refine lv_aload_n hx hb dL_add__6 rfl (lv_at hl 0 rfl) ?_
      refine va_callr (va_runV (As := []) (rest := []) ⟨hx, hb, hml, hown, hts⟩ (c_grow0 l D ca ad σ t0 mi _ h9 hc9 hk e6c) (cwV 0 hts (gV tw_384 tw_386 tp_6 tw_4 tw_387) rfl rfl rfl (by decide +kernel) ⟨Nat.le_of_ble_eq_true rfl, Nat.le_of_ble_eq_true rfl⟩) ⟨pa_blind, px_recv hK hP gX_2 rfl, fun U hU hW => pa_pre hP hK hD hE hL hS hFc hU hW⟩ rfl rfl hl.1 rfl (lv_room (Nat.le_of_ble_eq_true rfl)) dL_add__7 ⟨Nat.le_of_ble_eq_true rfl, Nat.le_of_ble_eq_true rfl⟩) hS (fun q _ h => hFc q h) hFc (fun r q t H locs ht hvm hw hB _ _ hS => ?_)
      obtain ⟨rfl, hP, -, hD⟩ := hB
      rw [ht] at hP
      have hD := hD.weaken (fun _ _ _ h9 => hFc _ h9)
      refine W.widen (k := 1) (n := 3000) (Nat.le_of_ble_eq_true rfl) (Nat.le_of_ble_eq_true rfl) ?_
      refine lv_astore_n (lv' := [(2, .ref q), (0, .ref (ad 2 0)), (1, .ref (ad 10 j)), (3, .int (sG σ 6))]) hx hb dL_add__10 rfl hl (by decide) rfl (fun ls hl => ?_)
      have hgp : sC σ < grM (sC σ) := grM_lt _
      have hgm : grM (sC σ) ≤ 3000 := grM_le hc9
      have hcc : sC (gC (grM (sC σ)) σ) ≠ 0 := by show grM (sC σ) ≠ 0; omega
      have hin : vp_in (sG σ 6) (sC (gC (grM (sC σ)) σ)) := by
        rw [e6c]
        exact vp_in_nI hgp (by show grM (sC σ) < 2 ^ 31; omega)
      refine lv_aload_n hx hb dL_add__11 rfl (lv_at hl 0 rfl) ?_
      refine lv_iload_n hx hb dL_add__12 rfl (lv_at hl 3 rfl) ?_
      refine lv_aload_n hx hb dL_add__13 rfl (lv_at hl 2 rfl) ?_
      refine va_astqO (E := "java/lang/Object") hx hb hK hP hD hS (6 + (8 + (8 + (8 + (sN (gC (grM (sC σ)) σ) + 0))))) 3 (6 + (8 + (8 + (8 + j)))) 2 (gX_9 hcc) rfl (hE.bad (.castable "PatronHall$Asking" "java/lang/Object") (by decide +kernel)) (gX_10 (σ := (gC (grM (sC σ)) σ)) hj) rfl hin dL_add__14 (fun H locs hP hD hS => ?_)
      rw [sX_9 (ad := (up2 ad 9 0 q)) hcc] at hP hD
      refine lv_aload_n hx hb dL_add__15 rfl (lv_at hl 1 rfl) ?_
      refine lv_iload_n hx hb dL_add__16 rfl (lv_at hl 3 rfl) ?_
      refine lv_iconst (v := 1) hx hb dL_add__17 (by decide) ?_
      refine lv_iadd hx hb dL_add__18 ?_
      refine va_put (D := D) (ci := 4) (v := .int (sG σ 6 + 1)) (ty := .int) (C := RL) (T := TL) (N := 3) hx hb hts inL tyL tyL_ok nmL hown hK hP hD hS 2 gX_2 rfl 2 (by decide) (hts _ tw_46) (fun _ h9 => h9) rfl (by decide +kernel) rfl rfl (Nat.le_of_ble_eq_true rfl) dL_add__19 (fun H locs hP hD hS => ?_)
      rw [sX_2_2] at hP hD
      refine W.widen (k := 1) (n := 3000) (Nat.le_of_ble_eq_true rfl) (Nat.le_of_ble_eq_true rfl) ?_
      exact W.vret hx hb hr (fun t ht hW => ⟨⟨(up2 ad 9 0 q, aQ (gC (grM (sC σ)) σ) j), rfl, ⟨fun k i hk9 => by simp [up2, hk9], by unfold aR; rw [if_pos e6c]⟩, by rw [ht]; exact hP, va_K.moved hW.alike hK, hD⟩, hS.F ht⟩) hS.2.2 dL_add__22

set_option maxHeartbeats 4000000 in
set_option maxRecDepth 100000 in
theorem c_add1 (l : Launch) (D : va_G) (ca : Nat → ClassId) (ad : Nat → Nat → Nat) (σ : Sg) (t0 mi j sz : Nat) (h9 : sC σ = 0 → ad 9 0 = t0) (hc9 : sC σ ≤ 1900) (hk : ∀ i, i < sC σ → ∀ j, sK σ i = some j → j < sN σ) (hj : j < sN σ) (hn : (sG σ 6).toInt ≤ sC σ ∧ 0 ≤ (sG σ 6).toInt) : Met l yL_add wsL_add ({ frames := 6, cells := 1, slots := 3000, locals := 170 }) (va_Pc [.ref (ad 2 0), .ref (ad 10 j)] (preA D ca ad σ t0 mi sz)) (va_Qi (fun (r : Int32) (u : (Nat → Nat → Nat) × Sg) => r = 1 ∧ (∀ k i, k ≠ 9 → u.1 k i = ad k i) ∧ u.2 = aR (uG 5 (sG σ 5 + 1) σ) j) (fun u t => va_P D clX (wX ca u.1 u.2) t.heap ∧ va_K D clX (tyA ca) t ∧ va_D (va_A (wX ca ad σ) sz) (wX ca u.1 u.2)) (va_A (wX ca ad σ) sz)) 1 3000 (va_A (wX ca ad σ) sz) := by
  refine Met.ofW (cc := cL_add) (maxL := 2) (ret := (some .boolean)) (by decide) rfl ?_
  intro p e s m args below meth c s₁ B hml hv
  obtain ⟨rfl, ⟨hsz, hP, hK, hD0, hE⟩, hL⟩ := hv
  have hx := B.exec
  have hb := B.bytes
  have hr := B.returns
  have hts : ∀ w ∈ tbG, w.before _ s = true := fun w h => atoms_spec (ws := wsL_add) B.pre w (List.mem_cons_of_mem _ h)
  have hown : s.vm.findClass RL = some m.cls := findClass_of_methodNamed B.named
  have hlocks := B.notSynchronized
  subst hsz
  have hD := hD0.self (sz := s.heap.size)
  generalize hAe : va_A (wX ca ad σ) s.heap.size = A at hD hE hL ⊢
  have hA : ∀ q : Nat, s.heap.size ≤ q → A q := fun q h => by rw [← hAe]; exact Or.inr h
  clear hAe
  have hS : va_S A s.heap s.heap [] := va_S.rf
  have hl := lv_entry ([.ref (ad 2 0), .ref (ad 10 j)]) (n := 2) (Nat.le_of_ble_eq_true rfl)
  rw [lg_entry_eq]
  generalize (lg_sl ([.ref (ad 2 0), .ref (ad 10 j)]) ++ List.replicate (2 - (lg_sl ([.ref (ad 2 0), .ref (ad 10 j)])).length) Slot.unset).toArray = ls at hl ⊢
  have hl : lv_has ls 2 [(0, .ref (ad 2 0)), (1, .ref (ad 10 j))] := hl
  refine lv_aload_n hx hb dL_add_0 rfl (lv_at hl 0 rfl) ?_
  refine lv_dup hx hb dL_add_1 rfl ?_
  refine va_get (D := D) (ci := 4) (v := .int (sG σ 5)) (C := RL) (T := TL) (N := 3) hx hb hts inL hown hK hP 2 gX_2 rfl 0 (by decide) (hts _ tw_48) (u_same (hts _ tw_49)) rfl dL_add_2 ?_
  refine lv_iconst (v := 1) hx hb dL_add_5 (by decide) ?_
  refine lv_iadd hx hb dL_add_6 ?_
  refine va_put (D := D) (ci := 4) (v := .int (sG σ 5 + 1)) (ty := .int) (C := RL) (T := TL) (N := 3) hx hb hts inL tyL tyL_ok nmL hown hK hP hD hS 2 gX_2 rfl 0 (by decide) (hts _ tw_48) (u_same (hts _ tw_49)) rfl (by decide +kernel) rfl rfl (Nat.le_of_ble_eq_true rfl) dL_add_7 (fun H locs hP hD hS => ?_)
  rw [sX_2_0] at hP hD
  refine lv_aload_n hx hb dL_add_10 rfl (lv_at hl 0 rfl) ?_
  refine lv_aload_n hx hb dL_add_11 rfl (lv_at hl 1 rfl) ?_
  refine lv_aload_n hx hb dL_add_12 rfl (lv_at hl 0 rfl) ?_
  refine va_get (D := D) (ci := 4) (v := .ref (ad 9 0)) (C := RL) (T := TL) (N := 3) hx hb hts inL hown hK hP 2 gX_2 rfl 1 (by decide) (hts _ tw_45) (fun _ h9 => h9) rfl dL_add_13 ?_
  refine lv_aload_n hx hb dL_add_16 rfl (lv_at hl 0 rfl) ?_
  refine va_get (D := D) (ci := 4) (v := .int (sG σ 6)) (C := RL) (T := TL) (N := 3) hx hb hts inL hown hK hP 2 gX_2 rfl 2 (by decide) (hts _ tw_46) (fun _ h9 => h9) rfl dL_add_17 ?_
  have hFc := px_free hD hS hA
  refine va_callv (va_runV (As := [.ref (ad 10 j), .ref (ad 9 0), .int (sG σ 6)]) (rest := []) ⟨hx, hb, hml, hown, hts⟩ (c_add3 l D ca ad (uG 5 (sG σ 5 + 1) σ) t0 mi j _ h9 hc9 hk hj hn) (cwV 3 hts (gV tw_380 tw_382 tp_5 tw_4 tw_383) rfl rfl rfl (by decide +kernel) ⟨Nat.le_of_ble_eq_true rfl, Nat.le_of_ble_eq_true rfl⟩) ⟨pa_blind, px_recv hK hP gX_2 rfl, fun U hU hW => pa_pre hP hK hD hE hL hS hFc hU hW⟩ rfl rfl hl.1 rfl (lv_room (Nat.le_of_ble_eq_true rfl)) dL_add_20 ⟨Nat.le_of_ble_eq_true rfl, Nat.le_of_ble_eq_true rfl⟩) hS (fun q _ h => hFc q h) hFc (fun u t H locs ht hvm hw hB _ _ hS => ?_)
  obtain ⟨hP, -, hD⟩ := hB
  rw [ht] at hP
  have hD := hD.weaken (fun _ _ _ h9 => hFc _ h9)
  refine W.widen (k := 1) (n := 3000) (Nat.le_of_ble_eq_true rfl) (Nat.le_of_ble_eq_true rfl) ?_
  refine lv_iconst (v := 1) hx hb dL_add_23 (by decide) ?_
  exact W.zret (ty := .boolean) (v := 1) hx hb hr (by decide) (fun t ht hW => ⟨⟨1, u, rfl, ⟨rfl, hw.1, hw.2⟩, by rw [ht]; exact hP, va_K.moved hW.alike hK, hD⟩, hS.F ht⟩) hS.2.2 dL_add_24

