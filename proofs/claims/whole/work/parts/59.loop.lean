theorem rl_0 : Rl 0 sg0 sm0 := by
  refine ⟨⟨rfl, by decide, rfl, by decide, rfl, rfl, by decide, rfl, by decide, rfl, rfl, by decide, by decide, by decide, fun q _ => (by show (0 : Int32) &&& 255 = 0; decide), fun q _ => rfl, fun j hj => absurd hj (Nat.not_lt_zero j), fun i j e => (by cases e), fun j hj => absurd hj (Nat.not_lt_zero j), fun i hi => ?_⟩, fun i hi => Or.inl ⟨rfl, rfl, rfl, rfl, rfl, rfl⟩⟩
  have h3 : ∀ i, i < 8 → (-1 : Int32) = mA sm0 3 i := by decide
  exact ⟨rfl, rfl, by show 0 ≤ (0 : Int32).toInt ∧ (0 : Int32).toInt < 7; decide, h3 i hi, Or.inl rfl, rfl, rfl, rfl, rfl, Or.inl rfl, rfl, by show 0 ≤ (0 : Int32).toInt ∧ (0 : Int32).toInt ≤ 5; decide, rfl, by show 0 ≤ (0 : Int32).toInt ∧ (0 : Int32).toInt ≤ 232; decide, fun q _ => (by show (0 : Int32) &&& 255 = 0; decide), rfl, by show 0 ≤ (0 : Int32).toInt ∧ (0 : Int32).toInt ≤ 134; decide, fun q _ => (by show (0 : Int32) &&& 255 = 0; decide)⟩
set_option maxHeartbeats 4000000 in
theorem law_head {p : Program} {l : Launch} {e : Env} {s : State} {m : MethodId} {below : List Frame} {meth : Method} {c : Code} {D : va_G} {ca cm : Nat → ClassId} {cj : ClassId} {am : Nat → Nat → Nat} {o t0 mi b L : Nat} {xs : Nat → Int32} (hx : p.tables.exec = Jvm.exec) (hb : c.code = code) (hml : c.maxLocals = 7) (hown : s.vm.findClass RW = some m.cls) (hts : ∀ w ∈ tbG, w.before #[Value.ref b] s = true) (hX : va_X b L xs s s.heap) (hbl : b < s.heap.size) (hl0 : l.stackTraces = false) (hK : va_K D clX (tyZ ca cj cm) s) (hE : eX (aL s) s) (hN : eN s) (hL : eL t0 mi (aL s) s) (hret : meth.sig.returnType = ret) (hlk : meth.locks = false) (hLL : L ≤ 2560) (tt : Nat) (htt : tt ≤ 512) (NX : 5 * tt + 5 ≤ L → ∀ (ad : Nat → Nat → Nat) (σ : Sg) (f : Nat → Int64) (ρ : Sm), (sC σ = 0 → ad 9 0 = t0) → Rl (2000 * (tt + 1)) σ ρ → ∀ (H : Heap) (locs : List Loc), va_P D clX (wZ ca ad cj o cm am σ f ρ) H → va_D (aL s) (wZ ca ad cj o cm am σ f ρ) → va_S (aL s) s.heap H locs → ∀ ls : Array Slot, lv_has ls 7 [(0, .ref b), (1, .ref (ad 0 0)), (2, .ref (am 0 0)), (3, .ref o), (4, .int (nI (5 * (tt + 1))))] → W p l e room_1 s m #[Value.ref b] below meth c H locs (51 + 4 * (tt + 1)) (13856 + 3100 * (tt + 1)) (lw_Z below #[Value.ref b] s) (F0 m 23 ls [])) : ∀ (ad : Nat → Nat → Nat) (σ : Sg) (f : Nat → Int64) (ρ : Sm), (sC σ = 0 → ad 9 0 = t0) → Rl (2000 * (tt)) σ ρ → ∀ (H : Heap) (locs : List Loc), va_P D clX (wZ ca ad cj o cm am σ f ρ) H → va_D (aL s) (wZ ca ad cj o cm am σ f ρ) → va_S (aL s) s.heap H locs → ∀ ls : Array Slot, lv_has ls 7 [(0, .ref b), (1, .ref (ad 0 0)), (2, .ref (am 0 0)), (3, .ref o), (4, .int (nI (5 * (tt))))] → W p l e room_1 s m #[Value.ref b] below meth c H locs (51 + 4 * (tt)) (13856 + 3100 * (tt)) (lw_Z below #[Value.ref b] s) (F0 m 23 ls []) := by
  intro ad σ f ρ h9 hRl H locs hP hD hS ls hl
  have hbA : ¬ aL s b := Nat.not_le.mpr hbl
  refine lv_iload hx hb dLaw_23 (lv_at hl 4 rfl) ?_
  refine lv_aload_n hx hb dLaw_25 rfl (lv_at hl 0 rfl) ?_
  refine va_slen hx hb hX hbl hbA hS dLaw_26 ?_
  refine lv_iconst (v := 5) hx hb dLaw_27 (by decide) ?_
  refine lv_isub hx hb dLaw_28 ?_
  refine lv_icmp_gt (tgt := 906) hx hb dLaw_29 (by decide) (fun c1 => ?_) (fun c1 => ?_)
  · refine lv_iconst (v := 1) hx hb dLaw_906 (by decide) ?_
    refine va_forget (fun q hq => hS.2.2 q hq) ?_
    refine W.widen (k := 601024) (n := 7293034) (by omega) (by omega) ?_
    exact lw_ret hx hb hret hlk dLaw_907
  · have hin : 5 * tt + 5 ≤ L := by
      have e : (nI L - nI 5).toInt = (L : Int) - 5 := pk_sub_toInt (b := 5) (by omega) (by decide)
      have c1 : ¬ (nI L - nI 5) < nI (5 * tt) := c1
      rw [Int32.lt_iff_toInt_lt, e, iq_nI (by omega)] at c1
      omega
    have hi0 : vp_in (nI (5 * tt)) L := vp_in_nI (by omega) (by omega)
    have hi1 : vp_in (nI (5 * tt) + 1) L := by rw [nI_1]; exact vp_in_nI (by omega) (by omega)
    have hi2 : vp_in (nI (5 * tt) + 2) L := by rw [show nI (5 * tt) + 2 = nI (5 * tt + 2) from nI_add _ 2]; exact vp_in_nI (by omega) (by omega)
    have hi3 : vp_in (nI (5 * tt) + 3) L := by rw [show nI (5 * tt) + 3 = nI (5 * tt + 3) from nI_add _ 3]; exact vp_in_nI (by omega) (by omega)
    have hi4 : vp_in (nI (5 * tt) + 4) L := by rw [show nI (5 * tt) + 4 = nI (5 * tt + 4) from nI_add _ 4]; exact vp_in_nI (by omega) (by omega)
    have K : ∀ (ad : Nat → Nat → Nat) (σ : Sg) (f : Nat → Int64) (ρ : Sm), (sC σ = 0 → ad 9 0 = t0) → Rl (2000 * (tt + 1)) σ ρ → ∀ (H : Heap) (locs : List Loc), va_P D clX (wZ ca ad cj o cm am σ f ρ) H → va_D (aL s) (wZ ca ad cj o cm am σ f ρ) → va_S (aL s) s.heap H locs → ∀ ls : Array Slot, lv_has ls 7 [(0, .ref b), (1, .ref (ad 0 0)), (2, .ref (am 0 0)), (3, .ref o), (4, .int (nI (5 * tt)))] → W p l e room_1 s m #[Value.ref b] below meth c H locs (51 + 4 * (tt + 1)) (13856 + 3100 * (tt + 1)) (lw_Z below #[Value.ref b] s) (F0 m 900 ls []) := by
      intro ad σ f ρ h9 hRl H locs hP hD hS ls hl
      refine lv_iinc (v := nI (5 * tt) + 5) (lv' := [(4, .int (nI (5 * tt) + 5)), (0, .ref b), (1, .ref (ad 0 0)), (2, .ref (am 0 0)), (3, .ref o)]) hx hb dLaw_900 hl (k := 4) rfl rfl (by decide) rfl (fun ls hl => ?_)
      refine lv_goto (tgt := 23) hx hb dLaw_903 (by decide) ?_
      rw [show nI (5 * tt) + 5 = nI (5 * (tt + 1)) from nI_add _ 5] at hl
      exact NX hin ad σ f ρ h9 hRl H locs hP hD hS ls (lv_sub hl [1, 2, 3, 4, 0] rfl)
    refine lv_aload_n hx hb dLaw_32 rfl (lv_at hl 0 rfl) ?_
    refine lv_iload hx hb dLaw_33 (lv_at hl 4 rfl) ?_
    refine va_sld hx hb hX hbl hbA hS hi0 dLaw_35 ?_
    refine lv_bipush (v := 15) hx hb dLaw_36 (by decide) ?_
    refine lv_iand hx hb dLaw_38 ?_
    obtain ⟨z, hz, ez⟩ := pk_andE (xs (nI (5 * tt)).toNatClampNeg) (m := 15) 4 (by decide)
    rw [ez]
    by_cases z0 : z = 0
    · subst z0
      refine lv_tableIn (tgt := 100) hx hb dLaw_39 (by decide) (by decide) rfl (by decide) ?_
      exact k_feed hx hb hml hown hts hX hbl hl0 hK hE hN hL tt (by omega) (nI (5 * tt)) hi0 hi1 hi2 hi3 hi4 (nxt := fun σ _ ρ => Rl (2000 * (tt + 1)) σ ρ) K ad σ f ρ h9 (wk_feed (B := 2000 * tt) (by omega) hRl xs _ (fun _ _ _ h => h.wide (by omega))) H locs hP hD hS ls hl
    by_cases z1 : z = 1
    · subst z1
      refine lv_tableIn (tgt := 200) hx hb dLaw_39 (by decide) (by decide) rfl (by decide) ?_
      exact k_ask hx hb hml hown hts hX hbl hl0 hK hE hN hL tt (by omega) (nI (5 * tt)) hi0 hi1 hi2 hi3 hi4 (nxt := fun σ _ ρ => Rl (2000 * (tt + 1)) σ ρ) K ad σ f ρ h9 (wk_ask (B := 2000 * tt) (by omega) hRl xs _ (fun _ _ _ h => h.wide (by omega))) H locs hP hD hS ls hl
    by_cases z2 : z = 2
    · subst z2
      refine lv_tableIn (tgt := 292) hx hb dLaw_39 (by decide) (by decide) rfl (by decide) ?_
      exact k_giveUp hx hb hml hown hts hX hbl hl0 hK hE hN hL tt (by omega) (nI (5 * tt)) hi0 hi1 hi2 hi3 hi4 (nxt := fun σ _ ρ => Rl (2000 * (tt + 1)) σ ρ) K ad σ f ρ h9 (wk_giveUp (B := 2000 * tt) (by omega) hRl xs _ (fun _ _ _ h => h.wide (by omega))) H locs hP hD hS ls hl
    by_cases z3 : z = 3
    · subst z3
      refine lv_tableIn (tgt := 355) hx hb dLaw_39 (by decide) (by decide) rfl (by decide) ?_
      exact k_reply hx hb hml hown hts hX hbl hl0 hK hE hN hL tt (by omega) (nI (5 * tt)) hi0 hi1 hi2 hi3 hi4 (nxt := fun σ _ ρ => Rl (2000 * (tt + 1)) σ ρ) K ad σ f ρ h9 (wk_reply (B := 2000 * tt) (by omega) hRl xs _ (fun _ _ _ h => h.wide (by omega))) H locs hP hD hS ls hl
    by_cases z4 : z = 4
    · subst z4
      refine lv_tableIn (tgt := 454) hx hb dLaw_39 (by decide) (by decide) rfl (by decide) ?_
      exact k_tick hx hb hml hown hts hX hbl hl0 hK hE hN hL tt (by omega) (nI (5 * tt)) hi0 hi1 hi2 hi3 hi4 (nxt := fun σ _ ρ => Rl (2000 * (tt + 1)) σ ρ) K ad σ f ρ h9 (wk_tick (B := 2000 * tt) (by omega) hRl xs _ (fun _ _ _ h => h.wide (by omega))) H locs hP hD hS ls hl
    by_cases z5 : z = 5
    · subst z5
      refine lv_tableIn (tgt := 510) hx hb dLaw_39 (by decide) (by decide) rfl (by decide) ?_
      exact k_client hx hb hml hown hts hX hbl hl0 hK hE hN hL tt (by omega) (nI (5 * tt)) hi0 hi1 hi2 hi3 hi4 (nxt := fun σ _ ρ => Rl (2000 * (tt + 1)) σ ρ) K ad σ f ρ h9 (wk_client (B := 2000 * tt) (by omega) hRl xs _ (fun _ _ _ h => h.wide (by omega))) H locs hP hD hS ls hl
    by_cases z6 : z = 6
    · subst z6
      refine lv_tableIn (tgt := 578) hx hb dLaw_39 (by decide) (by decide) rfl (by decide) ?_
      exact k_request hx hb hml hown hts hX hbl hl0 hK hE hN hL tt (by omega) (nI (5 * tt)) hi0 hi1 hi2 hi3 hi4 (nxt := fun σ _ ρ => Rl (2000 * (tt + 1)) σ ρ) K ad σ f ρ h9 (wk_request (B := 2000 * tt) (by omega) hRl xs _ (fun _ _ _ h => h.wide (by omega))) H locs hP hD hS ls hl
    by_cases z7 : z = 7
    · subst z7
      refine lv_tableIn (tgt := 615) hx hb dLaw_39 (by decide) (by decide) rfl (by decide) ?_
      exact k_dataAt hx hb hml hown hts hX hbl hl0 hK hE hN hL tt (by omega) (nI (5 * tt)) hi0 hi1 hi2 hi3 hi4 (nxt := fun σ _ ρ => Rl (2000 * (tt + 1)) σ ρ) K ad σ f ρ h9 (wk_dataAt (B := 2000 * tt) (by omega) hRl xs _ (fun _ _ _ h => h.wide (by omega))) H locs hP hD hS ls hl
    by_cases z8 : z = 8
    · subst z8
      refine lv_tableIn (tgt := 683) hx hb dLaw_39 (by decide) (by decide) rfl (by decide) ?_
      exact k_answer hx hb hml hown hts hX hbl hl0 hK hE hN hL tt (by omega) (nI (5 * tt)) hi0 hi1 hi2 hi3 hi4 (nxt := fun σ _ ρ => Rl (2000 * (tt + 1)) σ ρ) K ad σ f ρ h9 (wk_answer (B := 2000 * tt) (by omega) hRl xs _ (fun _ _ _ h => h.wide (by omega))) H locs hP hD hS ls hl
    by_cases z9 : z = 9
    · subst z9
      refine lv_tableIn (tgt := 739) hx hb dLaw_39 (by decide) (by decide) rfl (by decide) ?_
      exact k_answerAt hx hb hml hown hts hX hbl hl0 hK hE hN hL tt (by omega) (nI (5 * tt)) hi0 hi1 hi2 hi3 hi4 (nxt := fun σ _ ρ => Rl (2000 * (tt + 1)) σ ρ) K ad σ f ρ h9 (wk_answerAt (B := 2000 * tt) (by omega) hRl xs _ (fun _ _ _ h => h.wide (by omega))) H locs hP hD hS ls hl
    by_cases z10 : z = 10
    · subst z10
      refine lv_tableIn (tgt := 807) hx hb dLaw_39 (by decide) (by decide) rfl (by decide) ?_
      exact k_history hx hb hml hown hts hX hbl hl0 hK hE hN hL tt (by omega) (nI (5 * tt)) hi0 hi1 hi2 hi3 hi4 (nxt := fun σ _ ρ => Rl (2000 * (tt + 1)) σ ρ) K ad σ f ρ h9 (wk_history (B := 2000 * tt) (by omega) hRl xs _ (fun _ _ _ h => h.wide (by omega))) H locs hP hD hS ls hl
    by_cases z11 : z = 11
    · subst z11
      refine lv_tableIn (tgt := 875) hx hb dLaw_39 (by decide) (by decide) rfl (by decide) ?_
      exact k_count hx hb hml hown hts hX hbl hl0 hK hE hN hL tt (by omega) (nI (5 * tt)) hi0 hi1 hi2 hi3 hi4 (nxt := fun σ _ ρ => Rl (2000 * (tt + 1)) σ ρ) K ad σ f ρ h9 (wk_count (B := 2000 * tt) (by omega) hRl xs _ (fun _ _ _ h => h.wide (by omega))) H locs hP hD hS ls hl
    refine lv_tableOut (tgt := 900) hx hb dLaw_39 (Or.inr (by rw [iq_nI (by omega)]; omega)) (by decide) ?_
    refine W.widen (k := 51 + 4 * (tt + 1)) (n := 13856 + 3100 * (tt + 1)) (by omega) (by omega) ?_
    exact K ad σ f ρ h9 (hRl.wide (by omega)) H locs hP hD hS ls hl
theorem law_loop {p : Program} {l : Launch} {e : Env} {s : State} {m : MethodId} {below : List Frame} {meth : Method} {c : Code} {D : va_G} {ca cm : Nat → ClassId} {cj : ClassId} {am : Nat → Nat → Nat} {o t0 mi b L : Nat} {xs : Nat → Int32} (hx : p.tables.exec = Jvm.exec) (hb : c.code = code) (hml : c.maxLocals = 7) (hown : s.vm.findClass RW = some m.cls) (hts : ∀ w ∈ tbG, w.before #[Value.ref b] s = true) (hX : va_X b L xs s s.heap) (hbl : b < s.heap.size) (hl0 : l.stackTraces = false) (hK : va_K D clX (tyZ ca cj cm) s) (hE : eX (aL s) s) (hN : eN s) (hL : eL t0 mi (aL s) s) (hret : meth.sig.returnType = ret) (hlk : meth.locks = false) (hLL : L ≤ 2560) : ∀ (d tt : Nat), tt + d = 512 → ∀ (ad : Nat → Nat → Nat) (σ : Sg) (f : Nat → Int64) (ρ : Sm), (sC σ = 0 → ad 9 0 = t0) → Rl (2000 * (tt)) σ ρ → ∀ (H : Heap) (locs : List Loc), va_P D clX (wZ ca ad cj o cm am σ f ρ) H → va_D (aL s) (wZ ca ad cj o cm am σ f ρ) → va_S (aL s) s.heap H locs → ∀ ls : Array Slot, lv_has ls 7 [(0, .ref b), (1, .ref (ad 0 0)), (2, .ref (am 0 0)), (3, .ref o), (4, .int (nI (5 * (tt))))] → W p l e room_1 s m #[Value.ref b] below meth c H locs (51 + 4 * (tt)) (13856 + 3100 * (tt)) (lw_Z below #[Value.ref b] s) (F0 m 23 ls []) := by
  intro d
  induction d with
  | zero =>
    intro tt e
    exact law_head hx hb hml hown hts hX hbl hl0 hK hE hN hL hret hlk hLL tt (by omega) (fun h => by omega)
  | succ d ih =>
    intro tt e
    exact law_head hx hb hml hown hts hX hbl hl0 hK hE hN hL hret hlk hLL tt (by omega) (fun _ => ih (tt + 1) (by omega))
