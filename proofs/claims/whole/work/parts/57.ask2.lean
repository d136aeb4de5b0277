/-- ask: as SimI; where it answers, the list has its cells -/
def SimA (B : Nat) (σ : Sg) (Wc : (Int32 → Sg → Prop) → (String → Sg → Prop) → Prop) (Wm : (Int32 → Sm → Prop) → Prop) (co : String → Int32 → Prop) : Prop :=
  (∃ (r : Int32) (σ' : Sg) (ρ' : Sm), (∀ (post : Int32 → Sg → Prop) (px : String → Sg → Prop), post r σ' → Wc post px) ∧ (∀ post : Int32 → Sm → Prop, post r ρ' → Wm post) ∧ mG ρ' 0 = 0 ∧ Rl B σ' ρ' ∧ sC σ' ≠ 0) ∨
  (∃ (E : String) (k b : Int32) (σ' : Sg) (ρ' : Sm), (∀ (post : Int32 → Sg → Prop) (px : String → Sg → Prop), px E σ' → Wc post px) ∧ (∀ post : Int32 → Sm → Prop, post b ρ' → Wm post) ∧ mG ρ' 0 = k ∧ ¬ k = 0 ∧ co E k ∧ Rl B σ' ρ' ∧ sC σ' = sC σ)
/-- the class's state behind the list's add -/
def As5 (σ : Sg) (a0 a1 : Int32) (s5 : Sg) : Prop := (∀ k i, sF s5 k i = sF σ k i) ∧ (∀ i, sR s5 i = sR σ i) ∧ (∀ k i, sB s5 k i = sB σ k i) ∧ (∀ k, sA s5 k = sA σ k) ∧ sG s5 0 = 0 ∧ sG s5 1 = sG σ 1 ∧ sG s5 2 = sG σ 2 + 1 ∧ sG s5 3 = sG σ 3 ∧ sG s5 4 = sG σ 4 ∧ sG s5 6 = nI (sN σ + 1) ∧ sN s5 = sN σ + 1 ∧ (sN σ + 1 ≤ sC s5 ∧ sC s5 ≤ 1900) ∧ (∀ j, j < sN σ + 1 → sK s5 j = some j) ∧ (∀ i j, sK s5 i = some j → j < sN σ + 1) ∧ (∀ k j, j < sN σ → sH s5 k j = sH σ k j) ∧ sH s5 0 (sN σ) = a0 ∧ sH s5 1 (sN σ) = a1 ∧ sH s5 2 (sN σ) = sG σ 2 ∧ sH s5 3 (sN σ) = -1 ∧ sH s5 4 (sN σ) = 0 ∧ sH s5 5 (sN σ) = -1
theorem as4 {σ : Sg} {a0 a1 : Int32} {N : Nat} (hN : sN σ = N) {s1 s4 : Sg} (e1 : s1 = uG 2 (sG σ 2 + 1) (nQ (uG 0 0 σ))) (h4 : s4 = uH 2 N (sG σ 2) (uH 1 N a1 (uH 0 N a0 (uH 5 N (-1) (uH 4 N 0 (uH 3 N (-1) s1)))))) : (∀ k i, sF s4 k i = sF σ k i) ∧ (∀ i, sR s4 i = sR σ i) ∧ (∀ k i, sB s4 k i = sB σ k i) ∧ (∀ k, sA s4 k = sA σ k) ∧ sG s4 0 = 0 ∧ sG s4 1 = sG σ 1 ∧ sG s4 2 = sG σ 2 + 1 ∧ sG s4 3 = sG σ 3 ∧ sG s4 4 = sG σ 4 ∧ sG s4 6 = sG σ 6 ∧ sN s4 = N + 1 ∧ sC s4 = sC σ ∧ sK s4 = sK σ ∧ (∀ k j, j < N → sH s4 k j = sH σ k j) ∧ sH s4 0 N = a0 ∧ sH s4 1 N = a1 ∧ sH s4 2 N = sG σ 2 ∧ sH s4 3 N = -1 ∧ sH s4 4 N = 0 ∧ sH s4 5 N = -1 := by
  have g1 : ∀ k j, j < N → sH s1 k j = sH σ k j := by
    intro k j hj
    subst e1
    show (if j = sN σ then 0 else sH σ k j) = _
    rw [if_neg (by omega)]
  have g2 : (∀ k i, sF s1 k i = sF σ k i) ∧ (∀ i, sR s1 i = sR σ i) ∧ (∀ k i, sB s1 k i = sB σ k i) ∧ (∀ k, sA s1 k = sA σ k) ∧ sG s1 0 = 0 ∧ sG s1 1 = sG σ 1 ∧ sG s1 2 = sG σ 2 + 1 ∧ sG s1 3 = sG σ 3 ∧ sG s1 4 = sG σ 4 ∧ sG s1 6 = sG σ 6 ∧ sN s1 = N + 1 ∧ sC s1 = sC σ ∧ sK s1 = sK σ := by
    subst e1; subst hN
    exact ⟨fun _ _ => rfl, fun _ => rfl, fun _ _ => rfl, fun _ => rfl, rfl, rfl, rfl, rfl, rfl, rfl, rfl, rfl, rfl⟩
  obtain ⟨f1, f2, f3, f4, f5, f6, f7, f8, f9, f10, f11, f12, f13⟩ := g2
  clear e1
  subst h4
  refine ⟨f1, f2, f3, f4, f5, f6, f7, f8, f9, f10, f11, f12, f13, fun k j hj => ?_, ?_, ?_, ?_, ?_, ?_, ?_⟩
  · have ne : ¬ j = N := by omega
    simp [q_HH, ne, g1 k j hj]
  all_goals simp [q_HH]
theorem as5 {B : Nat} {σ : Sg} {ρ : Sm} (hr : Rr B σ ρ) (hN : sN σ ≤ 1023) (a0 a1 x : Int32) {s1 s4 : Sg} (e1 : s1 = uG 2 (sG σ 2 + 1) (nQ (uG 0 0 σ))) (h4 : s4 = uH 2 (sN σ) (sG σ 2) (uH 1 (sN σ) a1 (uH 0 (sN σ) a0 (uH 5 (sN σ) (-1) (uH 4 (sN σ) 0 (uH 3 (sN σ) (-1) s1)))))) : As5 σ a0 a1 (aR (uG 5 x s4) (sN σ)) := by
  obtain ⟨f1, f2, f3, f4, f5, f6, f7, f8, f9, f10, f11, f12, f13, f14, f15, f16, f17, f18, f19, f20⟩ := as4 rfl e1 h4
  clear h4
  obtain ⟨C, K, e, e1, e2, e3, e4⟩ := aR_ok (σ := uG 5 x s4) (N := sN σ) (f10.trans hr.askN) hN (by show sC s4 ≤ _; rw [f12]; exact hr.cB) (by show _ ≤ sC s4; rw [f12]; exact hr.nC) (fun j hj => by show sK s4 j = _; rw [f13]; exact hr.lst j hj) (fun i j q => hr.lsB i j (by rw [← f13]; exact q))
  rw [e]
  exact ⟨f1, f2, f3, f4, f5, f6, f7, f8, f9, rfl, f11, ⟨e1, e2⟩, e3, e4, f14, f15, f16, f17, f18, f19, f20⟩
theorem sim_ask {B : Nat} {σ : Sg} {ρ : Sm} (hB : B < 900000000) (h : Rl B σ ρ) (a0 a1 a2 a3 : Int32) : SimA (B + 2) σ (fun post px => wp_ask post px σ a0 a1 a2 a3) (fun post => wp_m_ask post ρ a0 a1 a2 a3) (fun E k => (E = "java/lang/IndexOutOfBoundsException" ∧ k = 1) ∨ (E = "java/lang/IllegalArgumentException" ∧ k = 2) ∨ (E = "java/lang/IllegalStateException" ∧ k = 3)) := by
  have h1 : Rl B (uG 0 0 σ) (vG 6 0 (vG 0 0 ρ)) := (h.th 0).tp (by decide)
  rcases ix8 a0 with ha | ⟨c, hc, rfl⟩
  · exact Or.inr ⟨_, 1, 0, uG 0 0 σ, vG 0 1 (vG 6 0 (vG 0 0 ρ)), fun post px hp => tk (po_n ha hp), fun post hp => ic_n ha ⟨fun e => absurd rfl e, fun _ => hp⟩, rfl, by decide, Or.inl ⟨rfl, rfl⟩, (h1.th 1).wide (by omega), rfl⟩
  by_cases ok : okA a1 a2 a3 (sG σ 0 - a2 - a3)
  case neg =>
    exact Or.inr ⟨_, 2, 0, uG 0 0 σ, vG 0 2 (vG 6 0 (vG 0 0 ρ)), fun post px hp => tk (po_y hc ⟨c, rfl, hc, cba (fun q => absurd q ok) (fun _ => ⟨fun e => absurd rfl e, fun _ => hp⟩)⟩), fun post hp => ic_y hc ⟨fun _ => mfit (fun q => absurd (by rw [h.1.tape]; exact q) ok) (fun _ => ⟨fun e => absurd rfl e, fun _ => hp⟩), fun e => absurd e (by decide)⟩, rfl, by decide, Or.inr (Or.inl ⟨rfl, rfl⟩), (h1.th 2).wide (by omega), rfl⟩
  have ok2 : okA a1 a2 a3 (mG ρ 6 - a2 - a3) := by rw [← h.1.tape]; exact ok
  have hr := h1.1
  have hN : sN σ ≤ 1024 := hr.nB
  have hi6 : sG (uG 0 0 σ) 6 = nI (sN σ) := hr.askN
  have hm5 : mG (vG 6 0 (vG 0 0 ρ)) 5 = nI (sN σ) := by rw [← hr.asked]; exact hi6
  -- both roads up to the question whether it may be asked
  have cp : ∀ (post : Int32 → Sg → Prop) (px : String → Sg → Prop), wp_waits (fun r14 s13 => ((¬ (r14 = 0) → px "java/lang/IllegalStateException" s13) ∧ ((r14 = 0) → (((sG (uG 0 0 σ) 6 < 1024) → (NewOk s13 ∧ (sC s13 = 0 → sC σ = 0) ∧ wpc_ask_N73 post px (nQ s13) c (sN s13) (nI c) a1 (sG σ 0) (sG (uG 0 0 σ) 6))) ∧ (¬ (sG (uG 0 0 σ) 6 < 1024) → px "java/lang/IllegalStateException" s13))))) (uG 0 0 σ) c → wp_ask post px σ (nI c) a1 a2 a3 := fun post px G => tk (po_y hc ⟨c, rfl, hc, cba (fun _ => ⟨fun _ => G, fun e => absurd e (by decide)⟩) (fun q => absurd ok q)⟩)
  by_cases hlt : sN σ < 1024
  case neg =>
    have hge : ¬ sG (uG 0 0 σ) 6 < 1024 := by rw [hi6]; exact nI_nlt (b := 1024) (by omega) (by omega)
    have e24 : mG (vG 6 0 (vG 0 0 ρ)) 5 = 1024 := by rw [hm5, show sN σ = 1024 by omega]; rfl
    refine Or.inr ⟨_, 3, 0, uG 0 0 σ, vG 0 3 (vG 6 0 (vG 0 0 ρ)), fun post px hp => cp post px ?_, fun post hp => ic_y hc ⟨fun _ => mfit (fun _ => ⟨fun _ => ⟨in8 hc, fun _ => hp, fun _ => ⟨fun e => absurd e24 e, fun _ => hp⟩⟩, fun e => absurd e (by decide)⟩) (fun q => absurd ok2 q), fun e => absurd e (by decide)⟩, rfl, by decide, Or.inr (Or.inr ⟨rfl, rfl⟩), (h1.th 3).wide (by omega), rfl⟩
    rcases h1.2 c hc with hi | ⟨j, hT, hA⟩
    · exact wt_no hi.1 ⟨fun e => absurd rfl e, fun _ => ⟨fun e => absurd e hge, fun _ => hp⟩⟩
    · exact wt_yes hT.1 hT.2.1 ⟨fun _ => hp, fun e => absurd e (by decide)⟩
  have hlt' : sG (uG 0 0 σ) 6 < 1024 := by rw [hi6]; exact nI_lt (b := 1024) hlt (by decide)
  have n24 : ¬ mG (vG 6 0 (vG 0 0 ρ)) 5 = 1024 := by
    rw [hm5]; intro e
    have := (nI_eq (a := sN σ) (b := 1024) (by omega) (by decide)).mp e
    omega
  rcases h1.2 c hc with hi | ⟨j, hT, hA⟩
  case inr =>
    have hw : ¬ mA (vG 6 0 (vG 0 0 ρ)) 1 c = 0 := by rw [hT.2.2.1]; decide
    refine Or.inr ⟨_, 3, 0, uG 0 0 σ, vG 0 3 (vG 6 0 (vG 0 0 ρ)), fun post px hp => cp post px (wt_yes hT.1 hT.2.1 ⟨fun _ => hp, fun e => absurd e (by decide)⟩), fun post hp => ic_y hc ⟨fun _ => mfit (fun _ => ⟨fun _ => ⟨in8 hc, fun _ => hp, fun e => ?_⟩, fun e => absurd e (by decide)⟩) (fun q => absurd ok2 q), fun e => absurd e (by decide)⟩, rfl, by decide, Or.inr (Or.inr ⟨rfl, rfl⟩), (h1.th 3).wide (by omega), rfl⟩
    rw [cl8 hc] at e; exact absurd e hw
  -- it is asked
  obtain ⟨m, hm, em⟩ := okA_n ok h.1.tapeB
  have em' : mG ρ 6 = nI m := by rw [← h.1.tape]; exact em
  have ht := okA_t ok
  obtain ⟨s1, hs1⟩ : ∃ s1, s1 = uG 2 (sG σ 2 + 1) (nQ (uG 0 0 σ)) := ⟨_, rfl⟩
  obtain ⟨s4, hs4⟩ : ∃ s4, s4 = uH 2 (sN σ) (sG σ 2) (uH 1 (sN σ) a1 (uH 0 (sN σ) (nI c) (uH 5 (sN σ) (-1) (uH 4 (sN σ) 0 (uH 3 (sN σ) (-1) s1))))) := ⟨_, rfl⟩
  have h5 := as5 h.1 (by omega) (nI c) a1 (sG s4 5 + 1) hs1 hs4
  obtain ⟨s5, hs5⟩ : ∃ s5, s5 = aR (uG 5 (sG s4 5 + 1) s4) (sN σ) := ⟨_, rfl⟩
  rw [← hs5] at h5
  obtain ⟨f1, f2, f3, f4, f5, f6, f7, f8, f9, f10, f11, f12, f13, f14, f15, f16, f17, f18, f19, f20, f21⟩ := h5
  obtain ⟨W1, hW1⟩ : ∃ w : Nat → Int32, ∀ q, w q = if q < m then vp_nar .byte (sA σ 0 q) else sB σ 0 c q := ⟨_, fun q => rfl⟩
  obtain ⟨H6, hH6⟩ : ∃ w : Nat → Int32, w = upd (upd (upd (upd (upd (upd (mA ρ 18) (6 * sN σ) (nI c)) (6 * sN σ + 1) a1) (6 * sN σ + 2) (mG ρ 2)) (6 * sN σ + 3) (-1)) (6 * sN σ + 4) 0) (6 * sN σ + 5) (-1) := ⟨_, rfl⟩
  obtain ⟨ρ2, hρ2⟩ : ∃ r : Sm, r = vG 5 (nI (sN σ) + 1) (vA 9 (upd (mA ρ 9) c (nI (sN σ))) (vG 2 (mG ρ 2 + 1) (vA 18 H6 (vG 6 0 (vG 0 0 ρ))))) := ⟨_, rfl⟩
  obtain ⟨W2, hW2⟩ : ∃ w : Nat → Int32, ∀ q, w q = if 240 * c ≤ q ∧ q < 240 * c + m then mA ρ 0 (q - 240 * c) else mA ρ 14 q := ⟨_, fun q => rfl⟩
  obtain ⟨σ2, hσ2⟩ : ∃ s : Sg, s = uF 3 c (nI m) (uB 0 c W1 (uF 11 c 0 (uF 6 c a1 (uR c (some (sN σ)) s5)))) := ⟨_, rfl⟩
  obtain ⟨ρ3, hρ3⟩ : ∃ r : Sm, r = vA 6 (upd (mA ρ2 6) c 0) (vA 1 (upd (mA ρ2 1) c 1) (vA 8 (upd (mA ρ2 8) c a1) (vA 13 (upd (mA ρ2 13) c (nI m)) (vA 14 W2 ρ2)))) := ⟨_, rfl⟩
  have hcl := h1.1.cl c hc
  have hmm : sG σ 2 = mG ρ 2 := h.1.mom
  have hR : Rt B σ2 ρ3 c := by
    subst hσ2 hρ3 hρ2
    refine ⟨⟨f5, ?_, f6.trans h.1.now, ?_, ?_, f8.trans h.1.made, ?_, f9.trans h.1.tot, ?_, ?_, ?_, ?_, f12.2, ?_, ?_, ?_, ?_, ?_, ?_, ?_⟩, ?_⟩
    · show 0 ≤ (sG s5 0).toInt ∧ (sG s5 0).toInt ≤ 240
      rw [f5]; decide
    · show 0 ≤ (sG s5 1).toInt ∧ (sG s5 1).toInt ≤ B
      rw [f6]; exact h.1.nowB
    · show sG s5 2 = mG ρ 2 + 1
      rw [f7, hmm]
    · show 0 ≤ (sG s5 3).toInt ∧ (sG s5 3).toInt ≤ B
      rw [f8]; exact h.1.madeB
    · show 0 ≤ (sG s5 4).toInt ∧ (sG s5 4).toInt ≤ B
      rw [f9]; exact h.1.totB
    · show sG s5 6 = nI (sN σ) + 1
      rw [f10, nI_1]
    · show sG s5 6 = nI (sN s5)
      rw [f10, f11]
    · show sN s5 ≤ 1024
      rw [f11]; omega
    · show sN s5 ≤ sC s5
      rw [f11]; exact f12.1
    · intro q hq
      show sA s5 0 q &&& 255 = mA ρ 0 q
      rw [f4]; exact h.1.fed q hq
    · intro q hq
      show sA s5 1 q = mA ρ 17 q
      rw [f4]; exact h.1.log q hq
    · intro j hj
      have hj : j < sN s5 := hj
      rw [f11] at hj
      exact f13 j hj
    · intro i j e
      show j < sN s5
      rw [f11]; exact f14 i j e
    · intro j hj k hk
      have hj : j < sN s5 := hj
      rw [f11] at hj
      show sH s5 k j = H6 (6 * j + k)
      rw [hH6]
      by_cases ej : j = sN σ
      · rw [ej]
        match k, hk with
        | 0, _ => rw [f16]; simp [q_upd]
        | 1, _ => rw [f17]; simp [q_upd]
        | 2, _ => rw [f18, hmm]; simp [q_upd]
        | 3, _ => rw [f19]; simp [q_upd]
        | 4, _ => rw [f20]; simp [q_upd]
        | 5, _ => rw [f21]; simp [q_upd]
      · rw [f15 k j (by omega), h.1.his j (by omega) k hk]
        simp only [q_upd]
        rw [if_neg (by omega), if_neg (by omega), if_neg (by omega), if_neg (by omega), if_neg (by omega), if_neg (by omega)]
    · intro i hi'
      by_cases e : i = c
      · subst e
        refine ⟨(f1 0 i).trans hcl.idx, (f1 7 i).trans hcl.tgt, ?_, (f1 8 i).trans hcl.ses, ?_, (f1 9 i).trans hcl.ser, (f1 10 i).trans hcl.num, ?_, (f1 12 i).trans hcl.opn, ?_, ?_, ?_, ?_, ?_, ?_, (f1 4 i).trans hcl.asz, ?_, ?_⟩
        · show 0 ≤ (sF s5 7 i).toInt ∧ (sF s5 7 i).toInt < 7
          rw [f1]; exact hcl.tgtB
        · show sF s5 8 i = -1 ∨ 0 ≤ (sF s5 8 i).toInt
          rw [f1]; exact hcl.sesB
        · simp [q_GG, q_FF, q_RR, q_BB, q_AA, q_HH, q_GF, q_GR, q_GB, q_GA, q_GH, q_FG, q_FR, q_FB, q_FA, q_FH, q_RG, q_RF, q_RB, q_RA, q_RH, q_BG, q_BF, q_BR, q_BA, q_BH, q_AG, q_AF, q_AR, q_AB, q_AH, q_HG, q_HF, q_HR, q_HB, q_HA, q_NG, q_NF, q_NR, q_NB, q_NA, q_NH, q_CG, q_CF, q_CR, q_CB, q_CA, q_CH, q_KG, q_KF, q_KR, q_KB, q_KA, q_KH, q_mGG, q_mGA, q_mAA, q_mAG, q_upd, *]
        · show sF s5 12 i = 0 ∨ sF s5 12 i = 1
          rw [f1]; exact hcl.opnB
        · simp [q_GG, q_FF, q_RR, q_BB, q_AA, q_HH, q_GF, q_GR, q_GB, q_GA, q_GH, q_FG, q_FR, q_FB, q_FA, q_FH, q_RG, q_RF, q_RB, q_RA, q_RH, q_BG, q_BF, q_BR, q_BA, q_BH, q_AG, q_AF, q_AR, q_AB, q_AH, q_HG, q_HF, q_HR, q_HB, q_HA, q_NG, q_NF, q_NR, q_NB, q_NA, q_NH, q_CG, q_CF, q_CR, q_CB, q_CA, q_CH, q_KG, q_KF, q_KR, q_KB, q_KA, q_KH, q_mGG, q_mGA, q_mAA, q_mAG, q_upd, *]
        · have : sF (uF 3 i (nI m) (uB 0 i W1 (uF 11 i 0 (uF 6 i a1 (uR i (some (sN σ)) s5))))) 6 i = a1 := by simp [q_GG, q_FF, q_RR, q_BB, q_AA, q_HH, q_GF, q_GR, q_GB, q_GA, q_GH, q_FG, q_FR, q_FB, q_FA, q_FH, q_RG, q_RF, q_RB, q_RA, q_RH, q_BG, q_BF, q_BR, q_BA, q_BH, q_AG, q_AF, q_AR, q_AB, q_AH, q_HG, q_HF, q_HR, q_HB, q_HA, q_NG, q_NF, q_NR, q_NB, q_NA, q_NH, q_CG, q_CF, q_CR, q_CB, q_CA, q_CH, q_KG, q_KF, q_KR, q_KB, q_KA, q_KH, q_mGG, q_mGA, q_mAA, q_mAG, q_upd, *]
          rw [this]; exact ht
        · simp [q_GG, q_FF, q_RR, q_BB, q_AA, q_HH, q_GF, q_GR, q_GB, q_GA, q_GH, q_FG, q_FR, q_FB, q_FA, q_FH, q_RG, q_RF, q_RB, q_RA, q_RH, q_BG, q_BF, q_BR, q_BA, q_BH, q_AG, q_AF, q_AR, q_AB, q_AH, q_HG, q_HF, q_HR, q_HB, q_HA, q_NG, q_NF, q_NR, q_NB, q_NA, q_NH, q_CG, q_CF, q_CR, q_CB, q_CA, q_CH, q_KG, q_KF, q_KR, q_KB, q_KA, q_KH, q_mGG, q_mGA, q_mAA, q_mAG, q_upd, *]
        · have : sF (uF 3 i (nI m) (uB 0 i W1 (uF 11 i 0 (uF 6 i a1 (uR i (some (sN σ)) s5))))) 3 i = nI m := by simp [q_GG, q_FF, q_RR, q_BB, q_AA, q_HH, q_GF, q_GR, q_GB, q_GA, q_GH, q_FG, q_FR, q_FB, q_FA, q_FH, q_RG, q_RF, q_RB, q_RA, q_RH, q_BG, q_BF, q_BR, q_BA, q_BH, q_AG, q_AF, q_AR, q_AB, q_AH, q_HG, q_HF, q_HR, q_HB, q_HA, q_NG, q_NF, q_NR, q_NB, q_NA, q_NH, q_CG, q_CF, q_CR, q_CB, q_CA, q_CH, q_KG, q_KF, q_KR, q_KB, q_KA, q_KH, q_mGG, q_mGA, q_mAA, q_mAG, q_upd, *]
          rw [this, iq_nI (by omega)]; omega
        · intro q hq
          have e1 : sB (uF 3 i (nI m) (uB 0 i W1 (uF 11 i 0 (uF 6 i a1 (uR i (some (sN σ)) s5))))) 0 i = W1 := by simp [q_GG, q_FF, q_RR, q_BB, q_AA, q_HH, q_GF, q_GR, q_GB, q_GA, q_GH, q_FG, q_FR, q_FB, q_FA, q_FH, q_RG, q_RF, q_RB, q_RA, q_RH, q_BG, q_BF, q_BR, q_BA, q_BH, q_AG, q_AF, q_AR, q_AB, q_AH, q_HG, q_HF, q_HR, q_HB, q_HA, q_NG, q_NF, q_NR, q_NB, q_NA, q_NH, q_CG, q_CF, q_CR, q_CB, q_CA, q_CH, q_KG, q_KF, q_KR, q_KB, q_KA, q_KH, q_mGG, q_mGA, q_mAA, q_mAG, q_upd, *]
          rw [e1]
          show W1 q &&& 255 = W2 (240 * i + q)
          rw [hW1, hW2]
          by_cases hqm : q < m
          · rw [if_pos hqm, if_pos (by omega), vp_nar_byte, fb_8, show 240 * i + q - 240 * i = q by omega]
            exact h.1.fed q (by omega)
          · rw [if_neg hqm, if_neg (by omega)]
            exact hcl.dat q hq
        · show 0 ≤ (sF s5 4 i).toInt ∧ (sF s5 4 i).toInt ≤ 134
          rw [f1]; exact hcl.aszB
        · intro q hq
          have e1 : sB (uF 3 i (nI m) (uB 0 i W1 (uF 11 i 0 (uF 6 i a1 (uR i (some (sN σ)) s5))))) 1 i = sB s5 1 i := by simp [q_GG, q_FF, q_RR, q_BB, q_AA, q_HH, q_GF, q_GR, q_GB, q_GA, q_GH, q_FG, q_FR, q_FB, q_FA, q_FH, q_RG, q_RF, q_RB, q_RA, q_RH, q_BG, q_BF, q_BR, q_BA, q_BH, q_AG, q_AF, q_AR, q_AB, q_AH, q_HG, q_HF, q_HR, q_HB, q_HA, q_NG, q_NF, q_NR, q_NB, q_NA, q_NH, q_CG, q_CF, q_CR, q_CB, q_CA, q_CH, q_KG, q_KF, q_KR, q_KB, q_KA, q_KH, q_mGG, q_mGA, q_mAA, q_mAG, q_upd, *]
          rw [e1, f3]
          exact hcl.ans q hq
      · refine (h.1.cl i hi').congr (fun k _ => ?_) (fun k q => ?_) (fun k hk => by (simp only [q_mAAi, q_mAG, q_upd]; (repeat' split) <;> (first | rfl | (subst_vars; rfl) | (subst_vars; contradiction) | (subst_vars; simp_all)))) (fun q hq => ?_) (fun q hq => rfl)
        · rw [← f1 k i]; simp [q_GG, q_FF, q_RR, q_BB, q_AA, q_HH, q_GF, q_GR, q_GB, q_GA, q_GH, q_FG, q_FR, q_FB, q_FA, q_FH, q_RG, q_RF, q_RB, q_RA, q_RH, q_BG, q_BF, q_BR, q_BA, q_BH, q_AG, q_AF, q_AR, q_AB, q_AH, q_HG, q_HF, q_HR, q_HB, q_HA, q_NG, q_NF, q_NR, q_NB, q_NA, q_NH, q_CG, q_CF, q_CR, q_CB, q_CA, q_CH, q_KG, q_KF, q_KR, q_KB, q_KA, q_KH, q_mGG, q_mGA, q_mAA, q_mAG, q_upd, *]
        · rw [← f3 k i]; simp [q_GG, q_FF, q_RR, q_BB, q_AA, q_HH, q_GF, q_GR, q_GB, q_GA, q_GH, q_FG, q_FR, q_FB, q_FA, q_FH, q_RG, q_RF, q_RB, q_RA, q_RH, q_BG, q_BF, q_BR, q_BA, q_BH, q_AG, q_AF, q_AR, q_AB, q_AH, q_HG, q_HF, q_HR, q_HB, q_HA, q_NG, q_NF, q_NR, q_NB, q_NA, q_NH, q_CG, q_CF, q_CR, q_CB, q_CA, q_CH, q_KG, q_KF, q_KR, q_KB, q_KA, q_KH, q_mGG, q_mGA, q_mAA, q_mAG, q_upd, *]
        · show W2 (240 * i + q) = mA ρ 14 (240 * i + q)
          rw [hW2, if_neg (by omega)]
    · intro i hi' e
      refine (h.2 i hi').congr ?_ ?_ ?_ (fun k _ => ?_) (fun k hk => by (simp only [q_mAAi, q_mAG, q_upd]; (repeat' split) <;> (first | rfl | (subst_vars; rfl) | (subst_vars; contradiction) | (subst_vars; simp_all))))
      · rw [← f2 i]; simp [q_GG, q_FF, q_RR, q_BB, q_AA, q_HH, q_GF, q_GR, q_GB, q_GA, q_GH, q_FG, q_FR, q_FB, q_FA, q_FH, q_RG, q_RF, q_RB, q_RA, q_RH, q_BG, q_BF, q_BR, q_BA, q_BH, q_AG, q_AF, q_AR, q_AB, q_AH, q_HG, q_HF, q_HR, q_HB, q_HA, q_NG, q_NF, q_NR, q_NB, q_NA, q_NH, q_CG, q_CF, q_CR, q_CB, q_CA, q_CH, q_KG, q_KF, q_KR, q_KB, q_KA, q_KH, q_mGG, q_mGA, q_mAA, q_mAG, q_upd, *]
      · show sN σ ≤ sN s5
        rw [f11]; omega
      · show _ ≤ (sG s5 3).toInt
        rw [f8]; exact Int.le_refl _
      · rw [← f1 k i]; simp [q_GG, q_FF, q_RR, q_BB, q_AA, q_HH, q_GF, q_GR, q_GB, q_GA, q_GH, q_FG, q_FR, q_FB, q_FA, q_FH, q_RG, q_RF, q_RB, q_RA, q_RH, q_BG, q_BF, q_BR, q_BA, q_BH, q_AG, q_AF, q_AR, q_AB, q_AH, q_HG, q_HF, q_HR, q_HB, q_HA, q_NG, q_NF, q_NR, q_NB, q_NA, q_NH, q_CG, q_CF, q_CR, q_CB, q_CA, q_CH, q_KG, q_KF, q_KR, q_KB, q_KA, q_KH, q_mGG, q_mGA, q_mAA, q_mAG, q_upd, *]
  have hT : Tw σ2 ρ3 c (sN σ) := by
    subst hσ2 hρ3 hρ2
    refine ⟨by simp [q_GG, q_FF, q_RR, q_BB, q_AA, q_HH, q_GF, q_GR, q_GB, q_GA, q_GH, q_FG, q_FR, q_FB, q_FA, q_FH, q_RG, q_RF, q_RB, q_RA, q_RH, q_BG, q_BF, q_BR, q_BA, q_BH, q_AG, q_AF, q_AR, q_AB, q_AH, q_HG, q_HF, q_HR, q_HB, q_HA, q_NG, q_NF, q_NR, q_NB, q_NA, q_NH, q_CG, q_CF, q_CR, q_CB, q_CA, q_CH, q_KG, q_KF, q_KR, q_KB, q_KA, q_KH, q_mGG, q_mGA, q_mAA, q_mAG, q_upd, *], ?_, by simp [q_GG, q_FF, q_RR, q_BB, q_AA, q_HH, q_GF, q_GR, q_GB, q_GA, q_GH, q_FG, q_FR, q_FB, q_FA, q_FH, q_RG, q_RF, q_RB, q_RA, q_RH, q_BG, q_BF, q_BR, q_BA, q_BH, q_AG, q_AF, q_AR, q_AB, q_AH, q_HG, q_HF, q_HR, q_HB, q_HA, q_NG, q_NF, q_NR, q_NB, q_NA, q_NH, q_CG, q_CF, q_CR, q_CB, q_CA, q_CH, q_KG, q_KF, q_KR, q_KB, q_KA, q_KH, q_mGG, q_mGA, q_mAA, q_mAG, q_upd, *], by simp [q_GG, q_FF, q_RR, q_BB, q_AA, q_HH, q_GF, q_GR, q_GB, q_GA, q_GH, q_FG, q_FR, q_FB, q_FA, q_FH, q_RG, q_RF, q_RB, q_RA, q_RH, q_BG, q_BF, q_BR, q_BA, q_BH, q_AG, q_AF, q_AR, q_AB, q_AH, q_HG, q_HF, q_HR, q_HB, q_HA, q_NG, q_NF, q_NR, q_NB, q_NA, q_NH, q_CG, q_CF, q_CR, q_CB, q_CA, q_CH, q_KG, q_KF, q_KR, q_KB, q_KA, q_KH, q_mGG, q_mGA, q_mAA, q_mAG, q_upd, *]⟩
    show sN σ < sN s5
    rw [f11]; omega
  have hT1 : 0 ≤ (sF σ2 11 c).toInt ∧ (sF σ2 11 c).toInt ≤ 40 := by
    have : sF σ2 11 c = 0 := by subst hσ2; simp [q_GG, q_FF, q_RR, q_BB, q_AA, q_HH, q_GF, q_GR, q_GB, q_GA, q_GH, q_FG, q_FR, q_FB, q_FA, q_FH, q_RG, q_RF, q_RB, q_RA, q_RH, q_BG, q_BF, q_BR, q_BA, q_BH, q_AG, q_AF, q_AR, q_AB, q_AH, q_HG, q_HF, q_HR, q_HB, q_HA, q_NG, q_NF, q_NR, q_NB, q_NA, q_NH, q_CG, q_CF, q_CR, q_CB, q_CA, q_CH, q_KG, q_KF, q_KR, q_KB, q_KA, q_KH, q_mGG, q_mGA, q_mAA, q_mAG, q_upd, *]
    rw [this]; decide
  have hk6 : sF σ2 6 c = a1 := by subst hσ2; simp [q_GG, q_FF, q_RR, q_BB, q_AA, q_HH, q_GF, q_GR, q_GB, q_GA, q_GH, q_FG, q_FR, q_FB, q_FA, q_FH, q_RG, q_RF, q_RB, q_RA, q_RH, q_BG, q_BF, q_BR, q_BA, q_BH, q_AG, q_AF, q_AR, q_AB, q_AH, q_HG, q_HF, q_HR, q_HB, q_HA, q_NG, q_NF, q_NR, q_NB, q_NA, q_NH, q_CG, q_CF, q_CR, q_CB, q_CA, q_CH, q_KG, q_KF, q_KR, q_KB, q_KA, q_KH, q_mGG, q_mGA, q_mAA, q_mAG, q_upd, *]
  have hC2 : sC σ2 = sC s5 := by subst hσ2; rfl
  have hN2 : sN σ2 = sN σ + 1 := by subst hσ2; exact f11
  have hth : mG ρ3 0 = 0 := by subst hρ3 hρ2; rfl
  have go : ∃ (σ' : Sg) (ρ' : Sm), (∀ (post : Int32 → Sg → Prop) , post (nI (sN σ)) σ' → wp_isCommand (fun r4 s3 => (((r4 = 0) → wp_requestWhatWasAsked (fun s6 => post (nI (sN σ)) s6) s3 c) ∧ (¬ (r4 = 0) → ((¬ ((sF s3 8 c) = (-1)) → wp_requestWhatWasAsked (fun s9 => post (nI (sN σ)) s9) s3 c) ∧ (((sF s3 8 c) = (-1)) → wp_requestOpen (fun s11 => post (nI (sN σ)) s11) s3 c))))) σ2 a1) ∧ (∀ post : Sm → Prop, post ρ' → wp_m_begin post ρ3 (nI c)) ∧ StpC (B + 2) σ2 ρ3 c (sN σ) σ' ρ' := by
    by_cases h3 : 3 ≤ a1
    · obtain ⟨σ', ρ', s1, s2, s3⟩ := sim_what hc (by omega) hR hT hT1 (Or.inl (by rw [hk6]; exact h3))
      exact ⟨σ', ρ', fun post hp => cmd_no h3 ⟨fun _ => s1 _ hp, fun e => absurd rfl e⟩, s2, s3⟩
    · by_cases hs : sF σ2 8 c = -1
      · obtain ⟨σ', ρ', s1, s2, s3⟩ := sim_open hc (by omega) hR hT hT1 (by rw [hk6]; exact h3) hs
        exact ⟨σ', ρ', fun post hp => cmd_yes ht.1 h3 ⟨fun e => absurd e (by decide), fun _ => ⟨fun e => absurd hs e, fun _ => s1 _ hp⟩⟩, s2, s3⟩
      · obtain ⟨σ', ρ', s1, s2, s3⟩ := sim_what hc (by omega) hR hT hT1 (Or.inr hs)
        exact ⟨σ', ρ', fun post hp => cmd_yes ht.1 h3 ⟨fun e => absurd e (by decide), fun _ => ⟨fun _ => s1 _ hp, fun e => absurd e hs⟩⟩, s2, s3⟩
  obtain ⟨σ', ρ', s1', s2, s3, s4', s5', s6, s7⟩ := go
  have hret : mG ρ' 5 - 1 = nI (sN σ) := by
    rw [← s3.1.asked, s3.1.askN, s6.2.2, hN2]; exact nI_pred _
  refine Or.inl ⟨nI (sN σ), σ', ρ', fun post px hp => cp post px (wt_no hi.1 ⟨fun e => absurd rfl e, fun _ => ⟨fun _ => ⟨⟨fun i hi' j e => ?_, fun i j e => h1.1.lsB i j e⟩, fun e => e, ?_⟩, fun e => absurd hlt' e⟩⟩), fun post hp => ic_y hc ⟨fun _ => mfit (fun _ => ⟨fun _ => ⟨in8 hc, fun e => absurd hi.2.1 (by rw [cl8 hc] at e; exact e), fun _ => ⟨fun _ => ?_, fun e => absurd e n24⟩⟩, fun e => absurd e (by decide)⟩) (fun q => absurd ok2 q), fun e => absurd e (by decide)⟩, s6.2.1.trans hth, s3, ?_⟩
  · rcases h1.2 i hi' with q | ⟨j', t, -⟩
    · rw [q.1] at e; cases e
    · rw [t.1] at e; cases e; exact t.2.1
  · have hb : wpc_ask_C95 post px s5 c (sN σ) (nI c) a1 (sG σ 0) (sG (uG 0 0 σ) 6) := by
      unfold wpc_ask_C95
      refine ⟨hc, ?_⟩
      rw [em, f17]
      refine copyD_spec hm (fun w hw => ?_)
      have : w = W1 := funext (fun q => by
        rw [hw, hW1]
        show (if q < m then vp_nar .byte (sA s5 0 q) else sB s5 0 c q) = _
        rw [f4, f3])
      subst this
      rw [hi6, ← hσ2]
      exact s1' _ hp
    obtain ⟨g1, g2, g3, g4, g5, g6, g7, g8, g9, g10, g11, g12, g13, -⟩ := as4 rfl hs1 hs4
    have hN1 : sN s1 = sN σ + 1 := by subst hs1; rfl
    have : wp_nextMoment (fun r2 s1 => (sN σ < sN s1 ∧ wp_askInit (fun s4 => (sN σ < sN s4 ∧ ((sC s4 = 0 → sC (nQ (uG 0 0 σ)) = 0) ∧ sC s4 ≤ 1900 ∧ (∀ i j, sK s4 i = some j → j < sN s4) ∧ ((sG s4 6).toInt ≤ sC s4 ∧ 0 ≤ (sG s4 6).toInt) ∧ sN σ < sN (aR (uG 5 (sG s4 5 + 1) s4) (sN σ)) ∧ wpc_ask_C95 post px (aR (uG 5 (sG s4 5 + 1) s4) (sN σ)) c (sN σ) (nI c) a1 (sG σ 0) (sG (uG 0 0 σ) 6)))) s1 (sN σ) (nI c) a1 r2)) (nQ (uG 0 0 σ)) := by
      unfold wp_nextMoment
      rw [show sG (nQ (uG 0 0 σ)) 2 = sG σ 2 from rfl, ← hs1]
      refine ⟨by omega, ?_⟩
      unfold wp_askInit
      rw [← hs4]
      refine ⟨by omega, fun e => ?_, ?_, fun i j e => ?_, ⟨?_, ?_⟩, ?_, ?_⟩
      · rw [g12] at e; exact e
      · rw [g12]; exact h.1.cB
      · rw [g13] at e; have := h.1.lsB i j e; omega
      · rw [g10, g12, h.1.askN, iq_nI (by omega)]
        have := h.1.nC; omega
      · rw [g10, h.1.askN, iq_nI (by omega)]; omega
      · rw [← hs5]; omega
      · rw [← hs5]; exact hb
    exact this
  · have hbg : wp_m_begin (fun s30 => post ((mG s30 5) - 1) s30) ρ3 (nI c) := s2 _ (by rw [hret]; exact hp)
    have e0 : (6 : Int32) * nI (sN σ) = nI (6 * sN σ) := pk_mul 6 (sN σ)
    have e1 : nI (6 * sN σ) + 1 = nI (6 * sN σ + 1) := nI_add _ 1
    have e2 : nI (6 * sN σ) + 2 = nI (6 * sN σ + 2) := nI_add _ 2
    have e3 : nI (6 * sN σ) + 3 = nI (6 * sN σ + 3) := nI_add _ 3
    have e4 : nI (6 * sN σ) + 4 = nI (6 * sN σ + 4) := nI_add _ 4
    have e5 : nI (6 * sN σ) + 5 = nI (6 * sN σ + 5) := nI_add _ 5
    have cc : ∀ k, k ≤ 5 → (nI (6 * sN σ + k)).toNatClampNeg = 6 * sN σ + k := fun k hk => clN (by omega)
    have c0 : (nI (6 * sN σ)).toNatClampNeg = 6 * sN σ := clN (by omega)
    rw [hm5, e0, e1, e2, e3, e4, e5, c0, cc 1 (by decide), cc 2 (by decide), cc 3 (by decide), cc 4 (by decide), cc 5 (by decide), cl8 hc, em']
    simp only [vA_vA]
    refine ⟨vp_in_nI (by omega) (by decide), vp_in_nI (by omega) (by decide), vp_in_nI (by omega) (by decide), vp_in_nI (by omega) (by decide), vp_in_nI (by omega) (by decide), vp_in_nI (by omega) (by decide), ?_⟩
    refine askl_spec hc (by omega) (by omega) (fun w hw => ?_)
    have : w = W2 := funext (fun q => by rw [hw, hW2]; rfl)
    subst this
    subst hρ3 hρ2 hH6
    exact hbg
  · rw [s4', hC2]; omega
