def oI : Option Nat → Int32 | none => -1 | some b => nI b
/-- a client whose alarm rings by x -/
def Rg (σ : Sg) (ρ : Sm) (x : Int32) (b : Nat) : Prop := b < 8 ∧ (∃ j, Tw σ ρ b j ∧ Al σ ρ b) ∧ ¬ x < sF σ 13 b
theorem next_l {B : Nat} {σ : Sg} {ρ : Sm} (hB : B < 1000000000) (h : Rl B σ ρ) (x : Int32) : ∀ (d k : Nat) (best : Option Nat), k + d = 8 → (∀ b, best = some b → Rg σ ρ x b) → ∃ r : Option Nat, (∀ b, r = some b → Rg σ ρ x b) ∧ (∀ post : Option Nat → Sg → Prop, post r σ → wpl_firstToRing_L4 (d + 1) post σ x best (nI k)) ∧ (∀ post : Int32 → Sm → Prop, post (oI r) ρ → wpl_m_next_L4 (d + 1) post ρ x (oI best) (nI k)) := by
  intro d
  induction d with
  | zero =>
    intro k best e hb
    have : k = 8 := by omega
    subst this
    refine ⟨best, hb, fun post hp => ⟨fun eb => ?_, fun b eb => ⟨(hb b eb).1, ?_⟩⟩, fun post hp => ⟨fun _ => hp, fun e => absurd (by decide) e⟩⟩
    · subst eb; exact ⟨fun _ => hp, fun e => absurd (by decide) e⟩
    · subst eb; exact ⟨fun _ => hp, fun e => absurd (by decide) e⟩
  | succ d ih =>
    intro k best e hb
    have hk : k < 8 := by omega
    have n8 : ¬ (8 : Int32) ≤ nI k := nI_ge (b := 8) hk (by decide)
    have c8 := cl8 hk
    -- the two roads: skip, or take k
    have skip : ∃ r : Option Nat, (∀ b, r = some b → Rg σ ρ x b) ∧ (∀ post : Option Nat → Sg → Prop, post r σ → wpl_firstToRing_L4 (d + 1) post σ x best (nI k + 1)) ∧ (∀ post : Int32 → Sm → Prop, post (oI r) ρ → wpl_m_next_L4 (d + 1) post ρ x (oI best) (nI k + 1)) := by
      rw [nI_1]; exact ih (k + 1) best (by omega) hb
    rcases h.2 k hk with hi | ⟨j, hT, hA⟩
    · obtain ⟨r, r1, r2, r3⟩ := skip
      refine ⟨r, r1, fun post hp => ⟨fun eb => ⟨fun e => absurd e n8, fun _ => ⟨in8 hk, ?_⟩⟩, fun b eb => ⟨(hb b eb).1, fun e => absurd e n8, fun _ => ⟨in8 hk, ?_⟩⟩⟩, fun post hp => ⟨fun e => absurd e n8, fun _ => ⟨in8 hk, ?_⟩⟩⟩
      · subst eb; rw [c8]; exact ⟨fun _ => r2 _ hp, fun e => absurd hi.2.2.1 e⟩
      · subst eb; rw [c8]; exact ⟨fun _ => r2 _ hp, fun e => absurd hi.2.2.1 e⟩
      · rw [c8, hi.2.2.2.1]; exact ⟨fun _ => r3 _ hp, fun e => absurd (by decide) e⟩
    · obtain ⟨a1, a2, a3, a4, a5, a6, a7, a8⟩ := id hA
      have hm := h.1.madeB
      have n13 : ¬ sF σ 13 k = -1 := fun e => by rw [e] at a2; exact absurd a2 (by decide)
      have p11 : ∀ i, Al σ ρ i → (mA ρ 11 i).toInt = (sF σ 14 i).toInt + 1 := by
        intro i hAi
        obtain ⟨b1, b2, b3, b4, b5, b6, b7, b8⟩ := hAi
        rw [b6]
        exact iq_add (by show _ ≤ (_ : Int) + 1; omega) (by show (_ : Int) + 1 < _; omega)
      have n11 : ¬ mA ρ 11 k ≤ 0 := by
        rw [Int32.le_iff_toInt_le, p11 k hA]
        show ¬ ((_ : Int) + 1 ≤ 0)
        omega
      by_cases hx : x < sF σ 13 k
      · obtain ⟨r, r1, r2, r3⟩ := skip
        refine ⟨r, r1, fun post hp => ⟨fun eb => ⟨fun e => absurd e n8, fun _ => ⟨in8 hk, ?_⟩⟩, fun b eb => ⟨(hb b eb).1, fun e => absurd e n8, fun _ => ⟨in8 hk, ?_⟩⟩⟩, fun post hp => ⟨fun e => absurd e n8, fun _ => ⟨in8 hk, ?_⟩⟩⟩
        · subst eb; rw [c8]; exact ⟨fun e => absurd e n13, fun _ => ⟨fun _ => r2 _ hp, fun e => absurd hx e⟩⟩
        · subst eb; rw [c8]; exact ⟨fun e => absurd e n13, fun _ => ⟨fun _ => r2 _ hp, fun e => absurd hx e⟩⟩
        · rw [c8, a3]; exact ⟨fun e => absurd e n11, fun _ => ⟨fun _ => r3 _ hp, fun e => absurd hx e⟩⟩
      · have hRk : Rg σ ρ x k := ⟨hk, ⟨j, hT, hA⟩, hx⟩
        have take : ∃ r : Option Nat, (∀ b, r = some b → Rg σ ρ x b) ∧ (∀ post : Option Nat → Sg → Prop, post r σ → wpl_firstToRing_L4 (d + 1) post σ x (some k) (nI k + 1)) ∧ (∀ post : Int32 → Sm → Prop, post (oI r) ρ → wpl_m_next_L4 (d + 1) post ρ x (nI k) (nI k + 1)) := by
          rw [nI_1]; exact ih (k + 1) (some k) (by omega) (fun b eb => by cases eb; exact hRk)
        rcases best with _ | b
        · obtain ⟨r, r1, r2, r3⟩ := take
          refine ⟨r, r1, fun post hp => ⟨fun eb => ⟨fun e => absurd e n8, fun _ => ⟨in8 hk, ?_⟩⟩, fun b eb => (by cases eb)⟩, fun post hp => ⟨fun e => absurd e n8, fun _ => ⟨in8 hk, ?_⟩⟩⟩
          · rw [c8]; exact ⟨fun e => absurd e n13, fun _ => ⟨fun e => absurd e hx, fun _ => r2 _ hp⟩⟩
          · rw [c8, a3]; exact ⟨fun e => absurd e n11, fun _ => ⟨fun e => absurd e hx, fun _ => ⟨fun _ => r3 _ hp, fun e => absurd (by decide) e⟩⟩⟩
        · obtain ⟨hb8, ⟨jb, hTb, hAb⟩, hxb⟩ := hb b rfl
          have nb : ¬ nI b < 0 := nI_pos (by omega)
          have cb := cl8 hb8
          have b3 := hAb.2.2.1
          have hord : mA ρ 11 b ≤ mA ρ 11 k ↔ sF σ 14 b ≤ sF σ 14 k := by
            rw [Int32.le_iff_toInt_le, Int32.le_iff_toInt_le, p11 k hA, p11 b hAb]; omega
          have dec : (∃ r : Option Nat, (∀ b, r = some b → Rg σ ρ x b) ∧ (∀ post : Option Nat → Sg → Prop, post r σ → wp_ringsBefore (fun r15 s14 => (((r15 = 0) → wpl_firstToRing_L4 (d + 1) post s14 x (some b) (nI k + 1)) ∧ (¬ (r15 = 0) → wpl_firstToRing_L4 (d + 1) post s14 x (some k) (nI k + 1)))) σ k b) ∧ (∀ post : Int32 → Sm → Prop, post (oI r) ρ → ((((mA ρ 10 k) < (mA ρ 10 b)) → wpl_m_next_L4 (d + 1) post ρ x (nI k) (nI k + 1)) ∧ (¬ ((mA ρ 10 k) < (mA ρ 10 b)) → ((¬ ((mA ρ 10 k) = (mA ρ 10 b)) → wpl_m_next_L4 (d + 1) post ρ x (nI b) (nI k + 1)) ∧ (((mA ρ 10 k) = (mA ρ 10 b)) → ((((mA ρ 11 b) ≤ (mA ρ 11 k)) → wpl_m_next_L4 (d + 1) post ρ x (nI b) (nI k + 1)) ∧ (¬ ((mA ρ 11 b) ≤ (mA ρ 11 k)) → wpl_m_next_L4 (d + 1) post ρ x (nI k) (nI k + 1))))))))) := by
            rw [a3, b3, hord]
            by_cases q1 : sF σ 13 k < sF σ 13 b
            · obtain ⟨r, r1, r2, r3⟩ := take
              exact ⟨r, r1, fun post hp => ⟨fun _ => ⟨fun e => absurd e (by decide), fun _ => r2 _ hp⟩, fun e => absurd q1 e⟩, fun post hp => ⟨fun _ => r3 _ hp, fun e => absurd q1 e⟩⟩
            · by_cases q2 : sF σ 13 k = sF σ 13 b
              · by_cases q3 : sF σ 14 b ≤ sF σ 14 k
                · obtain ⟨r, r1, r2, r3⟩ := skip
                  exact ⟨r, r1, fun post hp => ⟨fun e => absurd e q1, fun _ => ⟨fun e => absurd q2 e, fun _ => ⟨fun _ => ⟨fun _ => r2 _ hp, fun e => absurd rfl e⟩, fun e => absurd q3 e⟩⟩⟩, fun post hp => ⟨fun e => absurd e q1, fun _ => ⟨fun e => absurd q2 e, fun _ => ⟨fun _ => r3 _ hp, fun e => absurd q3 e⟩⟩⟩⟩
                · obtain ⟨r, r1, r2, r3⟩ := take
                  exact ⟨r, r1, fun post hp => ⟨fun e => absurd e q1, fun _ => ⟨fun e => absurd q2 e, fun _ => ⟨fun e => absurd e q3, fun _ => ⟨fun e => absurd e (by decide), fun _ => r2 _ hp⟩⟩⟩⟩, fun post hp => ⟨fun e => absurd e q1, fun _ => ⟨fun e => absurd q2 e, fun _ => ⟨fun e => absurd e q3, fun _ => r3 _ hp⟩⟩⟩⟩
              · obtain ⟨r, r1, r2, r3⟩ := skip
                exact ⟨r, r1, fun post hp => ⟨fun e => absurd e q1, fun _ => ⟨fun _ => ⟨fun _ => r2 _ hp, fun e => absurd rfl e⟩, fun e => absurd e q2⟩⟩, fun post hp => ⟨fun e => absurd e q1, fun _ => ⟨fun _ => r3 _ hp, fun e => absurd e q2⟩⟩⟩
          obtain ⟨r, r1, r2, r3⟩ := dec
          refine ⟨r, r1, fun post hp => ⟨fun eb => (by cases eb), fun b' eb => ⟨?_, fun e => absurd e n8, fun _ => ⟨in8 hk, ?_⟩⟩⟩, fun post hp => ⟨fun e => absurd e n8, fun _ => ⟨in8 hk, ?_⟩⟩⟩
          · cases eb; exact hb8
          · cases eb; rw [c8]; exact ⟨fun e => absurd e n13, fun _ => ⟨fun e => absurd e hx, fun _ => r2 _ hp⟩⟩
          · rw [c8]
            refine ⟨fun e => absurd e n11, fun _ => ⟨fun e => absurd e (by rw [a3]; exact hx), fun _ => ⟨fun e => absurd e nb, fun _ => ⟨in8 hb8, ?_⟩⟩⟩⟩
            rw [show oI (some b) = nI b from rfl, cb]
            exact r3 _ hp
/-- how much a client may still try -/
def phi (σ : Sg) (i : Nat) : Nat := if sR σ i = none then 0 else 41 - (sF σ 11 i).toInt.toNat
def Phi (σ : Sg) : Nat := phi σ 0 + phi σ 1 + phi σ 2 + phi σ 3 + phi σ 4 + phi σ 5 + phi σ 6 + phi σ 7
theorem phi_le (σ : Sg) (i : Nat) : phi σ i ≤ 41 := by unfold phi; split <;> omega
theorem Phi_le (σ : Sg) : Phi σ ≤ 328 := by
  have := phi_le σ 0; have := phi_le σ 1; have := phi_le σ 2; have := phi_le σ 3; have := phi_le σ 4; have := phi_le σ 5; have := phi_le σ 6; have := phi_le σ 7
  unfold Phi; omega
theorem Phi_pos {σ : Sg} {b : Nat} (hb : b < 8) (h : 1 ≤ phi σ b) : 1 ≤ Phi σ := by
  unfold Phi
  rcases (by omega : b = 0 ∨ b = 1 ∨ b = 2 ∨ b = 3 ∨ b = 4 ∨ b = 5 ∨ b = 6 ∨ b = 7) with rfl | rfl | rfl | rfl | rfl | rfl | rfl | rfl <;> omega
theorem Phi_lt {σ σ' : Sg} {b : Nat} (hb : b < 8) (h : phi σ' b < phi σ b) (hk : ∀ i, i ≠ b → phi σ' i = phi σ i) : Phi σ' < Phi σ := by
  unfold Phi
  rcases (by omega : b = 0 ∨ b = 1 ∨ b = 2 ∨ b = 3 ∨ b = 4 ∨ b = 5 ∨ b = 6 ∨ b = 7) with rfl | rfl | rfl | rfl | rfl | rfl | rfl | rfl
  · rw [hk 1 (by decide), hk 2 (by decide), hk 3 (by decide), hk 4 (by decide), hk 5 (by decide), hk 6 (by decide), hk 7 (by decide)]; omega
  · rw [hk 0 (by decide), hk 2 (by decide), hk 3 (by decide), hk 4 (by decide), hk 5 (by decide), hk 6 (by decide), hk 7 (by decide)]; omega
  · rw [hk 0 (by decide), hk 1 (by decide), hk 3 (by decide), hk 4 (by decide), hk 5 (by decide), hk 6 (by decide), hk 7 (by decide)]; omega
  · rw [hk 0 (by decide), hk 1 (by decide), hk 2 (by decide), hk 4 (by decide), hk 5 (by decide), hk 6 (by decide), hk 7 (by decide)]; omega
  · rw [hk 0 (by decide), hk 1 (by decide), hk 2 (by decide), hk 3 (by decide), hk 5 (by decide), hk 6 (by decide), hk 7 (by decide)]; omega
  · rw [hk 0 (by decide), hk 1 (by decide), hk 2 (by decide), hk 3 (by decide), hk 4 (by decide), hk 6 (by decide), hk 7 (by decide)]; omega
  · rw [hk 0 (by decide), hk 1 (by decide), hk 2 (by decide), hk 3 (by decide), hk 4 (by decide), hk 5 (by decide), hk 7 (by decide)]; omega
  · rw [hk 0 (by decide), hk 1 (by decide), hk 2 (by decide), hk 3 (by decide), hk 4 (by decide), hk 5 (by decide), hk 6 (by decide)]; omega
theorem Rl.nw {B : Nat} {σ : Sg} {ρ : Sm} (h : Rl B σ ρ) {v : Int32} (hv : 0 ≤ v.toInt ∧ v.toInt ≤ B) : Rl B (uG 1 v σ) (vG 1 v ρ) := by
  obtain ⟨hr, hq⟩ := h
  refine ⟨⟨hr.tape, hr.tapeB, rfl, hv, hr.mom, hr.made, hr.madeB, hr.tot, hr.totB, hr.asked, hr.askN, hr.nB, hr.cB, hr.nC, hr.fed, hr.log, hr.lst, hr.lsB, hr.his, fun i hi => ?_⟩, fun i hi => ?_⟩
  · exact (hr.cl i hi).congr (fun k _ => rfl) (fun _ _ => rfl) (fun k hk => rfl) (fun _ _ => rfl) (fun _ _ => rfl)
  · exact (hq i hi).congr rfl (Nat.le_refl _) (Int.le_refl _) (fun k _ => rfl) (fun k hk => rfl)
/-- one ring, on both sides -/
theorem sim_ring {B : Nat} {σ : Sg} {ρ : Sm} {b : Nat} {x : Int32} (hB : B < 900000000) (h : Rl B σ ρ) (hb : Rg σ ρ x b) (hx : x.toInt ≤ B) : ∃ (σ' : Sg) (ρ' : Sm), (∀ post : Sg → Prop, post σ' → wp_ring post (uG 1 (sF σ 13 b) σ) b) ∧ (∀ post : Sm → Prop, post ρ' → ((((mA ρ 12) b = 0) → wp_m_noAlarm (fun s12 => wp_m_go post s12 (nI b)) (vG 1 (mA ρ 10 b) ρ) (nI b)) ∧ (¬ ((mA ρ 12) b = 0) → wp_m_noAlarm (fun s12 => wp_m_go post s12 (nI b)) (vA 2 (upd (mA ρ 2) b ((mA ρ 2 b + 1) - (mA ρ 2 b + 1) / 7 * 7)) (vG 1 (mA ρ 10 b) ρ)) (nI b)))) ∧ Rl (B + 2) σ' ρ' ∧ sC σ' = sC σ ∧ mG ρ' 0 = mG ρ 0 ∧ Phi σ' < Phi σ := by
  obtain ⟨hb8, ⟨j, hT, hA⟩, hxb⟩ := hb
  obtain ⟨a1, a2, a3, a4, a5, a6, a7, a8⟩ := id hA
  rw [Int32.lt_iff_toInt_lt] at hxb
  have h1 : Rl B (uG 1 (sF σ 13 b) σ) (vG 1 (mA ρ 10 b) ρ) := by rw [a3]; exact h.nw ⟨a2, by omega⟩
  have noA : ∀ (σ1 : Sg) (ρ1 : Sm), Rt B σ1 ρ1 b → Rt B σ1 (vA 12 (upd (mA ρ1 12) b 0) (vA 11 (upd (mA ρ1 11) b 0) ρ1)) b := by
    intro σ1 ρ1 hr
    have hcl := hr.1.cl b hb8
    exact hr.cli rfl rfl (fun i e => rfl) (fun i k e => rfl) (fun i k e => rfl) rfl rfl rfl rfl (fun k i e _ => by (simp only [q_mAAi, q_mAG, q_upd]; (repeat' split) <;> (first | rfl | (subst_vars; rfl) | (subst_vars; contradiction) | (subst_vars; simp_all)))) (fun i q e _ => rfl) (fun i q e _ => rfl) ⟨hcl.idx, hcl.tgt, hcl.tgtB, hcl.ses, hcl.sesB, hcl.ser, hcl.num, hcl.tri, hcl.opn, hcl.opnB, hcl.knd, hcl.kndB, hcl.dsz, hcl.dszB, hcl.dat, hcl.asz, hcl.aszB, hcl.ans⟩
  have fin : ∀ (σ1 σ' : Sg), (∀ i, sR σ1 i = sR σ i ∧ sF σ1 11 i = sF σ 11 i) → Fr σ1 σ' b → (sR σ' b = none ∨ (sR σ' b = some j ∧ (sF σ' 11 b).toInt = (sF σ1 11 b).toInt + 1)) → Phi σ' < Phi σ := by
    intro σ1 σ' e1 hF hs
    refine Phi_lt hb8 ?_ (fun i hi => ?_)
    · unfold phi
      rw [if_neg (c := sR σ b = none) (by rw [hT.1]; simp)]
      rcases hs with e | ⟨e, e'⟩
      · rw [if_pos e]; omega
      · rw [if_neg (by rw [e]; simp), e', (e1 b).2]; omega
    · unfold phi
      rw [(hF i hi).1, (hF i hi).2, (e1 i).1, (e1 i).2]
  by_cases hi : sF σ 15 b = 0
  · have hi' : mA ρ 12 b = 0 := by rw [← a7]; exact hi
    obtain ⟨σ', ρ', s1, s2, s3, s4, s5, s6, s7⟩ := sim_send (j := j) hb8 (by omega) (noA _ _ (h1.rt b)) ⟨hT.1, hT.2.1, hT.2.2.1, hT.2.2.2⟩ (by show 0 ≤ (sF σ 11 b).toInt ∧ (sF σ 11 b).toInt ≤ 40; omega)
    refine ⟨σ', ρ', fun post hp => ⟨fun _ => s1 _ hp, fun e => absurd hi e⟩, fun post hp => ⟨fun _ => ⟨in8 hb8, ?_⟩, fun e => absurd hi' e⟩, s3, s4, s6.2.1, fin _ σ' (fun i => ⟨rfl, rfl⟩) s5 s7⟩
    rw [cl8 hb8, nb0]
    exact s2 _ hp
  · have hi' : ¬ mA ρ 12 b = 0 := by rw [← a7]; exact hi
    obtain ⟨v, t1, t2, t3⟩ := sim_turn hb8 (h1.rt b)
    obtain ⟨σ', ρ', s1, s2, s3, s4, s5, s6, s7⟩ := sim_send (j := j) hb8 (by omega) (noA _ _ t3) ⟨hT.1, hT.2.1, hT.2.2.1, hT.2.2.2⟩ (by show 0 ≤ (sF σ 11 b).toInt ∧ (sF σ 11 b).toInt ≤ 40; omega)
    refine ⟨σ', ρ', fun post hp => ⟨fun e => absurd e hi, fun _ => t1 _ (s1 _ hp)⟩, fun post hp => ⟨fun e => absurd e hi', fun _ => ⟨in8 hb8, ?_⟩⟩, s3, s4, s6.2.1, fin _ σ' (fun i => ⟨rfl, rfl⟩) s5 s7⟩
    have t2 : v = mA ρ 2 b + 1 - (mA ρ 2 b + 1) / 7 * 7 := t2
    rw [cl8 hb8, nb0, ← t2]
    exact s2 _ hp
theorem tick_l {E : Nat} {x1 x : Int32} (hE : E < 800000000) (hx : 0 ≤ x.toInt ∧ x.toInt ≤ E) : ∀ (F rang : Nat) (σ : Sg) (ρ : Sm), Phi σ ≤ F → rang + F ≤ 328 → Rl (E + 2 * rang) σ ρ → ∃ (r : Int32) (σ' : Sg) (ρ' : Sm), (∃ n, ∀ (post : Int32 → Sg → Prop) (px : String → Sg → Prop), post r σ' → wpl_tick_L36 n post px σ x1 x (nI rang) 328) ∧ (∃ n, ∀ (post Pm : Int32 → Sm → Prop), (∀ r17 s16, wpl_m_tick_L38 n post s16 x1 x (nI rang) r17 → Pm r17 s16) → post r ρ' → wp_m_next Pm ρ x) ∧ Rl (E + 656) σ' ρ' ∧ sC σ' = sC σ ∧ mG ρ' 0 = mG ρ 0 := by
  intro F
  induction F with
  | zero =>
    intro rang σ ρ hF hr h
    obtain ⟨r, r1, r2, r3⟩ := next_l (by omega) h x 8 0 none rfl (fun b e => by cases e)
    have : r = none := by
      rcases r with _ | b
      · rfl
      · exfalso
        obtain ⟨hb8, ⟨j, hT, hA⟩, -⟩ := r1 b rfl
        have : 1 ≤ phi σ b := by
          unfold phi
          rw [if_neg (by rw [hT.1]; simp)]
          have := hA.1
          omega
        have := Phi_pos hb8 this
        omega
    subst this
    refine ⟨nI rang, uG 1 x σ, vG 1 x ρ, ⟨1, fun post px hp => ⟨fun _ => hp, fun _ => ⟨9, r2 _ ⟨fun _ => hp, fun b e => (by cases e)⟩⟩⟩⟩, ⟨1, fun post Pm hPm hp => ⟨9, r3 _ (hPm _ _ ⟨fun _ => hp, fun e => absurd (by decide) e⟩)⟩⟩, (h.wide (by omega)).nw ⟨hx.1, by omega⟩, rfl, rfl⟩
  | succ F ih =>
    intro rang σ ρ hF hr h
    obtain ⟨r, r1, r2, r3⟩ := next_l (by omega) h x 8 0 none rfl (fun b e => by cases e)
    rcases r with _ | b
    · refine ⟨nI rang, uG 1 x σ, vG 1 x ρ, ⟨1, fun post px hp => ⟨fun _ => hp, fun _ => ⟨9, r2 _ ⟨fun _ => hp, fun b e => (by cases e)⟩⟩⟩⟩, ⟨1, fun post Pm hPm hp => ⟨9, r3 _ (hPm _ _ ⟨fun _ => hp, fun e => absurd (by decide) e⟩)⟩⟩, (h.wide (by omega)).nw ⟨hx.1, by omega⟩, rfl, rfl⟩
    · have hRg := r1 b rfl
      have hb8 := hRg.1
      obtain ⟨σ1, ρ1, s1, s2, s3, s4, s5, s6⟩ := sim_ring (by omega) h hRg (by omega)
      obtain ⟨r', σ', ρ', ⟨n1, t1⟩, ⟨n2, t2⟩, t3, t4, t5⟩ := ih (rang + 1) σ1 ρ1 (by omega) (by omega) (by rw [show E + 2 * (rang + 1) = E + 2 * rang + 2 by omega]; exact s3)
      have nlt : ¬ (328 : Int32) ≤ nI rang := nI_ge (b := 328) (by omega) (by decide)
      refine ⟨r', σ', ρ', ⟨n1 + 1, fun post px hp => ⟨fun e => absurd e nlt, fun _ => ⟨9, r2 _ ⟨fun e => (by cases e), fun b' e => ?_⟩⟩⟩⟩, ⟨n2 + 1, fun post Pm hPm hp => ⟨9, r3 _ (hPm _ _ ⟨fun e => absurd e (nI_pos (by omega)), fun _ => ⟨in8 hb8, ?_⟩⟩)⟩⟩, t3, t4.trans s4, t5.trans s5⟩
      · cases e
        refine ⟨hb8, s1 _ ?_⟩
        rw [nI_1]
        exact t1 _ px hp
      · rw [show oI (some b) = nI b from rfl, cl8 hb8, nI_1]
        exact s2 _ (t2 _ _ (fun _ _ q => q) hp)
theorem sim_tick {B : Nat} {σ : Sg} {ρ : Sm} (hB : B < 700000000) (h : Rl B σ ρ) (a : Int32) : SimI (B + 1656) σ (fun post px => wp_tick post px σ a) (fun post => wp_m_tick post ρ a) (fun E k => E = "java/lang/IllegalArgumentException" ∧ k = 1) := by
  by_cases h1 : a < 1
  · exact Or.inr ⟨_, 1, 0, σ, vG 0 1 (vG 0 0 ρ), fun post px hp => ⟨fun _ => hp, fun e => absurd h1 e⟩, fun post hp => wi_n (Or.inl h1) ⟨fun e => absurd rfl e, fun _ => hp⟩, rfl, by decide, ⟨rfl, rfl⟩, ((h.th 0).th 1).wide (by omega), rfl⟩
  by_cases h2 : a ≤ 1000
  · have b1 : ¬ a.toInt < 1 := by rw [Int32.lt_iff_toInt_lt] at h1; exact h1
    have b2 : a.toInt ≤ 1000 := by rw [Int32.le_iff_toInt_le] at h2; exact h2
    have h2' : ¬ (1000 : Int32) < a := by
      rw [Int32.lt_iff_toInt_lt]
      show ¬ (1000 : Int) < a.toInt
      omega
    have hn := h.1.nowB
    have ex : (sG σ 1 + a).toInt = (sG σ 1).toInt + a.toInt := iq_add (by omega) (by omega)
    have hno := h.1.now
    obtain ⟨r, σ', ρ', ⟨n1, t1⟩, ⟨n2, t2⟩, t3, t4, t5⟩ := tick_l (E := B + 1000) (x1 := a) (x := sG σ 1 + a) (by omega) (by omega) 328 0 σ (vG 0 0 ρ) (Phi_le σ) (by omega) ((h.th 0).wide (by omega))
    refine Or.inl ⟨r, σ', ρ', fun post px hp => ⟨fun e => absurd e h1, fun _ => ⟨fun _ => ⟨n1, t1 post px hp⟩, fun e => absurd h2 e⟩⟩, fun post hp => wi_y h1 h2' ⟨fun _ => ?_, fun e => absurd e (by decide)⟩, t5, t3, fun e => by rw [t4] at e; exact e⟩
    rw [hno] at t2
    exact t2 post _ (fun r s q => ⟨n2, q⟩) hp
  · have h2' : (1000 : Int32) < a := by
      rw [Int32.le_iff_toInt_le] at h2
      rw [Int32.lt_iff_toInt_lt]
      have h2 : ¬ a.toInt ≤ 1000 := h2
      show (1000 : Int) < a.toInt
      omega
    exact Or.inr ⟨_, 1, 0, σ, vG 0 1 (vG 0 0 ρ), fun post px hp => ⟨fun e => absurd e h1, fun _ => ⟨fun e => absurd e h2, fun _ => hp⟩⟩, fun post hp => wi_n (Or.inr h2') ⟨fun e => absurd rfl e, fun _ => hp⟩, rfl, by decide, ⟨rfl, rfl⟩, ((h.th 0).th 1).wide (by omega), rfl⟩
