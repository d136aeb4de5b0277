theorem cmd_yes {post : Int32 → Sg → Prop} {σ : Sg} {k : Int32} (h0 : 0 ≤ k.toInt) (h : ¬ 3 ≤ k) (hp : post 1 σ) : wp_isCommand post σ k := by
  rw [Int32.le_iff_toInt_le] at h
  have h : ¬ (3 : Int) ≤ k.toInt := h
  refine ⟨fun _ => hp, fun e0 => ⟨fun _ => hp, fun e1 => ⟨fun e2 => ?_, fun _ => hp⟩⟩⟩
  rw [← Int32.toInt_inj] at e0 e1 e2
  have e0 : ¬ k.toInt = 0 := e0
  have e1 : ¬ k.toInt = 1 := e1
  have e2 : ¬ k.toInt = 2 := e2
  omega
theorem cmd_no {post : Int32 → Sg → Prop} {σ : Sg} {k : Int32} (h : 3 ≤ k) (hp : post 0 σ) : wp_isCommand post σ k := by
  refine ⟨fun e => ?_, fun _ => ⟨fun e => ?_, fun _ => ⟨fun _ => hp, fun e => ?_⟩⟩⟩ <;> (subst e; exact absurd h (by decide))
theorem wt_yes {post : Int32 → Sg → Prop} {σ : Sg} {c j : Nat} (h : sR σ c = some j) (hj : j < sN σ) (hp : post 1 σ) : wp_waits post σ c := ⟨fun e => (by rw [h] at e; cases e), fun j' e => (by rw [h] at e; cases e; exact ⟨hj, hp⟩)⟩
theorem wt_no {post : Int32 → Sg → Prop} {σ : Sg} {c : Nat} (h : sR σ c = none) (hp : post 0 σ) : wp_waits post σ c := ⟨fun _ => hp, fun j' e => by rw [h] at e; cases e⟩
theorem sim_abandon {B : Nat} {σ : Sg} {ρ : Sm} {c j : Nat} (hc : c < 8) (h : Rt B σ ρ c) (hT : Tw σ ρ c j) : ∃ (σ' : Sg) (ρ' : Sm), (∀ post : Sg → Prop, post σ' → wp_abandon post σ c) ∧ (∀ post : Sm → Prop, post ρ' → wp_m_stop post ρ (nI c)) ∧ Rl B σ' ρ' ∧ sC σ' = sC σ ∧ Fr σ σ' c ∧ sR σ' c = none ∧ (sG σ' 1 = sG σ 1 ∧ mG ρ' 0 = mG ρ 0 ∧ sN σ' = sN σ) := by
  have hcl := h.1.cl c hc
  by_cases hk : 3 ≤ sF σ 6 c
  · obtain ⟨σ', ρ', h1, h2, h3⟩ := sim_tell hc h hT 3 (-1)
    refine ⟨σ', ρ', fun post hp => ?_, fun post hp => ?_, h3⟩
    · refine wt_yes hT.1 hT.2.1 ⟨fun _ => cmd_no hk ⟨fun _ => h1 _ hp, fun e => absurd rfl e⟩, fun e => absurd e (by decide)⟩
    · unfold wp_m_stop
      rw [cl8 hc, ← hcl.knd]
      exact ⟨in8 hc, fun _ => h2 _ hp, fun e => absurd hk e⟩
  · have h' : Rt B (uF 8 c (-1) σ) (vA 3 (upd (mA ρ 3) c (-1)) ρ) c := by
      obtain ⟨hr, hq⟩ := h
      refine ⟨⟨hr.tape, hr.tapeB, hr.now, hr.nowB, hr.mom, hr.made, hr.madeB, hr.tot, hr.totB, hr.asked, hr.askN, hr.nB, hr.cB, hr.nC, hr.fed, hr.log, hr.lst, hr.lsB, hr.his, fun i hi => ?_⟩, fun i hi e => ?_⟩
      · by_cases e : i = c
        · subst e
          refine ⟨hcl.idx, hcl.tgt, hcl.tgtB, ?_, Or.inl ?_, hcl.ser, hcl.num, hcl.tri, hcl.opn, hcl.opnB, hcl.knd, hcl.kndB, hcl.dsz, hcl.dszB, hcl.dat, hcl.asz, hcl.aszB, hcl.ans⟩ <;> simp [q_GG, q_FF, q_RR, q_BB, q_AA, q_HH, q_GF, q_GR, q_GB, q_GA, q_GH, q_FG, q_FR, q_FB, q_FA, q_FH, q_RG, q_RF, q_RB, q_RA, q_RH, q_BG, q_BF, q_BR, q_BA, q_BH, q_AG, q_AF, q_AR, q_AB, q_AH, q_HG, q_HF, q_HR, q_HB, q_HA, q_NG, q_NF, q_NR, q_NB, q_NA, q_NH, q_CG, q_CF, q_CR, q_CB, q_CA, q_CH, q_KG, q_KF, q_KR, q_KB, q_KA, q_KH, q_mGG, q_mGA, q_mAA, q_mAG, q_upd, *]
        · exact (hr.cl i hi).congr (fun k _ => by simp [q_GG, q_FF, q_RR, q_BB, q_AA, q_HH, q_GF, q_GR, q_GB, q_GA, q_GH, q_FG, q_FR, q_FB, q_FA, q_FH, q_RG, q_RF, q_RB, q_RA, q_RH, q_BG, q_BF, q_BR, q_BA, q_BH, q_AG, q_AF, q_AR, q_AB, q_AH, q_HG, q_HF, q_HR, q_HB, q_HA, q_NG, q_NF, q_NR, q_NB, q_NA, q_NH, q_CG, q_CF, q_CR, q_CB, q_CA, q_CH, q_KG, q_KF, q_KR, q_KB, q_KA, q_KH, q_mGG, q_mGA, q_mAA, q_mAG, q_upd, *]) (fun _ _ => rfl) (fun k hk => by (simp only [q_mAAi, q_mAG, q_upd]; (repeat' split) <;> (first | rfl | (subst_vars; rfl) | (subst_vars; contradiction) | (subst_vars; simp_all)))) (fun _ _ => rfl) (fun _ _ => rfl)
      · exact (hq i hi e).congr (by simp [q_GG, q_FF, q_RR, q_BB, q_AA, q_HH, q_GF, q_GR, q_GB, q_GA, q_GH, q_FG, q_FR, q_FB, q_FA, q_FH, q_RG, q_RF, q_RB, q_RA, q_RH, q_BG, q_BF, q_BR, q_BA, q_BH, q_AG, q_AF, q_AR, q_AB, q_AH, q_HG, q_HF, q_HR, q_HB, q_HA, q_NG, q_NF, q_NR, q_NB, q_NA, q_NH, q_CG, q_CF, q_CR, q_CB, q_CA, q_CH, q_KG, q_KF, q_KR, q_KB, q_KA, q_KH, q_mGG, q_mGA, q_mAA, q_mAG, q_upd, *]) (Nat.le_refl _) (Int.le_refl _) (fun k _ => by simp [q_GG, q_FF, q_RR, q_BB, q_AA, q_HH, q_GF, q_GR, q_GB, q_GA, q_GH, q_FG, q_FR, q_FB, q_FA, q_FH, q_RG, q_RF, q_RB, q_RA, q_RH, q_BG, q_BF, q_BR, q_BA, q_BH, q_AG, q_AF, q_AR, q_AB, q_AH, q_HG, q_HF, q_HR, q_HB, q_HA, q_NG, q_NF, q_NR, q_NB, q_NA, q_NH, q_CG, q_CF, q_CR, q_CB, q_CA, q_CH, q_KG, q_KF, q_KR, q_KB, q_KA, q_KH, q_mGG, q_mGA, q_mAA, q_mAG, q_upd, *]) (fun k hk => by (simp only [q_mAAi, q_mAG, q_upd]; (repeat' split) <;> (first | rfl | (subst_vars; rfl) | (subst_vars; contradiction) | (subst_vars; simp_all))))
    obtain ⟨σ', ρ', h1, h2, h3, h4, h5, h6⟩ := sim_tell (j := j) hc h' ⟨hT.1, hT.2.1, hT.2.2.1, hT.2.2.2⟩ 2 (-1)
    refine ⟨σ', ρ', fun post hp => ?_, fun post hp => ?_, h3, h4, Fr.trans (fun i e => ⟨rfl, rfl⟩) h5, h6⟩
    · refine wt_yes hT.1 hT.2.1 ⟨fun _ => cmd_yes hcl.kndB.1 hk ⟨fun e => absurd e (by decide), fun _ => h1 _ hp⟩, fun e => absurd e (by decide)⟩
    · unfold wp_m_stop
      rw [cl8 hc, ← hcl.knd]
      exact ⟨in8 hc, fun e => absurd e hk, fun _ => h2 _ hp⟩
/-- one request's cells -/
def Lg (w : Nat → Int32) (r : Nat) (v0 v1 v2 v3 v4 v5 v6 v7 : Int32) : Nat → Int32 := upd (upd (upd (upd (upd (upd (upd (upd w r v0) (r + 1) v1) (r + 2) v2) (r + 3) v3) (r + 4) v4) (r + 5) v5) (r + 6) v6) (r + 7) v7
theorem Lg_eq {w w' : Nat → Int32} {r q : Nat} {v0 v1 v2 v3 v4 v5 v6 v7 : Int32} (h : w q = w' q) : Lg w r v0 v1 v2 v3 v4 v5 v6 v7 q = Lg w' r v0 v1 v2 v3 v4 v5 v6 v7 q := by
  simp only [Lg, upd, h]
theorem go63 {post : Sm → Prop} {ρ : Sm} {c r : Nat} (hc : c < 8) (hr : r + 7 < 512) (own : Int32) (hp : wp_m_alarm post (vG 4 (mG ρ 4 + 1) (vA 17 (Lg (mA ρ 17) r (nI c) (mA ρ 2 c) (mA ρ 5 c) (if mA ρ 7 c = 0 then mA ρ 8 c else 6) (if own = 0 then -1 else mA ρ 3 c) (if own = 0 then 0 else mA ρ 4 c) (if mA ρ 7 c = 0 then mA ρ 13 c else 0) (mG ρ 1)) ρ)) (nI c) 60 1) : wpc_m_go_C63 post ρ (nI c) own (nI r) := by
  have e1 : nI r + 1 = nI (r + 1) := nI_add r 1
  have e2 : nI r + 2 = nI (r + 2) := nI_add r 2
  have e3 : nI r + 3 = nI (r + 3) := nI_add r 3
  have e4 : nI r + 4 = nI (r + 4) := nI_add r 4
  have e5 : nI r + 5 = nI (r + 5) := nI_add r 5
  have e6 : nI r + 6 = nI (r + 6) := nI_add r 6
  have e7 : nI r + 7 = nI (r + 7) := nI_add r 7
  have vi : ∀ k, k ≤ 7 → vp_in (nI (r + k)) 512 := fun k hk => vp_in_nI (by omega) (by decide)
  have hi8 := in8 hc
  have cc : ∀ k, k ≤ 7 → (nI (r + k)).toNatClampNeg = r + k := fun k hk => clN (by omega)
  have c0 : (nI r).toNatClampNeg = r := clN (by omega)
  unfold wpc_m_go_C63 wpc_m_go_C126 wpc_m_go_C170
  simp only [e1, e2, e3, e4, e5, e6, e7, c0, cc 1 (by decide), cc 2 (by decide), cc 3 (by decide), cc 4 (by decide), cc 5 (by decide), cc 6 (by decide), cc 7 (by decide), cl8 hc, vA_vA]
  refine ⟨vi 0 (by decide), in8 hc, vi 1 (by decide), vi 2 (by decide), fun ho => ?_, fun ho => ?_⟩
  · rw [if_pos ho, if_pos ho] at hp
    refine ⟨vi 3 (by decide), fun hw => ?_, fun hw => ?_⟩
    · rw [if_pos hw, if_pos hw] at hp
      exact ⟨vi 4 (by decide), vi 5 (by decide), hi8, fun _ => ⟨vi 6 (by decide), vi 7 (by decide), hp⟩, fun e => absurd ho e⟩
    · rw [if_neg hw, if_neg hw] at hp
      exact ⟨hi8, vi 4 (by decide), vi 5 (by decide), hi8, fun _ => ⟨vi 6 (by decide), vi 7 (by decide), hp⟩, fun e => absurd ho e⟩
  · rw [if_neg ho, if_neg ho] at hp
    refine ⟨vi 3 (by decide), fun hw => ?_, fun hw => ?_⟩
    · rw [if_pos hw, if_pos hw] at hp
      exact ⟨vi 4 (by decide), vi 5 (by decide), hi8, fun e => absurd e ho, fun _ => ⟨vi 6 (by decide), vi 7 (by decide), hp⟩⟩
    · rw [if_neg hw, if_neg hw] at hp
      exact ⟨hi8, vi 4 (by decide), vi 5 (by decide), hi8, fun e => absurd e ho, fun _ => ⟨vi 6 (by decide), vi 7 (by decide), hp⟩⟩
theorem logAdd_spec {post : Sg → Prop} {σ : Sg} {c t : Nat} {a1 own : Int32} (ht : t < 2147483648) (h4 : sG σ 4 = nI t) (h0 : 0 ≤ (sF σ 6 c).toInt) (hown : own = if sF σ 12 c = 0 then (if 3 ≤ sF σ 6 c then 0 else 1) else 0) (hp : post (uG 4 (sG σ 4 + 1) (uA 1 (Lg (sA σ 1) (t % 64 * 8) (sF σ 0 c) (sF σ 7 c) (sF σ 10 c) (if sF σ 12 c = 0 then sF σ 6 c else 6) (if own = 0 then -1 else sF σ 8 c) (if own = 0 then 0 else sF σ 9 c) (if sF σ 12 c = 0 then sF σ 3 c else 0) a1) σ))) : wp_logAdd post σ c a1 := by
  have hm : t % 64 < 64 := Nat.mod_lt _ (by decide)
  obtain ⟨r, hr⟩ : ∃ r, t % 64 * 8 = r := ⟨_, rfl⟩
  have hrl : r + 7 < 512 := by omega
  have er : (sG σ 4 &&& 63) * 8 = nI r := by
    rw [h4, pk_andN (k := 6) (by omega) (by decide), show (8 : Int32) = nI 8 from rfl, pk_mul, hr]
  have e1 : nI r + 1 = nI (r + 1) := nI_add r 1
  have e2 : nI r + 2 = nI (r + 2) := nI_add r 2
  have e3 : nI r + 3 = nI (r + 3) := nI_add r 3
  have e4 : nI r + 4 = nI (r + 4) := nI_add r 4
  have e5 : nI r + 5 = nI (r + 5) := nI_add r 5
  have e6 : nI r + 6 = nI (r + 6) := nI_add r 6
  have e7 : nI r + 7 = nI (r + 7) := nI_add r 7
  have vi : ∀ k, k ≤ 7 → vp_in (nI (r + k)) 512 := fun k hk => vp_in_nI (by omega) (by decide)
  have cc : ∀ k, k ≤ 7 → (nI (r + k)).toNatClampNeg = r + k := fun k hk => clN (by omega)
  have c0 : (nI r).toNatClampNeg = r := clN (by omega)
  rw [hr] at hp
  unfold wp_logAdd wp_firstCell
  simp only [er, e1, e2, e3, e4, e5, e6, e7, c0, cc 1 (by decide), cc 2 (by decide), cc 3 (by decide), cc 4 (by decide), cc 5 (by decide), cc 6 (by decide), cc 7 (by decide), uA_uA]
  have v0 : vp_in (nI r) 512 := vi 0 (by decide)
  have v1 := vi 1 (by decide)
  have v2 := vi 2 (by decide)
  have v3 := vi 3 (by decide)
  have v4 := vi 4 (by decide)
  have v5 := vi 5 (by decide)
  have v6 := vi 6 (by decide)
  have v7 := vi 7 (by decide)
  by_cases ho : sF σ 12 c = 0
  · by_cases hk : 3 ≤ sF σ 6 c
    · simp only [ho, hk, if_true] at hown hp
      subst hown
      refine ⟨fun e => absurd ho e, fun _ => cmd_no hk ?_⟩
      simp [v0, v1, v2, v3, v4, v5, v6, v7, ho, er, e1, e2, e3, e4, e5, e6, e7, c0, cc, uA_uA] at hp ⊢
      exact hp
    · simp only [ho, hk, if_true, if_false] at hown hp
      subst hown
      refine ⟨fun e => absurd ho e, fun _ => cmd_yes h0 hk ?_⟩
      simp [v0, v1, v2, v3, v4, v5, v6, v7, ho, er, e1, e2, e3, e4, e5, e6, e7, c0, cc, uA_uA] at hp ⊢
      exact hp
  · simp only [ho, if_false] at hown hp
    subst hown
    refine ⟨fun _ => ?_, fun e => absurd e ho⟩
    simp [v0, v1, v2, v3, v4, v5, v6, v7, ho, er, e1, e2, e3, e4, e5, e6, e7, c0, cc, uA_uA] at hp ⊢
    exact hp
theorem Rr.wide {B B' : Nat} {σ : Sg} {ρ : Sm} (hr : Rr B σ ρ) (h : B ≤ B') : Rr B' σ ρ := ⟨hr.tape, hr.tapeB, hr.now, ⟨hr.nowB.1, by have := hr.nowB.2; omega⟩, hr.mom, hr.made, ⟨hr.madeB.1, by have := hr.madeB.2; omega⟩, hr.tot, ⟨hr.totB.1, by have := hr.totB.2; omega⟩, hr.asked, hr.askN, hr.nB, hr.cB, hr.nC, hr.fed, hr.log, hr.lst, hr.lsB, hr.his, hr.cl⟩
theorem r64 {t : Nat} (ht : t < 2147483648) : (8 : Int32) * (nI t - nI t / 64 * 64) = nI (t % 64 * 8) := by
  rw [show (64 : Int32) = nI 64 from rfl, pk_rem ht (by decide) (by decide), show (8 : Int32) = nI 8 from rfl, pk_mul, Nat.mul_comm]
theorem sim_send {B : Nat} {σ : Sg} {ρ : Sm} {c j : Nat} (hc : c < 8) (hB : B < 1000000000) (h : Rt B σ ρ c) (hT : Tw σ ρ c j) (hT1 : 0 ≤ (sF σ 11 c).toInt ∧ (sF σ 11 c).toInt ≤ 40) : ∃ (σ' : Sg) (ρ' : Sm), (∀ post : Sg → Prop, post σ' → wp_send post σ c) ∧ (∀ post : Sm → Prop, post ρ' → wp_m_go post ρ (nI c)) ∧ Rl (B + 2) σ' ρ' ∧ sC σ' = sC σ ∧ Fr σ σ' c ∧ (sG σ' 1 = sG σ 1 ∧ mG ρ' 0 = mG ρ 0 ∧ sN σ' = sN σ) ∧ (sR σ' c = none ∨ (sR σ' c = some j ∧ (sF σ' 11 c).toInt = (sF σ 11 c).toInt + 1)) := by
  obtain ⟨hr, hq⟩ := h
  have hcl := hr.cl c hc
  obtain ⟨t1, t2, t3, t4⟩ := hT
  have e1 : (sF σ 11 c + 1).toInt = (sF σ 11 c).toInt + 1 := iq_add (by show _ ≤ (_ : Int) + 1; omega) (by show (_ : Int) + 1 < _; omega)
  have ht := hcl.tri
  have hk0 := hcl.kndB.1
  have hR2 : Rt B (uF 11 c (sF σ 11 c + 1) σ) (vA 6 (upd (mA ρ 6) c (mA ρ 6 c + 1)) ρ) c := by
    refine ⟨⟨hr.tape, hr.tapeB, hr.now, hr.nowB, hr.mom, hr.made, hr.madeB, hr.tot, hr.totB, hr.asked, hr.askN, hr.nB, hr.cB, hr.nC, hr.fed, hr.log, hr.lst, hr.lsB, hr.his, fun i hi => ?_⟩, fun i hi e => ?_⟩
    · by_cases e : i = c
      · subst e
        refine ⟨hcl.idx, hcl.tgt, hcl.tgtB, hcl.ses, hcl.sesB, hcl.ser, hcl.num, ?_, hcl.opn, hcl.opnB, hcl.knd, hcl.kndB, hcl.dsz, hcl.dszB, hcl.dat, hcl.asz, hcl.aszB, hcl.ans⟩
        simp [q_GG, q_FF, q_RR, q_BB, q_AA, q_HH, q_GF, q_GR, q_GB, q_GA, q_GH, q_FG, q_FR, q_FB, q_FA, q_FH, q_RG, q_RF, q_RB, q_RA, q_RH, q_BG, q_BF, q_BR, q_BA, q_BH, q_AG, q_AF, q_AR, q_AB, q_AH, q_HG, q_HF, q_HR, q_HB, q_HA, q_NG, q_NF, q_NR, q_NB, q_NA, q_NH, q_CG, q_CF, q_CR, q_CB, q_CA, q_CH, q_KG, q_KF, q_KR, q_KB, q_KA, q_KH, q_mGG, q_mGA, q_mAA, q_mAG, q_upd, *]
      · exact (hr.cl i hi).congr (fun k _ => by simp [q_GG, q_FF, q_RR, q_BB, q_AA, q_HH, q_GF, q_GR, q_GB, q_GA, q_GH, q_FG, q_FR, q_FB, q_FA, q_FH, q_RG, q_RF, q_RB, q_RA, q_RH, q_BG, q_BF, q_BR, q_BA, q_BH, q_AG, q_AF, q_AR, q_AB, q_AH, q_HG, q_HF, q_HR, q_HB, q_HA, q_NG, q_NF, q_NR, q_NB, q_NA, q_NH, q_CG, q_CF, q_CR, q_CB, q_CA, q_CH, q_KG, q_KF, q_KR, q_KB, q_KA, q_KH, q_mGG, q_mGA, q_mAA, q_mAG, q_upd, *]) (fun _ _ => rfl) (fun k hk => by (simp only [q_mAAi, q_mAG, q_upd]; (repeat' split) <;> (first | rfl | (subst_vars; rfl) | (subst_vars; contradiction) | (subst_vars; simp_all)))) (fun _ _ => rfl) (fun _ _ => rfl)
    · exact (hq i hi e).congr (by simp [q_GG, q_FF, q_RR, q_BB, q_AA, q_HH, q_GF, q_GR, q_GB, q_GA, q_GH, q_FG, q_FR, q_FB, q_FA, q_FH, q_RG, q_RF, q_RB, q_RA, q_RH, q_BG, q_BF, q_BR, q_BA, q_BH, q_AG, q_AF, q_AR, q_AB, q_AH, q_HG, q_HF, q_HR, q_HB, q_HA, q_NG, q_NF, q_NR, q_NB, q_NA, q_NH, q_CG, q_CF, q_CR, q_CB, q_CA, q_CH, q_KG, q_KF, q_KR, q_KB, q_KA, q_KH, q_mGG, q_mGA, q_mAA, q_mAG, q_upd, *]) (Nat.le_refl _) (Int.le_refl _) (fun k _ => by simp [q_GG, q_FF, q_RR, q_BB, q_AA, q_HH, q_GF, q_GR, q_GB, q_GA, q_GH, q_FG, q_FR, q_FB, q_FA, q_FH, q_RG, q_RF, q_RB, q_RA, q_RH, q_BG, q_BF, q_BR, q_BA, q_BH, q_AG, q_AF, q_AR, q_AB, q_AH, q_HG, q_HF, q_HR, q_HB, q_HA, q_NG, q_NF, q_NR, q_NB, q_NA, q_NH, q_CG, q_CF, q_CR, q_CB, q_CA, q_CH, q_KG, q_KF, q_KR, q_KB, q_KA, q_KH, q_mGG, q_mGA, q_mAA, q_mAG, q_upd, *]) (fun k hk => by (simp only [q_mAAi, q_mAG, q_upd]; (repeat' split) <;> (first | rfl | (subst_vars; rfl) | (subst_vars; contradiction) | (subst_vars; simp_all))))
  have hF11 : sF (uF 11 c (sF σ 11 c + 1) σ) 11 c = sF σ 11 c + 1 := by simp [q_GG, q_FF, q_RR, q_BB, q_AA, q_HH, q_GF, q_GR, q_GB, q_GA, q_GH, q_FG, q_FR, q_FB, q_FA, q_FH, q_RG, q_RF, q_RB, q_RA, q_RH, q_BG, q_BF, q_BR, q_BA, q_BH, q_AG, q_AF, q_AR, q_AB, q_AH, q_HG, q_HF, q_HR, q_HB, q_HA, q_NG, q_NF, q_NR, q_NB, q_NA, q_NH, q_CG, q_CF, q_CR, q_CB, q_CA, q_CH, q_KG, q_KF, q_KR, q_KB, q_KA, q_KH, q_mGG, q_mGA, q_mAA, q_mAG, q_upd, *]
  have hu6 : upd (mA ρ 6) c (mA ρ 6 c + 1) c = sF σ 11 c + 1 := by rw [pk_us, ht]
  by_cases h40 : sF σ 11 c + 1 ≤ 40
  · have h40' : (sF σ 11 c).toInt + 1 ≤ 40 := by rw [Int32.le_iff_toInt_le, e1] at h40; exact h40
    obtain ⟨t, htB, ht4⟩ := iq_of (n := B + 1) hr.totB.1 (by have := hr.totB.2; omega) (by omega)
    obtain ⟨own, hown⟩ : ∃ own : Int32, own = if sF σ 12 c = 0 then (if 3 ≤ sF σ 6 c then 0 else 1) else 0 := ⟨_, rfl⟩
    have hr2 := hR2.1
    have e4 : (sG σ 4 + 1).toInt = (sG σ 4).toInt + 1 := iq_add (by have := hr.totB; show _ ≤ (_ : Int) + 1; omega) (by have := hr.totB; show (_ : Int) + 1 < _; omega)
    obtain ⟨L, hL⟩ : ∃ L, L = Lg (sA σ 1) (t % 64 * 8) (sF σ 0 c) (sF σ 7 c) (sF σ 10 c) (if sF σ 12 c = 0 then sF σ 6 c else 6) (if own = 0 then -1 else sF σ 8 c) (if own = 0 then 0 else sF σ 9 c) (if sF σ 12 c = 0 then sF σ 3 c else 0) (sG σ 1) := ⟨_, rfl⟩
    obtain ⟨M, hM⟩ : ∃ M, M = Lg (mA ρ 17) (t % 64 * 8) (nI c) (mA ρ 2 c) (mA ρ 5 c) (if mA ρ 7 c = 0 then mA ρ 8 c else 6) (if own = 0 then -1 else mA ρ 3 c) (if own = 0 then 0 else mA ρ 4 c) (if mA ρ 7 c = 0 then mA ρ 13 c else 0) (mG ρ 1) := ⟨_, rfl⟩
    have hR3 : Rt (B + 1) (uG 4 (sG σ 4 + 1) (uA 1 L (uF 11 c (sF σ 11 c + 1) σ))) (vG 4 (mG ρ 4 + 1) (vA 17 M (vA 6 (upd (mA ρ 6) c (mA ρ 6 c + 1)) ρ))) c := by
      refine ⟨⟨hr.tape, hr.tapeB, hr.now, ⟨hr.nowB.1, by have := hr.nowB.2; show (sG σ 1).toInt ≤ _; omega⟩, hr.mom, hr.made, ⟨hr.madeB.1, by have := hr.madeB.2; show (sG σ 3).toInt ≤ _; omega⟩, ?_, ?_, hr.asked, hr.askN, hr.nB, hr.cB, hr.nC, hr.fed, fun q hq => ?_, hr.lst, hr.lsB, hr.his, fun i hi => ?_⟩, fun i hi e => ?_⟩
      · show sG σ 4 + 1 = mG ρ 4 + 1
        rw [hr.tot]
      · show 0 ≤ (sG σ 4 + 1).toInt ∧ (sG σ 4 + 1).toInt ≤ _
        have := hr.totB
        rw [e4]; omega
      · show L q = M q
        rw [hL, hM, ← hcl.tgt, ← hcl.num, ← hcl.opn, ← hcl.knd, ← hcl.ses, ← hcl.ser, ← hcl.dsz, ← hr.now, ← hcl.idx]
        exact Lg_eq (hr.log q hq)
      · exact (hr2.cl i hi).congr (fun k _ => by simp [q_GG, q_FF, q_RR, q_BB, q_AA, q_HH, q_GF, q_GR, q_GB, q_GA, q_GH, q_FG, q_FR, q_FB, q_FA, q_FH, q_RG, q_RF, q_RB, q_RA, q_RH, q_BG, q_BF, q_BR, q_BA, q_BH, q_AG, q_AF, q_AR, q_AB, q_AH, q_HG, q_HF, q_HR, q_HB, q_HA, q_NG, q_NF, q_NR, q_NB, q_NA, q_NH, q_CG, q_CF, q_CR, q_CB, q_CA, q_CH, q_KG, q_KF, q_KR, q_KB, q_KA, q_KH, q_mGG, q_mGA, q_mAA, q_mAG, q_upd, *]) (fun _ _ => rfl) (fun k hk => by (simp only [q_mAAi, q_mAG, q_upd]; (repeat' split) <;> (first | rfl | (subst_vars; rfl) | (subst_vars; contradiction) | (subst_vars; simp_all)))) (fun _ _ => rfl) (fun _ _ => rfl)
      · exact (hR2.2 i hi e).congr (by simp [q_GG, q_FF, q_RR, q_BB, q_AA, q_HH, q_GF, q_GR, q_GB, q_GA, q_GH, q_FG, q_FR, q_FB, q_FA, q_FH, q_RG, q_RF, q_RB, q_RA, q_RH, q_BG, q_BF, q_BR, q_BA, q_BH, q_AG, q_AF, q_AR, q_AB, q_AH, q_HG, q_HF, q_HR, q_HB, q_HA, q_NG, q_NF, q_NR, q_NB, q_NA, q_NH, q_CG, q_CF, q_CR, q_CB, q_CA, q_CH, q_KG, q_KF, q_KR, q_KB, q_KA, q_KH, q_mGG, q_mGA, q_mAA, q_mAG, q_upd, *]) (Nat.le_refl _) (Int.le_refl _) (fun k _ => by simp [q_GG, q_FF, q_RR, q_BB, q_AA, q_HH, q_GF, q_GR, q_GB, q_GA, q_GH, q_FG, q_FR, q_FB, q_FA, q_FH, q_RG, q_RF, q_RB, q_RA, q_RH, q_BG, q_BF, q_BR, q_BA, q_BH, q_AG, q_AF, q_AR, q_AB, q_AH, q_HG, q_HF, q_HR, q_HB, q_HA, q_NG, q_NF, q_NR, q_NB, q_NA, q_NH, q_CG, q_CF, q_CR, q_CB, q_CA, q_CH, q_KG, q_KF, q_KR, q_KB, q_KA, q_KH, q_mGG, q_mGA, q_mAA, q_mAG, q_upd, *]) (fun k hk => by (simp only [q_mAAi, q_mAG, q_upd]; (repeat' split) <;> (first | rfl | (subst_vars; rfl) | (subst_vars; contradiction) | (subst_vars; simp_all))))
    obtain ⟨σ', ρ', h1, h2, h3, h5, h6, h7, h8, h9⟩ := sim_alarm (j := j) hc (by omega) hR3 ⟨t1, t2, t3, t4⟩ (by show 1 ≤ (sF (uF 11 c (sF σ 11 c + 1) σ) 11 c).toInt ∧ (sF (uF 11 c (sF σ 11 c + 1) σ) 11 c).toInt ≤ 40; rw [hF11, e1]; omega) 60 1 (by decide) (Or.inr rfl)
    have ht31 : t < 2147483648 := by omega
    have hm4 : mG ρ 4 = nI t := by rw [← hr.tot]; exact ht4
    refine ⟨σ', ρ', fun post hp => ⟨fun _ => ?_, fun e => absurd h40 e⟩, fun post hp => ?_, h3, h5, Fr.trans (fun i e => ⟨by simp [q_GG, q_FF, q_RR, q_BB, q_AA, q_HH, q_GF, q_GR, q_GB, q_GA, q_GH, q_FG, q_FR, q_FB, q_FA, q_FH, q_RG, q_RF, q_RB, q_RA, q_RH, q_BG, q_BF, q_BR, q_BA, q_BH, q_AG, q_AF, q_AR, q_AB, q_AH, q_HG, q_HF, q_HR, q_HB, q_HA, q_NG, q_NF, q_NR, q_NB, q_NA, q_NH, q_CG, q_CF, q_CR, q_CB, q_CA, q_CH, q_KG, q_KF, q_KR, q_KB, q_KA, q_KH, q_mGG, q_mGA, q_mAA, q_mAG, q_upd, *], by simp [q_GG, q_FF, q_RR, q_BB, q_AA, q_HH, q_GF, q_GR, q_GB, q_GA, q_GH, q_FG, q_FR, q_FB, q_FA, q_FH, q_RG, q_RF, q_RB, q_RA, q_RH, q_BG, q_BF, q_BR, q_BA, q_BH, q_AG, q_AF, q_AR, q_AB, q_AH, q_HG, q_HF, q_HR, q_HB, q_HA, q_NG, q_NF, q_NR, q_NB, q_NA, q_NH, q_CG, q_CF, q_CR, q_CB, q_CA, q_CH, q_KG, q_KF, q_KR, q_KB, q_KA, q_KH, q_mGG, q_mGA, q_mAA, q_mAG, q_upd, *]⟩) h6, h9, Or.inr ⟨h7.trans t1, ?_⟩⟩
    · refine logAdd_spec (t := t) (own := own) ht31 ht4 hk0 hown ?_
      subst hL
      exact h1 post hp
    · have hg : ∀ own' : Int32, own' = own → wpc_m_go_C63 post (vA 6 (upd (mA ρ 6) c (mA ρ 6 c + 1)) ρ) (nI c) own' (nI (t % 64 * 8)) := by
        intro own' eo
        subst eo
        refine go63 hc (by have : t % 64 < 64 := Nat.mod_lt _ (by decide); omega) own' ?_
        subst hM
        exact h2 post hp
      unfold wp_m_go
      rw [cl8 hc, hm4, r64 ht31]
      refine ⟨in8 hc, fun _ => ⟨fun eo => hg _ ?_, fun eo => ⟨fun ek => hg _ ?_, fun ek => hg _ ?_⟩⟩, fun e => absurd (hu6 ▸ h40) e⟩
      · rw [← hcl.opn] at eo; rw [hown, if_neg eo]
      · rw [← hcl.opn] at eo; rw [← hcl.knd] at ek; rw [hown, if_pos eo, if_pos ek]
      · rw [← hcl.opn] at eo; rw [← hcl.knd] at ek; rw [hown, if_pos eo, if_neg ek]
    · rw [h8]
      show (sF (uF 11 c (sF σ 11 c + 1) σ) 11 c).toInt = _
      rw [hF11, e1]
  · obtain ⟨σ', ρ', h1, h2, h3, h5, h6, h7, h8⟩ := sim_abandon (j := j) hc hR2 ⟨t1, t2, t3, t4⟩
    refine ⟨σ', ρ', fun post hp => ⟨fun e => absurd e h40, fun _ => h1 _ hp⟩, fun post hp => ?_, ⟨h3.1.wide (by omega), h3.2⟩, h5, Fr.trans (fun i e => ⟨by simp [q_GG, q_FF, q_RR, q_BB, q_AA, q_HH, q_GF, q_GR, q_GB, q_GA, q_GH, q_FG, q_FR, q_FB, q_FA, q_FH, q_RG, q_RF, q_RB, q_RA, q_RH, q_BG, q_BF, q_BR, q_BA, q_BH, q_AG, q_AF, q_AR, q_AB, q_AH, q_HG, q_HF, q_HR, q_HB, q_HA, q_NG, q_NF, q_NR, q_NB, q_NA, q_NH, q_CG, q_CF, q_CR, q_CB, q_CA, q_CH, q_KG, q_KF, q_KR, q_KB, q_KA, q_KH, q_mGG, q_mGA, q_mAA, q_mAG, q_upd, *], by simp [q_GG, q_FF, q_RR, q_BB, q_AA, q_HH, q_GF, q_GR, q_GB, q_GA, q_GH, q_FG, q_FR, q_FB, q_FA, q_FH, q_RG, q_RF, q_RB, q_RA, q_RH, q_BG, q_BF, q_BR, q_BA, q_BH, q_AG, q_AF, q_AR, q_AB, q_AH, q_HG, q_HF, q_HR, q_HB, q_HA, q_NG, q_NF, q_NR, q_NB, q_NA, q_NH, q_CG, q_CF, q_CR, q_CB, q_CA, q_CH, q_KG, q_KF, q_KR, q_KB, q_KA, q_KH, q_mGG, q_mGA, q_mAA, q_mAG, q_upd, *]⟩) h6, h8, Or.inl h7⟩
    unfold wp_m_go
    rw [cl8 hc]
    exact ⟨in8 hc, fun e => absurd (hu6 ▸ e) h40, fun _ => h2 _ hp⟩
