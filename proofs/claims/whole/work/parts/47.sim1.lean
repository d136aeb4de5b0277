def Fr (σ σ' : Sg) (c : Nat) : Prop := ∀ i, i ≠ c → sR σ' i = sR σ i ∧ sF σ' 11 i = sF σ 11 i
theorem Fr.trans {σ σ' σ'' : Sg} {c : Nat} (h : Fr σ σ' c) (h' : Fr σ' σ'' c) : Fr σ σ'' c := fun i e => ⟨(h' i e).1.trans (h i e).1, (h' i e).2.trans (h i e).2⟩
theorem cl8 {c : Nat} (hc : c < 8) : (nI c).toNatClampNeg = c := nI_clamp (by omega)
theorem in8 {c : Nat} (hc : c < 8) : vp_in (nI c) 8 := vp_in_nI hc (by decide)
theorem nb0 : vp_nar .boolean 0 = 0 := by decide
theorem nb1 : vp_nar .boolean 1 = 1 := by decide
theorem ix6 (j k : Nat) : (6 : Int32) * nI j + nI k = nI (6 * j + k) := by
  rw [show (6 : Int32) = nI 6 from rfl, pk_mul, nI_add]
theorem clN {n : Nat} (h : n < 2147483648) : (nI n).toNatClampNeg = n := nI_clamp h
theorem sim_tell {B : Nat} {σ : Sg} {ρ : Sm} {c j : Nat} (hc : c < 8) (h : Rt B σ ρ c) (hT : Tw σ ρ c j) (a1 a2 : Int32) : ∃ (σ' : Sg) (ρ' : Sm), (∀ post : Sg → Prop, post σ' → wp_tell post σ c a1 a2) ∧ (∀ post : Sm → Prop, post ρ' → wp_m_told post ρ (nI c) a1 a2) ∧ Rl B σ' ρ' ∧ sC σ' = sC σ ∧ Fr σ σ' c ∧ sR σ' c = none ∧ (sG σ' 1 = sG σ 1 ∧ mG ρ' 0 = mG ρ 0 ∧ sN σ' = sN σ) := by
  obtain ⟨hr, hq⟩ := h
  obtain ⟨t1, t2, t3, t4⟩ := hT
  have hN := hr.nB
  refine ⟨uF 15 c 0 (uF 13 c (-1) (uF 12 c 0 (uR c none (uH 3 j (sG σ 2) (uG 2 (sG σ 2 + 1) (uH 5 j a2 (uH 4 j a1 σ))))))), vA 12 (upd (mA ρ 12) c 0) (vA 11 (upd (mA ρ 11) c 0) (vA 7 (upd (mA ρ 7) c 0) (vA 1 (upd (mA ρ 1) c 0) (vG 2 (mG ρ 2 + 1) (vA 18 (upd (upd (upd (mA ρ 18) (6 * j + 3) (mG ρ 2)) (6 * j + 4) a1) (6 * j + 5) a2) ρ))))), fun post hp => ⟨fun e => ?_, fun j' e => ?_⟩, fun post hp => ?_, ⟨?_, fun i hi => ?_⟩, rfl, fun i hi => ⟨?_, ?_⟩, ?_, rfl, rfl, rfl⟩
  · rw [t1] at e; cases e
  · rw [t1] at e; cases e
    exact ⟨t2, t2, hp⟩
  · unfold wp_m_told wp_m_noAlarm
    rw [cl8 hc, t4, nb0, show (3 : Int32) = nI 3 from rfl, show (4 : Int32) = nI 4 from rfl, show (5 : Int32) = nI 5 from rfl, ix6, ix6, ix6, clN (by omega), clN (by omega), clN (by omega)]
    simp only [vA_vA]
    exact ⟨in8 hc, vp_in_nI (by omega) (by decide), vp_in_nI (by omega) (by decide), vp_in_nI (by omega) (by decide), in8 hc, hp⟩
  · refine ⟨hr.tape, hr.tapeB, hr.now, hr.nowB, ?_, hr.made, hr.madeB, hr.tot, hr.totB, hr.asked, hr.askN, hr.nB, hr.cB, hr.nC, hr.fed, hr.log, hr.lst, hr.lsB, fun j' hj k hk => ?_, fun i hi => ?_⟩
    · show sG σ 2 + 1 = mG ρ 2 + 1
      rw [hr.mom]
    · have hh := hr.his j' hj k hk
      have hm := hr.mom
      by_cases ej : j' = j
      · subst ej
        by_cases k3 : k = 3
        · subst k3; simp [q_GG, q_FF, q_RR, q_BB, q_AA, q_HH, q_GF, q_GR, q_GB, q_GA, q_GH, q_FG, q_FR, q_FB, q_FA, q_FH, q_RG, q_RF, q_RB, q_RA, q_RH, q_BG, q_BF, q_BR, q_BA, q_BH, q_AG, q_AF, q_AR, q_AB, q_AH, q_HG, q_HF, q_HR, q_HB, q_HA, q_NG, q_NF, q_NR, q_NB, q_NA, q_NH, q_CG, q_CF, q_CR, q_CB, q_CA, q_CH, q_KG, q_KF, q_KR, q_KB, q_KA, q_KH, q_mGG, q_mGA, q_mAA, q_mAG, q_upd, *]
        · by_cases k4 : k = 4
          · subst k4; simp [q_GG, q_FF, q_RR, q_BB, q_AA, q_HH, q_GF, q_GR, q_GB, q_GA, q_GH, q_FG, q_FR, q_FB, q_FA, q_FH, q_RG, q_RF, q_RB, q_RA, q_RH, q_BG, q_BF, q_BR, q_BA, q_BH, q_AG, q_AF, q_AR, q_AB, q_AH, q_HG, q_HF, q_HR, q_HB, q_HA, q_NG, q_NF, q_NR, q_NB, q_NA, q_NH, q_CG, q_CF, q_CR, q_CB, q_CA, q_CH, q_KG, q_KF, q_KR, q_KB, q_KA, q_KH, q_mGG, q_mGA, q_mAA, q_mAG, q_upd, *]
          · by_cases k5 : k = 5
            · subst k5; simp [q_GG, q_FF, q_RR, q_BB, q_AA, q_HH, q_GF, q_GR, q_GB, q_GA, q_GH, q_FG, q_FR, q_FB, q_FA, q_FH, q_RG, q_RF, q_RB, q_RA, q_RH, q_BG, q_BF, q_BR, q_BA, q_BH, q_AG, q_AF, q_AR, q_AB, q_AH, q_HG, q_HF, q_HR, q_HB, q_HA, q_NG, q_NF, q_NR, q_NB, q_NA, q_NH, q_CG, q_CF, q_CR, q_CB, q_CA, q_CH, q_KG, q_KF, q_KR, q_KB, q_KA, q_KH, q_mGG, q_mGA, q_mAA, q_mAG, q_upd, *]
            · simp [q_GG, q_FF, q_RR, q_BB, q_AA, q_HH, q_GF, q_GR, q_GB, q_GA, q_GH, q_FG, q_FR, q_FB, q_FA, q_FH, q_RG, q_RF, q_RB, q_RA, q_RH, q_BG, q_BF, q_BR, q_BA, q_BH, q_AG, q_AF, q_AR, q_AB, q_AH, q_HG, q_HF, q_HR, q_HB, q_HA, q_NG, q_NF, q_NR, q_NB, q_NA, q_NH, q_CG, q_CF, q_CR, q_CB, q_CA, q_CH, q_KG, q_KF, q_KR, q_KB, q_KA, q_KH, q_mGG, q_mGA, q_mAA, q_mAG, q_upd, *]
      · have e3 : ¬ 6 * j' + k = 6 * j + 3 := by omega
        have e4 : ¬ 6 * j' + k = 6 * j + 4 := by omega
        have e5 : ¬ 6 * j' + k = 6 * j + 5 := by omega
        simp [q_GG, q_FF, q_RR, q_BB, q_AA, q_HH, q_GF, q_GR, q_GB, q_GA, q_GH, q_FG, q_FR, q_FB, q_FA, q_FH, q_RG, q_RF, q_RB, q_RA, q_RH, q_BG, q_BF, q_BR, q_BA, q_BH, q_AG, q_AF, q_AR, q_AB, q_AH, q_HG, q_HF, q_HR, q_HB, q_HA, q_NG, q_NF, q_NR, q_NB, q_NA, q_NH, q_CG, q_CF, q_CR, q_CB, q_CA, q_CH, q_KG, q_KF, q_KR, q_KB, q_KA, q_KH, q_mGG, q_mGA, q_mAA, q_mAG, q_upd, *]
    · have hcl := hr.cl i hi
      by_cases e : i = c
      · subst e
        refine ⟨hcl.idx, hcl.tgt, hcl.tgtB, hcl.ses, hcl.sesB, hcl.ser, hcl.num, hcl.tri, ?_, ?_, hcl.knd, hcl.kndB, hcl.dsz, hcl.dszB, hcl.dat, hcl.asz, hcl.aszB, hcl.ans⟩
        · simp [q_GG, q_FF, q_RR, q_BB, q_AA, q_HH, q_GF, q_GR, q_GB, q_GA, q_GH, q_FG, q_FR, q_FB, q_FA, q_FH, q_RG, q_RF, q_RB, q_RA, q_RH, q_BG, q_BF, q_BR, q_BA, q_BH, q_AG, q_AF, q_AR, q_AB, q_AH, q_HG, q_HF, q_HR, q_HB, q_HA, q_NG, q_NF, q_NR, q_NB, q_NA, q_NH, q_CG, q_CF, q_CR, q_CB, q_CA, q_CH, q_KG, q_KF, q_KR, q_KB, q_KA, q_KH, q_mGG, q_mGA, q_mAA, q_mAG, q_upd, *]
        · simp [q_GG, q_FF, q_RR, q_BB, q_AA, q_HH, q_GF, q_GR, q_GB, q_GA, q_GH, q_FG, q_FR, q_FB, q_FA, q_FH, q_RG, q_RF, q_RB, q_RA, q_RH, q_BG, q_BF, q_BR, q_BA, q_BH, q_AG, q_AF, q_AR, q_AB, q_AH, q_HG, q_HF, q_HR, q_HB, q_HA, q_NG, q_NF, q_NR, q_NB, q_NA, q_NH, q_CG, q_CF, q_CR, q_CB, q_CA, q_CH, q_KG, q_KF, q_KR, q_KB, q_KA, q_KH, q_mGG, q_mGA, q_mAA, q_mAG, q_upd, *]
      · exact hcl.congr (fun k _ => by simp [q_GG, q_FF, q_RR, q_BB, q_AA, q_HH, q_GF, q_GR, q_GB, q_GA, q_GH, q_FG, q_FR, q_FB, q_FA, q_FH, q_RG, q_RF, q_RB, q_RA, q_RH, q_BG, q_BF, q_BR, q_BA, q_BH, q_AG, q_AF, q_AR, q_AB, q_AH, q_HG, q_HF, q_HR, q_HB, q_HA, q_NG, q_NF, q_NR, q_NB, q_NA, q_NH, q_CG, q_CF, q_CR, q_CB, q_CA, q_CH, q_KG, q_KF, q_KR, q_KB, q_KA, q_KH, q_mGG, q_mGA, q_mAA, q_mAG, q_upd, *]) (fun _ _ => rfl) (fun k hk => by
          (simp only [q_mAAi, q_mAG, q_upd]; (repeat' split) <;> (first | rfl | (subst_vars; rfl) | (subst_vars; contradiction) | (subst_vars; simp_all)))) (fun _ _ => rfl) (fun _ _ => rfl)
  · by_cases e : i = c
    · subst e
      refine Or.inl ⟨?_, ?_, ?_, ?_, ?_, ?_⟩ <;> simp [q_GG, q_FF, q_RR, q_BB, q_AA, q_HH, q_GF, q_GR, q_GB, q_GA, q_GH, q_FG, q_FR, q_FB, q_FA, q_FH, q_RG, q_RF, q_RB, q_RA, q_RH, q_BG, q_BF, q_BR, q_BA, q_BH, q_AG, q_AF, q_AR, q_AB, q_AH, q_HG, q_HF, q_HR, q_HB, q_HA, q_NG, q_NF, q_NR, q_NB, q_NA, q_NH, q_CG, q_CF, q_CR, q_CB, q_CA, q_CH, q_KG, q_KF, q_KR, q_KB, q_KA, q_KH, q_mGG, q_mGA, q_mAA, q_mAG, q_upd, *]
    · refine (hq i hi e).congr (by simp [q_GG, q_FF, q_RR, q_BB, q_AA, q_HH, q_GF, q_GR, q_GB, q_GA, q_GH, q_FG, q_FR, q_FB, q_FA, q_FH, q_RG, q_RF, q_RB, q_RA, q_RH, q_BG, q_BF, q_BR, q_BA, q_BH, q_AG, q_AF, q_AR, q_AB, q_AH, q_HG, q_HF, q_HR, q_HB, q_HA, q_NG, q_NF, q_NR, q_NB, q_NA, q_NH, q_CG, q_CF, q_CR, q_CB, q_CA, q_CH, q_KG, q_KF, q_KR, q_KB, q_KA, q_KH, q_mGG, q_mGA, q_mAA, q_mAG, q_upd, *]) (Nat.le_refl _) (Int.le_refl _) (fun k _ => by simp [q_GG, q_FF, q_RR, q_BB, q_AA, q_HH, q_GF, q_GR, q_GB, q_GA, q_GH, q_FG, q_FR, q_FB, q_FA, q_FH, q_RG, q_RF, q_RB, q_RA, q_RH, q_BG, q_BF, q_BR, q_BA, q_BH, q_AG, q_AF, q_AR, q_AB, q_AH, q_HG, q_HF, q_HR, q_HB, q_HA, q_NG, q_NF, q_NR, q_NB, q_NA, q_NH, q_CG, q_CF, q_CR, q_CB, q_CA, q_CH, q_KG, q_KF, q_KR, q_KB, q_KA, q_KH, q_mGG, q_mGA, q_mAA, q_mAG, q_upd, *]) (fun k hk => by
          (simp only [q_mAAi, q_mAG, q_upd]; (repeat' split) <;> (first | rfl | (subst_vars; rfl) | (subst_vars; contradiction) | (subst_vars; simp_all))))
  · simp [q_GG, q_FF, q_RR, q_BB, q_AA, q_HH, q_GF, q_GR, q_GB, q_GA, q_GH, q_FG, q_FR, q_FB, q_FA, q_FH, q_RG, q_RF, q_RB, q_RA, q_RH, q_BG, q_BF, q_BR, q_BA, q_BH, q_AG, q_AF, q_AR, q_AB, q_AH, q_HG, q_HF, q_HR, q_HB, q_HA, q_NG, q_NF, q_NR, q_NB, q_NA, q_NH, q_CG, q_CF, q_CR, q_CB, q_CA, q_CH, q_KG, q_KF, q_KR, q_KB, q_KA, q_KH, q_mGG, q_mGA, q_mAA, q_mAG, q_upd, *]
  · simp [q_GG, q_FF, q_RR, q_BB, q_AA, q_HH, q_GF, q_GR, q_GB, q_GA, q_GH, q_FG, q_FR, q_FB, q_FA, q_FH, q_RG, q_RF, q_RB, q_RA, q_RH, q_BG, q_BF, q_BR, q_BA, q_BH, q_AG, q_AF, q_AR, q_AB, q_AH, q_HG, q_HF, q_HR, q_HB, q_HA, q_NG, q_NF, q_NR, q_NB, q_NA, q_NH, q_CG, q_CF, q_CR, q_CB, q_CA, q_CH, q_KG, q_KF, q_KR, q_KB, q_KA, q_KH, q_mGG, q_mGA, q_mAA, q_mAG, q_upd, *]
  · simp [q_GG, q_FF, q_RR, q_BB, q_AA, q_HH, q_GF, q_GR, q_GB, q_GA, q_GH, q_FG, q_FR, q_FB, q_FA, q_FH, q_RG, q_RF, q_RB, q_RA, q_RH, q_BG, q_BF, q_BR, q_BA, q_BH, q_AG, q_AF, q_AR, q_AB, q_AH, q_HG, q_HF, q_HR, q_HB, q_HA, q_NG, q_NF, q_NR, q_NB, q_NA, q_NH, q_CG, q_CF, q_CR, q_CB, q_CA, q_CH, q_KG, q_KF, q_KR, q_KB, q_KA, q_KH, q_mGG, q_mGA, q_mAA, q_mAG, q_upd, *]
theorem sim_alarm {B : Nat} {σ : Sg} {ρ : Sm} {c j : Nat} (hc : c < 8) (hB : B < 2000000000) (h : Rt B σ ρ c) (hT : Tw σ ρ c j) (hT1 : 1 ≤ (sF σ 11 c).toInt ∧ (sF σ 11 c).toInt ≤ 40) (a1 a2 : Int32) (hb : 0 ≤ a1.toInt ∧ a1.toInt ≤ 60) (h2 : a2 = 0 ∨ a2 = 1) : ∃ (σ' : Sg) (ρ' : Sm), (∀ post : Sg → Prop, post σ' → wp_makeAlarm post σ c a1 a2) ∧ (∀ post : Sm → Prop, post ρ' → wp_m_alarm post ρ (nI c) a1 a2) ∧ Rl (B + 1) σ' ρ' ∧ sC σ' = sC σ ∧ Fr σ σ' c ∧ sR σ' c = sR σ c ∧ sF σ' 11 c = sF σ 11 c ∧ (sG σ' 1 = sG σ 1 ∧ mG ρ' 0 = mG ρ 0 ∧ sN σ' = sN σ) := by
  obtain ⟨hr, hq⟩ := h
  obtain ⟨t1, t2, t3, t4⟩ := hT
  have n2 : vp_nar .boolean a2 = a2 := by rcases h2 with rfl | rfl <;> decide
  have hn := hr.nowB
  have hm := hr.madeB
  have e1 : (sG σ 3 + 1).toInt = (sG σ 3).toInt + 1 := iq_add (by show _ ≤ (_ : Int) + 1; omega) (by show (_ : Int) + 1 < _; omega)
  have e2 : (sG σ 1 + a1).toInt = (sG σ 1).toInt + a1.toInt := iq_add (by omega) (by omega)
  refine ⟨uG 3 (sG σ 3 + 1) (uF 15 c a2 (uF 14 c (sG σ 3) (uF 13 c (sG σ 1 + a1) σ))), vA 12 (upd (mA ρ 12) c a2) (vA 11 (upd (mA ρ 11) c (mG ρ 3 + 1)) (vA 10 (upd (mA ρ 10) c (mG ρ 1 + a1)) (vG 3 (mG ρ 3 + 1) ρ))), fun post hp => ⟨?_, hp⟩, fun post hp => ?_, ⟨?_, fun i hi => ?_⟩, rfl, fun i hi => ⟨?_, ?_⟩, rfl, ?_, rfl, rfl, rfl⟩
  · rcases h2 with rfl | rfl <;> decide
  · unfold wp_m_alarm
    rw [cl8 hc, n2]
    exact ⟨in8 hc, hp⟩
  · refine ⟨hr.tape, hr.tapeB, hr.now, ⟨hn.1, by have := hn.2; show (sG σ 1).toInt ≤ _; omega⟩, hr.mom, ?_, ?_, hr.tot, ⟨hr.totB.1, by have := hr.totB.2; show (sG σ 4).toInt ≤ _; omega⟩, hr.asked, hr.askN, hr.nB, hr.cB, hr.nC, hr.fed, hr.log, hr.lst, hr.lsB, hr.his, fun i hi => ?_⟩
    · show sG σ 3 + 1 = mG ρ 3 + 1
      rw [hr.made]
    · show 0 ≤ (sG σ 3 + 1).toInt ∧ (sG σ 3 + 1).toInt ≤ _
      rw [e1]; omega
    · have hcl := hr.cl i hi
      by_cases e : i = c
      · subst e
        exact ⟨hcl.idx, hcl.tgt, hcl.tgtB, hcl.ses, hcl.sesB, hcl.ser, hcl.num, hcl.tri, hcl.opn, hcl.opnB, hcl.knd, hcl.kndB, hcl.dsz, hcl.dszB, hcl.dat, hcl.asz, hcl.aszB, hcl.ans⟩
      · exact hcl.congr (fun k _ => by simp [q_GG, q_FF, q_RR, q_BB, q_AA, q_HH, q_GF, q_GR, q_GB, q_GA, q_GH, q_FG, q_FR, q_FB, q_FA, q_FH, q_RG, q_RF, q_RB, q_RA, q_RH, q_BG, q_BF, q_BR, q_BA, q_BH, q_AG, q_AF, q_AR, q_AB, q_AH, q_HG, q_HF, q_HR, q_HB, q_HA, q_NG, q_NF, q_NR, q_NB, q_NA, q_NH, q_CG, q_CF, q_CR, q_CB, q_CA, q_CH, q_KG, q_KF, q_KR, q_KB, q_KA, q_KH, q_mGG, q_mGA, q_mAA, q_mAG, q_upd, *]) (fun _ _ => rfl) (fun k hk => by
          (simp only [q_mAAi, q_mAG, q_upd]; (repeat' split) <;> (first | rfl | (subst_vars; rfl) | (subst_vars; contradiction) | (subst_vars; simp_all)))) (fun _ _ => rfl) (fun _ _ => rfl)
  · by_cases e : i = c
    · subst e
      have hno := hr.now
      have hma := hr.made
      refine Or.inr ⟨j, ⟨t1, t2, t3, t4⟩, hT1, ?_, ?_, ?_, ?_, ?_, ?_, ?_⟩
      · have : sF (uG 3 (sG σ 3 + 1) (uF 15 i a2 (uF 14 i (sG σ 3) (uF 13 i (sG σ 1 + a1) σ)))) 13 i = sG σ 1 + a1 := by simp [q_GG, q_FF, q_RR, q_BB, q_AA, q_HH, q_GF, q_GR, q_GB, q_GA, q_GH, q_FG, q_FR, q_FB, q_FA, q_FH, q_RG, q_RF, q_RB, q_RA, q_RH, q_BG, q_BF, q_BR, q_BA, q_BH, q_AG, q_AF, q_AR, q_AB, q_AH, q_HG, q_HF, q_HR, q_HB, q_HA, q_NG, q_NF, q_NR, q_NB, q_NA, q_NH, q_CG, q_CF, q_CR, q_CB, q_CA, q_CH, q_KG, q_KF, q_KR, q_KB, q_KA, q_KH, q_mGG, q_mGA, q_mAA, q_mAG, q_upd, *]
        rw [this, e2]; omega
      · simp [q_GG, q_FF, q_RR, q_BB, q_AA, q_HH, q_GF, q_GR, q_GB, q_GA, q_GH, q_FG, q_FR, q_FB, q_FA, q_FH, q_RG, q_RF, q_RB, q_RA, q_RH, q_BG, q_BF, q_BR, q_BA, q_BH, q_AG, q_AF, q_AR, q_AB, q_AH, q_HG, q_HF, q_HR, q_HB, q_HA, q_NG, q_NF, q_NR, q_NB, q_NA, q_NH, q_CG, q_CF, q_CR, q_CB, q_CA, q_CH, q_KG, q_KF, q_KR, q_KB, q_KA, q_KH, q_mGG, q_mGA, q_mAA, q_mAG, q_upd, *]
      · have : sF (uG 3 (sG σ 3 + 1) (uF 15 i a2 (uF 14 i (sG σ 3) (uF 13 i (sG σ 1 + a1) σ)))) 14 i = sG σ 3 := by simp [q_GG, q_FF, q_RR, q_BB, q_AA, q_HH, q_GF, q_GR, q_GB, q_GA, q_GH, q_FG, q_FR, q_FB, q_FA, q_FH, q_RG, q_RF, q_RB, q_RA, q_RH, q_BG, q_BF, q_BR, q_BA, q_BH, q_AG, q_AF, q_AR, q_AB, q_AH, q_HG, q_HF, q_HR, q_HB, q_HA, q_NG, q_NF, q_NR, q_NB, q_NA, q_NH, q_CG, q_CF, q_CR, q_CB, q_CA, q_CH, q_KG, q_KF, q_KR, q_KB, q_KA, q_KH, q_mGG, q_mGA, q_mAA, q_mAG, q_upd, *]
        rw [this]; omega
      · have : sF (uG 3 (sG σ 3 + 1) (uF 15 i a2 (uF 14 i (sG σ 3) (uF 13 i (sG σ 1 + a1) σ)))) 14 i = sG σ 3 := by simp [q_GG, q_FF, q_RR, q_BB, q_AA, q_HH, q_GF, q_GR, q_GB, q_GA, q_GH, q_FG, q_FR, q_FB, q_FA, q_FH, q_RG, q_RF, q_RB, q_RA, q_RH, q_BG, q_BF, q_BR, q_BA, q_BH, q_AG, q_AF, q_AR, q_AB, q_AH, q_HG, q_HF, q_HR, q_HB, q_HA, q_NG, q_NF, q_NR, q_NB, q_NA, q_NH, q_CG, q_CF, q_CR, q_CB, q_CA, q_CH, q_KG, q_KF, q_KR, q_KB, q_KA, q_KH, q_mGG, q_mGA, q_mAA, q_mAG, q_upd, *]
        rw [this]
        show _ < (sG σ 3 + 1).toInt
        omega
      · simp [q_GG, q_FF, q_RR, q_BB, q_AA, q_HH, q_GF, q_GR, q_GB, q_GA, q_GH, q_FG, q_FR, q_FB, q_FA, q_FH, q_RG, q_RF, q_RB, q_RA, q_RH, q_BG, q_BF, q_BR, q_BA, q_BH, q_AG, q_AF, q_AR, q_AB, q_AH, q_HG, q_HF, q_HR, q_HB, q_HA, q_NG, q_NF, q_NR, q_NB, q_NA, q_NH, q_CG, q_CF, q_CR, q_CB, q_CA, q_CH, q_KG, q_KF, q_KR, q_KB, q_KA, q_KH, q_mGG, q_mGA, q_mAA, q_mAG, q_upd, *]
      · simp [q_GG, q_FF, q_RR, q_BB, q_AA, q_HH, q_GF, q_GR, q_GB, q_GA, q_GH, q_FG, q_FR, q_FB, q_FA, q_FH, q_RG, q_RF, q_RB, q_RA, q_RH, q_BG, q_BF, q_BR, q_BA, q_BH, q_AG, q_AF, q_AR, q_AB, q_AH, q_HG, q_HF, q_HR, q_HB, q_HA, q_NG, q_NF, q_NR, q_NB, q_NA, q_NH, q_CG, q_CF, q_CR, q_CB, q_CA, q_CH, q_KG, q_KF, q_KR, q_KB, q_KA, q_KH, q_mGG, q_mGA, q_mAA, q_mAG, q_upd, *]
      · have : sF (uG 3 (sG σ 3 + 1) (uF 15 i a2 (uF 14 i (sG σ 3) (uF 13 i (sG σ 1 + a1) σ)))) 15 i = a2 := by simp [q_GG, q_FF, q_RR, q_BB, q_AA, q_HH, q_GF, q_GR, q_GB, q_GA, q_GH, q_FG, q_FR, q_FB, q_FA, q_FH, q_RG, q_RF, q_RB, q_RA, q_RH, q_BG, q_BF, q_BR, q_BA, q_BH, q_AG, q_AF, q_AR, q_AB, q_AH, q_HG, q_HF, q_HR, q_HB, q_HA, q_NG, q_NF, q_NR, q_NB, q_NA, q_NH, q_CG, q_CF, q_CR, q_CB, q_CA, q_CH, q_KG, q_KF, q_KR, q_KB, q_KA, q_KH, q_mGG, q_mGA, q_mAA, q_mAG, q_upd, *]
        rw [this]; exact h2
    · refine (hq i hi e).congr (by simp [q_GG, q_FF, q_RR, q_BB, q_AA, q_HH, q_GF, q_GR, q_GB, q_GA, q_GH, q_FG, q_FR, q_FB, q_FA, q_FH, q_RG, q_RF, q_RB, q_RA, q_RH, q_BG, q_BF, q_BR, q_BA, q_BH, q_AG, q_AF, q_AR, q_AB, q_AH, q_HG, q_HF, q_HR, q_HB, q_HA, q_NG, q_NF, q_NR, q_NB, q_NA, q_NH, q_CG, q_CF, q_CR, q_CB, q_CA, q_CH, q_KG, q_KF, q_KR, q_KB, q_KA, q_KH, q_mGG, q_mGA, q_mAA, q_mAG, q_upd, *]) (Nat.le_refl _) ?_ (fun k _ => by simp [q_GG, q_FF, q_RR, q_BB, q_AA, q_HH, q_GF, q_GR, q_GB, q_GA, q_GH, q_FG, q_FR, q_FB, q_FA, q_FH, q_RG, q_RF, q_RB, q_RA, q_RH, q_BG, q_BF, q_BR, q_BA, q_BH, q_AG, q_AF, q_AR, q_AB, q_AH, q_HG, q_HF, q_HR, q_HB, q_HA, q_NG, q_NF, q_NR, q_NB, q_NA, q_NH, q_CG, q_CF, q_CR, q_CB, q_CA, q_CH, q_KG, q_KF, q_KR, q_KB, q_KA, q_KH, q_mGG, q_mGA, q_mAA, q_mAG, q_upd, *]) (fun k hk => by (simp only [q_mAAi, q_mAG, q_upd]; (repeat' split) <;> (first | rfl | (subst_vars; rfl) | (subst_vars; contradiction) | (subst_vars; simp_all))))
      show _ ≤ (sG σ 3 + 1).toInt
      omega
  · simp [q_GG, q_FF, q_RR, q_BB, q_AA, q_HH, q_GF, q_GR, q_GB, q_GA, q_GH, q_FG, q_FR, q_FB, q_FA, q_FH, q_RG, q_RF, q_RB, q_RA, q_RH, q_BG, q_BF, q_BR, q_BA, q_BH, q_AG, q_AF, q_AR, q_AB, q_AH, q_HG, q_HF, q_HR, q_HB, q_HA, q_NG, q_NF, q_NR, q_NB, q_NA, q_NH, q_CG, q_CF, q_CR, q_CB, q_CA, q_CH, q_KG, q_KF, q_KR, q_KB, q_KA, q_KH, q_mGG, q_mGA, q_mAA, q_mAG, q_upd, *]
  · simp [q_GG, q_FF, q_RR, q_BB, q_AA, q_HH, q_GF, q_GR, q_GB, q_GA, q_GH, q_FG, q_FR, q_FB, q_FA, q_FH, q_RG, q_RF, q_RB, q_RA, q_RH, q_BG, q_BF, q_BR, q_BA, q_BH, q_AG, q_AF, q_AR, q_AB, q_AH, q_HG, q_HF, q_HR, q_HB, q_HA, q_NG, q_NF, q_NR, q_NB, q_NA, q_NH, q_CG, q_CF, q_CR, q_CB, q_CA, q_CH, q_KG, q_KF, q_KR, q_KB, q_KA, q_KH, q_mGG, q_mGA, q_mAA, q_mAG, q_upd, *]
  · simp [q_GG, q_FF, q_RR, q_BB, q_AA, q_HH, q_GF, q_GR, q_GB, q_GA, q_GH, q_FG, q_FR, q_FB, q_FA, q_FH, q_RG, q_RF, q_RB, q_RA, q_RH, q_BG, q_BF, q_BR, q_BA, q_BH, q_AG, q_AF, q_AR, q_AB, q_AH, q_HG, q_HF, q_HR, q_HB, q_HA, q_NG, q_NF, q_NR, q_NB, q_NA, q_NH, q_CG, q_CF, q_CR, q_CB, q_CA, q_CH, q_KG, q_KF, q_KR, q_KB, q_KA, q_KH, q_mGG, q_mGA, q_mAA, q_mAG, q_upd, *]
