theorem Rl.rt {B : Nat} {σ : Sg} {ρ : Sm} (h : Rl B σ ρ) (c : Nat) : Rt B σ ρ c := ⟨h.1, fun i hi _ => h.2 i hi⟩
theorem Rt.cli {B : Nat} {σ σ' : Sg} {ρ ρ' : Sm} {c : Nat} (h : Rt B σ ρ c) (e1 : σ'.1 = σ.1) (e0 : σ'.2.2.2.2 = σ.2.2.2.2) (e2 : ∀ i, i ≠ c → sR σ' i = sR σ i) (e3 : ∀ i k, i ≠ c → sF σ' k i = sF σ k i) (e4 : ∀ i k, i ≠ c → sB σ' k i = sB σ k i) (m1 : ρ'.1 = ρ.1) (m2 : mA ρ' 0 = mA ρ 0) (m3 : mA ρ' 17 = mA ρ 17) (m4 : mA ρ' 18 = mA ρ 18) (m5 : ∀ k i, i ≠ c → (1 ≤ k ∧ k ≤ 13 ∨ k = 15) → mA ρ' k i = mA ρ k i) (m6 : ∀ i q, i ≠ c → q < 232 → mA ρ' 14 (240 * i + q) = mA ρ 14 (240 * i + q)) (m7 : ∀ i q, i ≠ c → q < 134 → mA ρ' 16 (134 * i + q) = mA ρ 16 (134 * i + q)) (hc : Rc σ' ρ' c) : Rt B σ' ρ' c := by
  have hG : ∀ k, sG σ' k = sG σ k := fun k => by unfold sG; rw [e1]
  have hM : ∀ k, mG ρ' k = mG ρ k := fun k => by unfold mG; rw [m1]
  have hA : sA σ' = sA σ := by funext k; unfold sA; rw [e0]
  have hH : sH σ' = sH σ := by funext k; unfold sH; rw [e0]
  have hN : sN σ' = sN σ := by unfold sN; rw [e0]
  have hC : sC σ' = sC σ := by unfold sC; rw [e0]
  have hK : sK σ' = sK σ := by unfold sK; rw [e0]
  obtain ⟨hr, hq⟩ := h
  refine ⟨⟨?_, ?_, ?_, ?_, ?_, ?_, ?_, ?_, ?_, ?_, ?_, ?_, ?_, ?_, ?_, ?_, ?_, ?_, ?_, ?_⟩, ?_⟩
  · rw [hG, hM]; exact hr.tape
  · rw [hG]; exact hr.tapeB
  · rw [hG, hM]; exact hr.now
  · rw [hG]; exact hr.nowB
  · rw [hG, hM]; exact hr.mom
  · rw [hG, hM]; exact hr.made
  · rw [hG]; exact hr.madeB
  · rw [hG, hM]; exact hr.tot
  · rw [hG]; exact hr.totB
  · rw [hG, hM]; exact hr.asked
  · rw [hG, hN]; exact hr.askN
  · rw [hN]; exact hr.nB
  · rw [hC]; exact hr.cB
  · rw [hN, hC]; exact hr.nC
  · rw [hA, m2]; exact hr.fed
  · rw [hA, m3]; exact hr.log
  · rw [hN, hK]; exact hr.lst
  · rw [hN, hK]; exact hr.lsB
  · rw [hN, hH, m4]; exact hr.his
  · intro i hi
    by_cases e : i = c
    · rw [e]; exact hc
    · exact (hr.cl i hi).congr (fun k _ => e3 i k e) (fun k q => by rw [e4 i k e]) (fun k hk => m5 k i e (by omega)) (fun q hq => m6 i q e hq) (fun q hq => m7 i q e hq)
  · intro i hi e
    exact (hq i hi e).congr (e2 i e) (by rw [hN]; exact Nat.le_refl _) (by rw [hG]; exact Int.le_refl _) (fun k _ => e3 i k e) (fun k hk => m5 k i e (by omega))
/-- what a step of client c leaves -/
def StpC (B : Nat) (σ : Sg) (ρ : Sm) (c j : Nat) (σ' : Sg) (ρ' : Sm) : Prop := Rl B σ' ρ' ∧ sC σ' = sC σ ∧ Fr σ σ' c ∧ (sG σ' 1 = sG σ 1 ∧ mG ρ' 0 = mG ρ 0 ∧ sN σ' = sN σ) ∧ (sR σ' c = none ∨ (sR σ' c = some j ∧ (sF σ' 11 c).toInt = (sF σ 11 c).toInt + 1))
theorem sim_open {B : Nat} {σ : Sg} {ρ : Sm} {c j : Nat} (hc : c < 8) (hB : B < 1000000000) (h : Rt B σ ρ c) (hT : Tw σ ρ c j) (hT1 : 0 ≤ (sF σ 11 c).toInt ∧ (sF σ 11 c).toInt ≤ 40) (hk : ¬ 3 ≤ sF σ 6 c) (hs : sF σ 8 c = -1) : ∃ (σ' : Sg) (ρ' : Sm), (∀ post : Sg → Prop, post σ' → wp_requestOpen post σ c) ∧ (∀ post : Sm → Prop, post ρ' → wp_m_begin post ρ (nI c)) ∧ StpC (B + 2) σ ρ c j σ' ρ' := by
  have hcl := h.1.cl c hc
  have hn := hcl.num
  have h2 : Rt B (uF 10 c (sF σ 10 c + 1) (uF 12 c 1 σ)) (vA 5 (upd (mA ρ 5) c (mA ρ 5 c + 1)) (vA 7 (upd (mA ρ 7) c 1) ρ)) c := by
    refine h.cli rfl rfl (fun i e => rfl) (fun i k e => by simp [q_GG, q_FF, q_RR, q_BB, q_AA, q_HH, q_GF, q_GR, q_GB, q_GA, q_GH, q_FG, q_FR, q_FB, q_FA, q_FH, q_RG, q_RF, q_RB, q_RA, q_RH, q_BG, q_BF, q_BR, q_BA, q_BH, q_AG, q_AF, q_AR, q_AB, q_AH, q_HG, q_HF, q_HR, q_HB, q_HA, q_NG, q_NF, q_NR, q_NB, q_NA, q_NH, q_CG, q_CF, q_CR, q_CB, q_CA, q_CH, q_KG, q_KF, q_KR, q_KB, q_KA, q_KH, q_mGG, q_mGA, q_mAA, q_mAG, q_upd, *]) (fun i k e => rfl) rfl rfl rfl rfl (fun k i e _ => by (simp only [q_mAAi, q_mAG, q_upd]; (repeat' split) <;> (first | rfl | (subst_vars; rfl) | (subst_vars; contradiction) | (subst_vars; simp_all)))) (fun i q e _ => rfl) (fun i q e _ => rfl) ⟨hcl.idx, hcl.tgt, hcl.tgtB, hcl.ses, hcl.sesB, hcl.ser, ?_, hcl.tri, ?_, ?_, hcl.knd, hcl.kndB, hcl.dsz, hcl.dszB, hcl.dat, hcl.asz, hcl.aszB, hcl.ans⟩
    · simp [q_GG, q_FF, q_RR, q_BB, q_AA, q_HH, q_GF, q_GR, q_GB, q_GA, q_GH, q_FG, q_FR, q_FB, q_FA, q_FH, q_RG, q_RF, q_RB, q_RA, q_RH, q_BG, q_BF, q_BR, q_BA, q_BH, q_AG, q_AF, q_AR, q_AB, q_AH, q_HG, q_HF, q_HR, q_HB, q_HA, q_NG, q_NF, q_NR, q_NB, q_NA, q_NH, q_CG, q_CF, q_CR, q_CB, q_CA, q_CH, q_KG, q_KF, q_KR, q_KB, q_KA, q_KH, q_mGG, q_mGA, q_mAA, q_mAG, q_upd, *]
    · simp [q_GG, q_FF, q_RR, q_BB, q_AA, q_HH, q_GF, q_GR, q_GB, q_GA, q_GH, q_FG, q_FR, q_FB, q_FA, q_FH, q_RG, q_RF, q_RB, q_RA, q_RH, q_BG, q_BF, q_BR, q_BA, q_BH, q_AG, q_AF, q_AR, q_AB, q_AH, q_HG, q_HF, q_HR, q_HB, q_HA, q_NG, q_NF, q_NR, q_NB, q_NA, q_NH, q_CG, q_CF, q_CR, q_CB, q_CA, q_CH, q_KG, q_KF, q_KR, q_KB, q_KA, q_KH, q_mGG, q_mGA, q_mAA, q_mAG, q_upd, *]
    · right; simp [q_GG, q_FF, q_RR, q_BB, q_AA, q_HH, q_GF, q_GR, q_GB, q_GA, q_GH, q_FG, q_FR, q_FB, q_FA, q_FH, q_RG, q_RF, q_RB, q_RA, q_RH, q_BG, q_BF, q_BR, q_BA, q_BH, q_AG, q_AF, q_AR, q_AB, q_AH, q_HG, q_HF, q_HR, q_HB, q_HA, q_NG, q_NF, q_NR, q_NB, q_NA, q_NH, q_CG, q_CF, q_CR, q_CB, q_CA, q_CH, q_KG, q_KF, q_KR, q_KB, q_KA, q_KH, q_mGG, q_mGA, q_mAA, q_mAG, q_upd, *]
  obtain ⟨σ', ρ', s1, s2, s3, s4, s5, s6, s7⟩ := sim_send hc hB h2 (j := j) ⟨hT.1, hT.2.1, hT.2.2.1, hT.2.2.2⟩ hT1
  refine ⟨σ', ρ', fun post hp => s1 _ hp, fun post hp => ?_, s3, s4, Fr.trans (fun i e => ⟨rfl, rfl⟩) s5, s6, s7⟩
  unfold wp_m_begin
  rw [cl8 hc, nb0, nb1, ← hcl.knd, ← hcl.ses]
  refine ⟨in8 hc, fun e => absurd e hk, fun _ => ⟨fun e => ?_, fun _ => ⟨fun _ => s2 _ hp, fun e => ?_⟩⟩⟩
  · rw [hs] at e; exact absurd e (by decide)
  · rw [pk_us] at e; exact absurd e (by decide)
theorem sim_what {B : Nat} {σ : Sg} {ρ : Sm} {c j : Nat} (hc : c < 8) (hB : B < 1000000000) (h : Rt B σ ρ c) (hT : Tw σ ρ c j) (hT1 : 0 ≤ (sF σ 11 c).toInt ∧ (sF σ 11 c).toInt ≤ 40) (hk : 3 ≤ sF σ 6 c ∨ sF σ 8 c ≠ -1) : ∃ (σ' : Sg) (ρ' : Sm), (∀ post : Sg → Prop, post σ' → wp_requestWhatWasAsked post σ c) ∧ (∀ post : Sm → Prop, post ρ' → wp_m_begin post ρ (nI c)) ∧ StpC (B + 2) σ ρ c j σ' ρ' := by
  have hcl := h.1.cl c hc
  have hn := hcl.num
  have hse := hcl.ser
  have h2 : Rt B (uF 10 c (sF σ 10 c + 1) (uF 12 c 0 σ)) (vA 5 (upd (mA ρ 5) c (mA ρ 5 c + 1)) (vA 7 (upd (mA ρ 7) c 0) ρ)) c := by
    refine h.cli rfl rfl (fun i e => rfl) (fun i k e => by simp [q_GG, q_FF, q_RR, q_BB, q_AA, q_HH, q_GF, q_GR, q_GB, q_GA, q_GH, q_FG, q_FR, q_FB, q_FA, q_FH, q_RG, q_RF, q_RB, q_RA, q_RH, q_BG, q_BF, q_BR, q_BA, q_BH, q_AG, q_AF, q_AR, q_AB, q_AH, q_HG, q_HF, q_HR, q_HB, q_HA, q_NG, q_NF, q_NR, q_NB, q_NA, q_NH, q_CG, q_CF, q_CR, q_CB, q_CA, q_CH, q_KG, q_KF, q_KR, q_KB, q_KA, q_KH, q_mGG, q_mGA, q_mAA, q_mAG, q_upd, *]) (fun i k e => rfl) rfl rfl rfl rfl (fun k i e _ => by (simp only [q_mAAi, q_mAG, q_upd]; (repeat' split) <;> (first | rfl | (subst_vars; rfl) | (subst_vars; contradiction) | (subst_vars; simp_all)))) (fun i q e _ => rfl) (fun i q e _ => rfl) ⟨hcl.idx, hcl.tgt, hcl.tgtB, hcl.ses, hcl.sesB, hcl.ser, ?_, hcl.tri, ?_, ?_, hcl.knd, hcl.kndB, hcl.dsz, hcl.dszB, hcl.dat, hcl.asz, hcl.aszB, hcl.ans⟩
    · simp [q_GG, q_FF, q_RR, q_BB, q_AA, q_HH, q_GF, q_GR, q_GB, q_GA, q_GH, q_FG, q_FR, q_FB, q_FA, q_FH, q_RG, q_RF, q_RB, q_RA, q_RH, q_BG, q_BF, q_BR, q_BA, q_BH, q_AG, q_AF, q_AR, q_AB, q_AH, q_HG, q_HF, q_HR, q_HB, q_HA, q_NG, q_NF, q_NR, q_NB, q_NA, q_NH, q_CG, q_CF, q_CR, q_CB, q_CA, q_CH, q_KG, q_KF, q_KR, q_KB, q_KA, q_KH, q_mGG, q_mGA, q_mAA, q_mAG, q_upd, *]
    · simp [q_GG, q_FF, q_RR, q_BB, q_AA, q_HH, q_GF, q_GR, q_GB, q_GA, q_GH, q_FG, q_FR, q_FB, q_FA, q_FH, q_RG, q_RF, q_RB, q_RA, q_RH, q_BG, q_BF, q_BR, q_BA, q_BH, q_AG, q_AF, q_AR, q_AB, q_AH, q_HG, q_HF, q_HR, q_HB, q_HA, q_NG, q_NF, q_NR, q_NB, q_NA, q_NH, q_CG, q_CF, q_CR, q_CB, q_CA, q_CH, q_KG, q_KF, q_KR, q_KB, q_KA, q_KH, q_mGG, q_mGA, q_mAA, q_mAG, q_upd, *]
    · left; simp [q_GG, q_FF, q_RR, q_BB, q_AA, q_HH, q_GF, q_GR, q_GB, q_GA, q_GH, q_FG, q_FR, q_FB, q_FA, q_FH, q_RG, q_RF, q_RB, q_RA, q_RH, q_BG, q_BF, q_BR, q_BA, q_BH, q_AG, q_AF, q_AR, q_AB, q_AH, q_HG, q_HF, q_HR, q_HB, q_HA, q_NG, q_NF, q_NR, q_NB, q_NA, q_NH, q_CG, q_CF, q_CR, q_CB, q_CA, q_CH, q_KG, q_KF, q_KR, q_KB, q_KA, q_KH, q_mGG, q_mGA, q_mAA, q_mAG, q_upd, *]
  by_cases h3 : 3 ≤ sF σ 6 c
  · obtain ⟨σ', ρ', s1, s2, s3, s4, s5, s6, s7⟩ := sim_send hc hB h2 (j := j) ⟨hT.1, hT.2.1, hT.2.2.1, hT.2.2.2⟩ hT1
    refine ⟨σ', ρ', fun post hp => cmd_no h3 ⟨fun _ => s1 _ hp, fun e => absurd rfl e⟩, fun post hp => ?_, s3, s4, Fr.trans (fun i e => ⟨rfl, rfl⟩) s5, s6, s7⟩
    unfold wp_m_begin
    rw [cl8 hc, nb0, nb1, ← hcl.knd]
    exact ⟨in8 hc, fun _ => s2 _ hp, fun e => absurd h3 e⟩
  · have hs : sF σ 8 c ≠ -1 := by rcases hk with e | e; exact absurd e h3; exact e
    have hs0 : 0 ≤ sF σ 8 c := by
      rcases hcl.sesB with e | e
      · exact absurd e hs
      · rw [Int32.le_iff_toInt_le]; exact e
    have h4 : Rt B (uF 9 c (sF σ 9 c + 1) (uF 10 c (sF σ 10 c + 1) (uF 12 c 0 σ))) (vA 5 (upd (mA ρ 5) c (mA ρ 5 c + 1)) (vA 4 (upd (mA ρ 4) c (mA ρ 4 c + 1)) (vA 7 (upd (mA ρ 7) c 0) ρ))) c := by
      refine h.cli rfl rfl (fun i e => rfl) (fun i k e => by simp [q_GG, q_FF, q_RR, q_BB, q_AA, q_HH, q_GF, q_GR, q_GB, q_GA, q_GH, q_FG, q_FR, q_FB, q_FA, q_FH, q_RG, q_RF, q_RB, q_RA, q_RH, q_BG, q_BF, q_BR, q_BA, q_BH, q_AG, q_AF, q_AR, q_AB, q_AH, q_HG, q_HF, q_HR, q_HB, q_HA, q_NG, q_NF, q_NR, q_NB, q_NA, q_NH, q_CG, q_CF, q_CR, q_CB, q_CA, q_CH, q_KG, q_KF, q_KR, q_KB, q_KA, q_KH, q_mGG, q_mGA, q_mAA, q_mAG, q_upd, *]) (fun i k e => rfl) rfl rfl rfl rfl (fun k i e _ => by (simp only [q_mAAi, q_mAG, q_upd]; (repeat' split) <;> (first | rfl | (subst_vars; rfl) | (subst_vars; contradiction) | (subst_vars; simp_all)))) (fun i q e _ => rfl) (fun i q e _ => rfl) ⟨hcl.idx, hcl.tgt, hcl.tgtB, hcl.ses, hcl.sesB, ?_, ?_, hcl.tri, ?_, ?_, hcl.knd, hcl.kndB, hcl.dsz, hcl.dszB, hcl.dat, hcl.asz, hcl.aszB, hcl.ans⟩
      · simp [q_GG, q_FF, q_RR, q_BB, q_AA, q_HH, q_GF, q_GR, q_GB, q_GA, q_GH, q_FG, q_FR, q_FB, q_FA, q_FH, q_RG, q_RF, q_RB, q_RA, q_RH, q_BG, q_BF, q_BR, q_BA, q_BH, q_AG, q_AF, q_AR, q_AB, q_AH, q_HG, q_HF, q_HR, q_HB, q_HA, q_NG, q_NF, q_NR, q_NB, q_NA, q_NH, q_CG, q_CF, q_CR, q_CB, q_CA, q_CH, q_KG, q_KF, q_KR, q_KB, q_KA, q_KH, q_mGG, q_mGA, q_mAA, q_mAG, q_upd, *]
      · simp [q_GG, q_FF, q_RR, q_BB, q_AA, q_HH, q_GF, q_GR, q_GB, q_GA, q_GH, q_FG, q_FR, q_FB, q_FA, q_FH, q_RG, q_RF, q_RB, q_RA, q_RH, q_BG, q_BF, q_BR, q_BA, q_BH, q_AG, q_AF, q_AR, q_AB, q_AH, q_HG, q_HF, q_HR, q_HB, q_HA, q_NG, q_NF, q_NR, q_NB, q_NA, q_NH, q_CG, q_CF, q_CR, q_CB, q_CA, q_CH, q_KG, q_KF, q_KR, q_KB, q_KA, q_KH, q_mGG, q_mGA, q_mAA, q_mAG, q_upd, *]
      · simp [q_GG, q_FF, q_RR, q_BB, q_AA, q_HH, q_GF, q_GR, q_GB, q_GA, q_GH, q_FG, q_FR, q_FB, q_FA, q_FH, q_RG, q_RF, q_RB, q_RA, q_RH, q_BG, q_BF, q_BR, q_BA, q_BH, q_AG, q_AF, q_AR, q_AB, q_AH, q_HG, q_HF, q_HR, q_HB, q_HA, q_NG, q_NF, q_NR, q_NB, q_NA, q_NH, q_CG, q_CF, q_CR, q_CB, q_CA, q_CH, q_KG, q_KF, q_KR, q_KB, q_KA, q_KH, q_mGG, q_mGA, q_mAA, q_mAG, q_upd, *]
      · left; simp [q_GG, q_FF, q_RR, q_BB, q_AA, q_HH, q_GF, q_GR, q_GB, q_GA, q_GH, q_FG, q_FR, q_FB, q_FA, q_FH, q_RG, q_RF, q_RB, q_RA, q_RH, q_BG, q_BF, q_BR, q_BA, q_BH, q_AG, q_AF, q_AR, q_AB, q_AH, q_HG, q_HF, q_HR, q_HB, q_HA, q_NG, q_NF, q_NR, q_NB, q_NA, q_NH, q_CG, q_CF, q_CR, q_CB, q_CA, q_CH, q_KG, q_KF, q_KR, q_KB, q_KA, q_KH, q_mGG, q_mGA, q_mAA, q_mAG, q_upd, *]
    obtain ⟨σ', ρ', s1, s2, s3, s4, s5, s6, s7⟩ := sim_send hc hB h4 (j := j) ⟨hT.1, hT.2.1, hT.2.2.1, hT.2.2.2⟩ hT1
    refine ⟨σ', ρ', fun post hp => cmd_yes hcl.kndB.1 h3 ⟨fun e => absurd e (by decide), fun _ => s1 _ hp⟩, fun post hp => ?_, s3, s4, Fr.trans (fun i e => ⟨rfl, rfl⟩) s5, s6, s7⟩
    unfold wp_m_begin
    rw [cl8 hc, nb0, nb1, ← hcl.knd, ← hcl.ses]
    exact ⟨in8 hc, fun e => absurd e h3, fun _ => ⟨fun _ => ⟨fun e => absurd (pk_us) e, fun _ => s2 _ hp⟩, fun e => absurd hs0 e⟩⟩
theorem sim_turn {B : Nat} {σ : Sg} {ρ : Sm} {c : Nat} (hc : c < 8) (h : Rt B σ ρ c) : ∃ v : Int32, (∀ post : Sg → Prop, post (uF 7 c v σ) → wp_turnToNextServer post σ c) ∧ v = (mA ρ 2 c + 1) - (mA ρ 2 c + 1) / 7 * 7 ∧ Rt B (uF 7 c v σ) (vA 2 (upd (mA ρ 2) c v) ρ) c := by
  have hcl := h.1.cl c hc
  obtain ⟨k, hk, ek⟩ := iq_of (n := 7) hcl.tgtB.1 hcl.tgtB.2 (by decide)
  have em : mA ρ 2 c = nI k := by rw [← hcl.tgt, ek]
  have h1 : sF σ 7 c + 1 = nI (k + 1) := by rw [ek]; exact nI_1 k
  refine ⟨nI ((k + 1) % 7), fun post hp => ⟨fun e => ?_, fun e => ?_⟩, ?_, ?_⟩
  · rw [h1] at e
    have : 7 ≤ k + 1 := (nI_leI (a := 7) (by decide) (by omega)).mp e
    have : (k + 1) % 7 = 0 := by omega
    rw [this] at hp; exact hp
  · rw [h1] at e ⊢
    have : ¬ 7 ≤ k + 1 := fun q => e ((nI_leI (a := 7) (by decide) (by omega)).mpr q)
    rw [Nat.mod_eq_of_lt (by omega)] at hp; exact hp
  · rw [em, nI_1, show (7 : Int32) = nI 7 from rfl, pk_rem (by omega) (by decide) (by decide)]
  · have hv : (nI ((k + 1) % 7)).toInt = (((k + 1) % 7 : Nat) : Int) := iq_nI (by omega)
    refine h.cli rfl rfl (fun i e => rfl) (fun i k e => by simp [q_GG, q_FF, q_RR, q_BB, q_AA, q_HH, q_GF, q_GR, q_GB, q_GA, q_GH, q_FG, q_FR, q_FB, q_FA, q_FH, q_RG, q_RF, q_RB, q_RA, q_RH, q_BG, q_BF, q_BR, q_BA, q_BH, q_AG, q_AF, q_AR, q_AB, q_AH, q_HG, q_HF, q_HR, q_HB, q_HA, q_NG, q_NF, q_NR, q_NB, q_NA, q_NH, q_CG, q_CF, q_CR, q_CB, q_CA, q_CH, q_KG, q_KF, q_KR, q_KB, q_KA, q_KH, q_mGG, q_mGA, q_mAA, q_mAG, q_upd, *]) (fun i k e => rfl) rfl rfl rfl rfl (fun k i e _ => by (simp only [q_mAAi, q_mAG, q_upd]; (repeat' split) <;> (first | rfl | (subst_vars; rfl) | (subst_vars; contradiction) | (subst_vars; simp_all)))) (fun i q e _ => rfl) (fun i q e _ => rfl) ⟨hcl.idx, ?_, ?_, hcl.ses, hcl.sesB, hcl.ser, hcl.num, hcl.tri, hcl.opn, hcl.opnB, hcl.knd, hcl.kndB, hcl.dsz, hcl.dszB, hcl.dat, hcl.asz, hcl.aszB, hcl.ans⟩
    · simp [q_GG, q_FF, q_RR, q_BB, q_AA, q_HH, q_GF, q_GR, q_GB, q_GA, q_GH, q_FG, q_FR, q_FB, q_FA, q_FH, q_RG, q_RF, q_RB, q_RA, q_RH, q_BG, q_BF, q_BR, q_BA, q_BH, q_AG, q_AF, q_AR, q_AB, q_AH, q_HG, q_HF, q_HR, q_HB, q_HA, q_NG, q_NF, q_NR, q_NB, q_NA, q_NH, q_CG, q_CF, q_CR, q_CB, q_CA, q_CH, q_KG, q_KF, q_KR, q_KB, q_KA, q_KH, q_mGG, q_mGA, q_mAA, q_mAG, q_upd, *]
    · have : sF (uF 7 c (nI ((k + 1) % 7)) σ) 7 c = nI ((k + 1) % 7) := by simp [q_GG, q_FF, q_RR, q_BB, q_AA, q_HH, q_GF, q_GR, q_GB, q_GA, q_GH, q_FG, q_FR, q_FB, q_FA, q_FH, q_RG, q_RF, q_RB, q_RA, q_RH, q_BG, q_BF, q_BR, q_BA, q_BH, q_AG, q_AF, q_AR, q_AB, q_AH, q_HG, q_HF, q_HR, q_HB, q_HA, q_NG, q_NF, q_NR, q_NB, q_NA, q_NH, q_CG, q_CF, q_CR, q_CB, q_CA, q_CH, q_KG, q_KF, q_KR, q_KB, q_KA, q_KH, q_mGG, q_mGA, q_mAA, q_mAG, q_upd, *]
      rw [this, hv]; omega
