theorem uB_uB (k i : Nat) (w w' : Nat → Int32) (σ : Sg) : uB k i w (uB k i w' σ) = uB k i w σ := by
  unfold uB; congr 4; funext a b; simp only [up2]; split
  · split <;> rfl
  · rfl
theorem uB_self (k i : Nat) (σ : Sg) : uB k i (sB σ k i) σ = σ := by
  obtain ⟨g, f, r, b, z⟩ := σ
  unfold uB sB
  simp only
  congr 4
  funext a d; simp only [up2]; split
  · rename_i e; split
    · rename_i e'; rw [e, e']
    · rfl
  · rfl
theorem vA_self (k : Nat) (ρ : Sm) : vA k (mA ρ k) ρ = ρ := by
  obtain ⟨g, a⟩ := ρ
  unfold vA mA
  simp only
  congr 1
  funext d; simp only [va_up]; split
  · rename_i e; rw [e]
  · rfl
theorem uA_self (k : Nat) (σ : Sg) : uA k (sA σ k) σ = σ := by
  obtain ⟨g, f, r, b, a, z⟩ := σ
  unfold uA sA
  simp only
  congr 5
  funext d; simp only [va_up]; split
  · rename_i e; rw [e]
  · rfl
theorem copyD_l {post : Int32 → Sg → Prop} {σ : Sg} {c m : Nat} {x2 : Int32} (hm : m ≤ 232) (hp : ∀ w : Nat → Int32, (∀ q, w q = if q < m then vp_nar .byte (sA σ 0 q) else sB σ 0 c q) → post (nI m) (uB 0 c w σ)) : ∀ (d k : Nat) (w : Nat → Int32), k + d = m → (∀ q, w q = if q < k then vp_nar .byte (sA σ 0 q) else sB σ 0 c q) → wpl_copyD_L15 (d + 1) post (uB 0 c w σ) c x2 (nI m) (nI k) := by
  intro d
  induction d with
  | zero =>
    intro k w e hw
    have : k = m := by omega
    subst this
    exact ⟨fun _ => hp w hw, fun e => absurd (nI_le (Nat.le_refl _) (by omega)) e⟩
  | succ d ih =>
    intro k w e hw
    refine ⟨fun e => absurd e (nI_ge (by omega) (by omega)), fun _ => ⟨vp_in_nI (by omega) (by decide), vp_in_nI (by omega) (by decide), ?_⟩⟩
    have e1 : sB (uB 0 c w σ) 0 c = w := by simp [q_GG, q_FF, q_RR, q_BB, q_AA, q_HH, q_GF, q_GR, q_GB, q_GA, q_GH, q_FG, q_FR, q_FB, q_FA, q_FH, q_RG, q_RF, q_RB, q_RA, q_RH, q_BG, q_BF, q_BR, q_BA, q_BH, q_AG, q_AF, q_AR, q_AB, q_AH, q_HG, q_HF, q_HR, q_HB, q_HA, q_NG, q_NF, q_NR, q_NB, q_NA, q_NH, q_CG, q_CF, q_CR, q_CB, q_CA, q_CH, q_KG, q_KF, q_KR, q_KB, q_KA, q_KH, q_mGG, q_mGA, q_mAA, q_mAG, q_upd, *]
    rw [uB_uB, e1, clN (by omega), nI_1]
    refine ih (k + 1) _ (by omega) (fun q => ?_)
    simp only [upd]
    by_cases eq : q = k
    · subst eq
      rw [if_pos rfl, if_pos (by omega)]; rfl
    · rw [if_neg eq, hw q]
      by_cases h : q < k
      · rw [if_pos h, if_pos (by omega)]
      · rw [if_neg h, if_neg (by omega)]
theorem copyD_spec {post : Int32 → Sg → Prop} {σ : Sg} {c m : Nat} (hm : m ≤ 232) (hp : ∀ w : Nat → Int32, (∀ q, w q = if q < m then vp_nar .byte (sA σ 0 q) else sB σ 0 c q) → post (nI m) (uB 0 c w σ)) : wp_copyD post σ c (nI m) := by
  have e0 : (if (240 : Nat) < 232 then 240 else 232 : Int32) = 232 := by decide
  have e1 : ¬ (232 : Int32) < nI m := fun e => absurd ((nI_ltI (a := 232) (by decide) (by omega)).mp e) (by omega)
  refine ⟨m + 1, ?_⟩
  rw [e0, if_neg e1]
  have := copyD_l (x2 := nI m) hm hp m 0 (sB σ 0 c) (by omega) (fun q => by simp)
  rw [uB_self] at this
  exact this
theorem copyA_l {post : Int32 → Sg → Prop} {σ : Sg} {c m : Nat} {x2 : Int32} (hm : m ≤ 134) (hp : ∀ w : Nat → Int32, (∀ q, w q = if q < m then vp_nar .byte (sA σ 0 q) else sB σ 1 c q) → post (nI m) (uB 1 c w σ)) : ∀ (d k : Nat) (w : Nat → Int32), k + d = m → (∀ q, w q = if q < k then vp_nar .byte (sA σ 0 q) else sB σ 1 c q) → wpl_copyA_L15 (d + 1) post (uB 1 c w σ) c x2 (nI m) (nI k) := by
  intro d
  induction d with
  | zero =>
    intro k w e hw
    have : k = m := by omega
    subst this
    exact ⟨fun _ => hp w hw, fun e => absurd (nI_le (Nat.le_refl _) (by omega)) e⟩
  | succ d ih =>
    intro k w e hw
    refine ⟨fun e => absurd e (nI_ge (by omega) (by omega)), fun _ => ⟨vp_in_nI (by omega) (by decide), vp_in_nI (by omega) (by decide), ?_⟩⟩
    have e1 : sB (uB 1 c w σ) 1 c = w := by simp [q_GG, q_FF, q_RR, q_BB, q_AA, q_HH, q_GF, q_GR, q_GB, q_GA, q_GH, q_FG, q_FR, q_FB, q_FA, q_FH, q_RG, q_RF, q_RB, q_RA, q_RH, q_BG, q_BF, q_BR, q_BA, q_BH, q_AG, q_AF, q_AR, q_AB, q_AH, q_HG, q_HF, q_HR, q_HB, q_HA, q_NG, q_NF, q_NR, q_NB, q_NA, q_NH, q_CG, q_CF, q_CR, q_CB, q_CA, q_CH, q_KG, q_KF, q_KR, q_KB, q_KA, q_KH, q_mGG, q_mGA, q_mAA, q_mAG, q_upd, *]
    rw [uB_uB, e1, clN (by omega), nI_1]
    refine ih (k + 1) _ (by omega) (fun q => ?_)
    simp only [upd]
    by_cases eq : q = k
    · subst eq
      rw [if_pos rfl, if_pos (by omega)]; rfl
    · rw [if_neg eq, hw q]
      by_cases h : q < k
      · rw [if_pos h, if_pos (by omega)]
      · rw [if_neg h, if_neg (by omega)]
theorem copyA_spec {post : Int32 → Sg → Prop} {σ : Sg} {c m : Nat} (hm : m ≤ 134) (hp : ∀ w : Nat → Int32, (∀ q, w q = if q < m then vp_nar .byte (sA σ 0 q) else sB σ 1 c q) → post (nI m) (uB 1 c w σ)) : wp_copyA post σ c (nI m) := by
  have e0 : (if (240 : Nat) < 134 then 240 else 134 : Int32) = 134 := by decide
  have e1 : ¬ (134 : Int32) < nI m := fun e => absurd ((nI_ltI (a := 134) (by decide) (by omega)).mp e) (by omega)
  refine ⟨m + 1, ?_⟩
  rw [e0, if_neg e1]
  have := copyA_l (x2 := nI m) hm hp m 0 (sB σ 1 c) (by omega) (fun q => by simp)
  rw [uB_self] at this
  exact this
theorem askl_l {post : Int32 → Sm → Prop} {ρ : Sm} {c m : Nat} {x2 x3 x4 x6 : Int32} (hc : c < 8) (hm : m ≤ 240) (hm2 : m ≤ 240) (hp : ∀ w : Nat → Int32, (∀ q, w q = if 240 * c ≤ q ∧ q < 240 * c + m then mA ρ 0 (q - 240 * c) else mA ρ 14 q) → wp_m_begin (fun s30 => post ((mG s30 5) - 1) s30) (vA 6 (upd (mA ρ 6) c 0) (vA 1 (upd (mA ρ 1) c 1) (vA 8 (upd (mA ρ 8) c x2) (vA 13 (upd (mA ρ 13) c (nI m)) (vA 14 w ρ))))) (nI c)) : ∀ (d k : Nat) (w : Nat → Int32), k + d = m → (∀ q, w q = if 240 * c ≤ q ∧ q < 240 * c + k then mA ρ 0 (q - 240 * c) else mA ρ 14 q) → wpl_m_ask_L175 (d + 1) post (vA 14 w ρ) (nI c) x2 x3 x4 (nI m) x6 (nI k) := by
  intro d
  induction d with
  | zero =>
    intro k w e hw
    have : k = m := by omega
    subst this
    refine ⟨fun _ => ⟨in8 hc, ?_⟩, fun e => absurd (nI_le (Nat.le_refl _) (by omega)) e⟩
    have := hp w hw
    rw [cl8 hc]
    rw [nb1]; exact this
  | succ d ih =>
    intro k w e hw
    have ei : (240 : Int32) * nI c + nI k = nI (240 * c + k) := by
      rw [show (240 : Int32) = nI 240 from rfl, pk_mul, nI_add]
    refine ⟨fun e => absurd e (nI_ge (by omega) (by omega)), fun _ => ⟨vp_in_nI (by omega) (by decide), ?_, ?_⟩⟩
    · rw [ei]; exact vp_in_nI (by omega) (by decide)
    have e1 : mA (vA 14 w ρ) 14 = w := by simp [q_GG, q_FF, q_RR, q_BB, q_AA, q_HH, q_GF, q_GR, q_GB, q_GA, q_GH, q_FG, q_FR, q_FB, q_FA, q_FH, q_RG, q_RF, q_RB, q_RA, q_RH, q_BG, q_BF, q_BR, q_BA, q_BH, q_AG, q_AF, q_AR, q_AB, q_AH, q_HG, q_HF, q_HR, q_HB, q_HA, q_NG, q_NF, q_NR, q_NB, q_NA, q_NH, q_CG, q_CF, q_CR, q_CB, q_CA, q_CH, q_KG, q_KF, q_KR, q_KB, q_KA, q_KH, q_mGG, q_mGA, q_mAA, q_mAG, q_upd, *]
    rw [vA_vA, e1, ei, clN (by omega), clN (by omega), nI_1]
    refine ih (k + 1) _ (by omega) (fun q => ?_)
    simp only [upd]
    by_cases eq : q = 240 * c + k
    · subst eq
      rw [if_pos rfl, if_pos (by omega)]
      show mA ρ 0 k = _
      congr 1; omega
    · rw [if_neg eq, hw q]
      by_cases h : 240 * c ≤ q ∧ q < 240 * c + k
      · rw [if_pos h, if_pos (by omega)]
      · rw [if_neg h, if_neg (by omega)]
theorem askl_spec {post : Int32 → Sm → Prop} {ρ : Sm} {c m : Nat} {x2 x3 x4 x6 : Int32} (hc : c < 8) (hm : m ≤ 240) (hm2 : m ≤ 240) (hp : ∀ w : Nat → Int32, (∀ q, w q = if 240 * c ≤ q ∧ q < 240 * c + m then mA ρ 0 (q - 240 * c) else mA ρ 14 q) → wp_m_begin (fun s30 => post ((mG s30 5) - 1) s30) (vA 6 (upd (mA ρ 6) c 0) (vA 1 (upd (mA ρ 1) c 1) (vA 8 (upd (mA ρ 8) c x2) (vA 13 (upd (mA ρ 13) c (nI m)) (vA 14 w ρ))))) (nI c)) : ∃ n : Nat, wpl_m_ask_L175 n post ρ (nI c) x2 x3 x4 (nI m) x6 0 := by
  refine ⟨m + 1, ?_⟩
  have := askl_l (x2 := x2) (x3 := x3) (x4 := x4) (x6 := x6) hc hm hm2 hp m 0 (mA ρ 14) (by omega) (fun q => by rw [if_neg (by omega)])
  rw [vA_self] at this
  exact this
theorem repl_l {post : Int32 → Sm → Prop} {ρ : Sm} {c m : Nat} {x2 x3 x4 x6 : Int32} (hc : c < 8) (hm : m ≤ 134) (hm2 : m ≤ 240) (hp : ∀ w : Nat → Int32, (∀ q, w q = if 134 * c ≤ q ∧ q < 134 * c + m then mA ρ 0 (q - 134 * c) else mA ρ 16 q) → wp_m_told (fun s73 => post 1 s73) (vA 15 (upd (mA ρ 15) c (nI m)) (vA 16 w ρ)) (nI c) 1 x4) : ∀ (d k : Nat) (w : Nat → Int32), k + d = m → (∀ q, w q = if 134 * c ≤ q ∧ q < 134 * c + k then mA ρ 0 (q - 134 * c) else mA ρ 16 q) → wpl_m_reply_L196 (d + 1) post (vA 16 w ρ) (nI c) x2 x3 x4 (nI m) x6 (nI k) := by
  intro d
  induction d with
  | zero =>
    intro k w e hw
    have : k = m := by omega
    subst this
    refine ⟨fun _ => ⟨in8 hc, ?_⟩, fun e => absurd (nI_le (Nat.le_refl _) (by omega)) e⟩
    have := hp w hw
    rw [cl8 hc]
    exact this
  | succ d ih =>
    intro k w e hw
    have ei : (134 : Int32) * nI c + nI k = nI (134 * c + k) := by
      rw [show (134 : Int32) = nI 134 from rfl, pk_mul, nI_add]
    refine ⟨fun e => absurd e (nI_ge (by omega) (by omega)), fun _ => ⟨vp_in_nI (by omega) (by decide), ?_, ?_⟩⟩
    · rw [ei]; exact vp_in_nI (by omega) (by decide)
    have e1 : mA (vA 16 w ρ) 16 = w := by simp [q_GG, q_FF, q_RR, q_BB, q_AA, q_HH, q_GF, q_GR, q_GB, q_GA, q_GH, q_FG, q_FR, q_FB, q_FA, q_FH, q_RG, q_RF, q_RB, q_RA, q_RH, q_BG, q_BF, q_BR, q_BA, q_BH, q_AG, q_AF, q_AR, q_AB, q_AH, q_HG, q_HF, q_HR, q_HB, q_HA, q_NG, q_NF, q_NR, q_NB, q_NA, q_NH, q_CG, q_CF, q_CR, q_CB, q_CA, q_CH, q_KG, q_KF, q_KR, q_KB, q_KA, q_KH, q_mGG, q_mGA, q_mAA, q_mAG, q_upd, *]
    rw [vA_vA, e1, ei, clN (by omega), clN (by omega), nI_1]
    refine ih (k + 1) _ (by omega) (fun q => ?_)
    simp only [upd]
    by_cases eq : q = 134 * c + k
    · subst eq
      rw [if_pos rfl, if_pos (by omega)]
      show mA ρ 0 k = _
      congr 1; omega
    · rw [if_neg eq, hw q]
      by_cases h : 134 * c ≤ q ∧ q < 134 * c + k
      · rw [if_pos h, if_pos (by omega)]
      · rw [if_neg h, if_neg (by omega)]
theorem repl_spec {post : Int32 → Sm → Prop} {ρ : Sm} {c m : Nat} {x2 x3 x4 x6 : Int32} (hc : c < 8) (hm : m ≤ 134) (hm2 : m ≤ 240) (hp : ∀ w : Nat → Int32, (∀ q, w q = if 134 * c ≤ q ∧ q < 134 * c + m then mA ρ 0 (q - 134 * c) else mA ρ 16 q) → wp_m_told (fun s73 => post 1 s73) (vA 15 (upd (mA ρ 15) c (nI m)) (vA 16 w ρ)) (nI c) 1 x4) : ∃ n : Nat, wpl_m_reply_L196 n post ρ (nI c) x2 x3 x4 (nI m) x6 0 := by
  refine ⟨m + 1, ?_⟩
  have := repl_l (x2 := x2) (x3 := x3) (x4 := x4) (x6 := x6) hc hm hm2 hp m 0 (mA ρ 16) (by omega) (fun q => by rw [if_neg (by omega)])
  rw [vA_self] at this
  exact this
theorem Rl.byte {B : Nat} {σ : Sg} {ρ : Sm} (h : Rl B σ ρ) (i : Nat) {v v' : Int32} (e : v &&& 255 = v') : Rl B (uA 0 (upd (sA σ 0) i v) σ) (vA 0 (upd (mA ρ 0) i v') ρ) := by
  obtain ⟨hr, hq⟩ := h
  refine ⟨⟨hr.tape, hr.tapeB, hr.now, hr.nowB, hr.mom, hr.made, hr.madeB, hr.tot, hr.totB, hr.asked, hr.askN, hr.nB, hr.cB, hr.nC, fun q hq => ?_, hr.log, hr.lst, hr.lsB, hr.his, fun i hi => ?_⟩, fun i hi => ?_⟩
  · show upd (sA σ 0) i v q &&& 255 = upd (mA ρ 0) i v' q
    simp only [upd]
    split
    · exact e
    · exact hr.fed q hq
  · exact (hr.cl i hi).congr (fun k _ => rfl) (fun _ _ => rfl) (fun k hk => by (simp only [q_mAAi, q_mAG, q_upd]; (repeat' split) <;> (first | rfl | (subst_vars; rfl) | (subst_vars; contradiction) | (subst_vars; simp_all)))) (fun _ _ => rfl) (fun _ _ => rfl)
  · exact (hq i hi).congr rfl (Nat.le_refl _) (Int.le_refl _) (fun k _ => rfl) (fun k hk => by (simp only [q_mAAi, q_mAG, q_upd]; (repeat' split) <;> (first | rfl | (subst_vars; rfl) | (subst_vars; contradiction) | (subst_vars; simp_all))))
theorem Rl.tp {B : Nat} {σ : Sg} {ρ : Sm} (h : Rl B σ ρ) {v : Int32} (hv : 0 ≤ v.toInt ∧ v.toInt ≤ 240) : Rl B (uG 0 v σ) (vG 6 v ρ) := by
  obtain ⟨hr, hq⟩ := h
  refine ⟨⟨rfl, hv, hr.now, hr.nowB, hr.mom, hr.made, hr.madeB, hr.tot, hr.totB, hr.asked, hr.askN, hr.nB, hr.cB, hr.nC, hr.fed, hr.log, hr.lst, hr.lsB, hr.his, fun i hi => ?_⟩, fun i hi => ?_⟩
  · exact (hr.cl i hi).congr (fun k _ => rfl) (fun _ _ => rfl) (fun k hk => rfl) (fun _ _ => rfl) (fun _ _ => rfl)
  · exact (hq i hi).congr rfl (Nat.le_refl _) (Int.le_refl _) (fun k _ => rfl) (fun k hk => rfl)
theorem Rl.th {B : Nat} {σ : Sg} {ρ : Sm} (h : Rl B σ ρ) (v : Int32) : Rl B σ (vG 0 v ρ) := by
  obtain ⟨hr, hq⟩ := h
  refine ⟨⟨hr.tape, hr.tapeB, hr.now, hr.nowB, hr.mom, hr.made, hr.madeB, hr.tot, hr.totB, hr.asked, hr.askN, hr.nB, hr.cB, hr.nC, hr.fed, hr.log, hr.lst, hr.lsB, hr.his, fun i hi => ?_⟩, fun i hi => ?_⟩
  · exact (hr.cl i hi).congr (fun k _ => rfl) (fun _ _ => rfl) (fun k hk => rfl) (fun _ _ => rfl) (fun _ _ => rfl)
  · exact (hq i hi).congr rfl (Nat.le_refl _) (Int.le_refl _) (fun k _ => rfl) (fun k hk => rfl)
theorem feed_l {B t m : Nat} {x : Int64} (hm : m ≤ 8) (hm0 : 1 ≤ m) (htm : t + m ≤ 240) : ∀ (d k : Nat) (σ : Sg) (ρ : Sm), k + d = m → Rl B σ ρ → sG σ 0 = nI t → ∃ (σ' : Sg) (ρ' : Sm), (∀ (post : Int32 → Sg → Prop) (px : String → Sg → Prop), post (nI (t + m)) σ' → wpl_feed_L46 (d + 1) post px σ x (nI m) (nI k)) ∧ (∀ (post : Int32 → Sm → Prop), post (nI (t + m)) ρ' → wpl_m_feed_L42 (d + 1) post ρ x (nI m) (nI k)) ∧ Rl B σ' ρ' ∧ sC σ' = sC σ ∧ mG ρ' 0 = mG ρ 0 := by
  intro d
  induction d with
  | zero =>
    intro k σ ρ e h h0
    have : k = m := by omega
    subst this
    have h6 : mG ρ 6 = nI t := by rw [← h.1.tape]; exact h0
    refine ⟨uG 0 (nI (t + k)) σ, vG 6 (nI (t + k)) ρ, fun post px hp => ⟨fun _ => ?_, fun e => absurd (nI_le (Nat.le_refl _) (by omega)) e⟩, fun post hp => ⟨fun _ => ?_, fun e => absurd (nI_le (Nat.le_refl _) (by omega)) e⟩, h.tp ?_, rfl, rfl⟩
    · rw [h0, nI_add]; exact hp
    · rw [h6, nI_add]; exact hp
    · rw [iq_nI (by omega)]; omega
  | succ d ih =>
    intro k σ ρ e h h0
    have h6 : mG ρ 6 = nI t := by rw [← h.1.tape]; exact h0
    obtain ⟨σ', ρ', s1, s2, s3, s4, s5⟩ := ih (k + 1) _ _ (by omega) (h.byte (t + k) (fb (x := x) (k := k) (by omega))) h0
    refine ⟨σ', ρ', fun post px hp => ⟨fun e => absurd e (nI_ge (by omega) (by omega)), fun _ => ⟨?_, ?_⟩⟩, fun post hp => ⟨fun e => absurd e (nI_ge (by omega) (by omega)), fun _ => ⟨?_, ?_⟩⟩, s3, s4, s5⟩
    · rw [h0, nI_add]; exact vp_in_nI (by omega) (by decide)
    · rw [h0, nI_add, clN (by omega), nI_1]; exact s1 post px hp
    · rw [h6, nI_add]; exact vp_in_nI (by omega) (by decide)
    · rw [h6, nI_add, clN (by omega), nI_1]; exact s2 post hp
