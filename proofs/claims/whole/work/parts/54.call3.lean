theorem tk {post : Int32 → Sg → Prop} {σ : Sg} (h : post (sG σ 0) (uG 0 0 σ)) : wp_takeTape post σ := h
theorem Rl.wide {B B' : Nat} {σ : Sg} {ρ : Sm} (h : Rl B σ ρ) (hB : B ≤ B') : Rl B' σ ρ := ⟨h.1.wide hB, h.2⟩
def gC1 (post : Int32 → Sg → Prop) (σ : Sg) (c : Nat) (a1 : Int32) (X : Sg → Prop) : Prop := wp_waits (fun r12 s11 => (((r12 = 0) → post 0 s11) ∧ (¬ (r12 = 0) → (((a1 = (sF s11 10 c)) → X s11) ∧ (¬ (a1 = (sF s11 10 c)) → post 0 s11))))) σ c
def gM1 (post : Int32 → Sm → Prop) (ρ : Sm) (c : Nat) (a1 : Int32) (X : Prop) : Prop := vp_in (nI c) 8 ∧ ((mA ρ 1 (nI c).toNatClampNeg = 0 → post 0 ρ) ∧ (¬ (mA ρ 1 (nI c).toNatClampNeg = 0) → (((a1 = mA ρ 5 (nI c).toNatClampNeg) → X) ∧ (¬ (a1 = mA ρ 5 (nI c).toNatClampNeg) → post 0 ρ))))
theorem gate {B : Nat} {σ : Sg} {ρ : Sm} {c : Nat} (hc : c < 8) (h : Rl B σ ρ) (a1 : Int32) : ((∀ (post : Int32 → Sg → Prop) (X : Sg → Prop), post 0 σ → gC1 post σ c a1 X) ∧ (∀ (post : Int32 → Sm → Prop) (X : Prop), post 0 ρ → gM1 post ρ c a1 X)) ∨ (∃ j, Tw σ ρ c j ∧ Al σ ρ c ∧ (∀ (post : Int32 → Sg → Prop) (X : Sg → Prop), X σ → gC1 post σ c a1 X) ∧ (∀ (post : Int32 → Sm → Prop) (X : Prop), X → gM1 post ρ c a1 X)) := by
  have hn := (h.1.cl c hc).num
  unfold gC1 gM1
  rw [cl8 hc]
  rcases h.2 c hc with hi | ⟨j, hT, hA⟩
  · left
    exact ⟨fun post X hp => wt_no hi.1 ⟨fun _ => hp, fun e => absurd rfl e⟩, fun post X hp => ⟨in8 hc, fun _ => hp, fun e => absurd hi.2.1 e⟩⟩
  · have h1 : ¬ mA ρ 1 c = 0 := by rw [hT.2.2.1]; decide
    by_cases hq : a1 = sF σ 10 c
    · right
      exact ⟨j, hT, hA, fun post X hp => wt_yes hT.1 hT.2.1 ⟨fun e => absurd e (by decide), fun _ => ⟨fun _ => hp, fun e => absurd hq e⟩⟩, fun post X hp => ⟨in8 hc, fun e => absurd e h1, fun _ => ⟨fun _ => hp, fun e => absurd (hq.trans hn) e⟩⟩⟩
    · left
      exact ⟨fun post X hp => wt_yes hT.1 hT.2.1 ⟨fun e => absurd e (by decide), fun _ => ⟨fun e => absurd e hq, fun _ => hp⟩⟩, fun post X hp => ⟨in8 hc, fun e => absurd e h1, fun _ => ⟨fun e => absurd (e.trans hn.symm) hq, fun _ => hp⟩⟩⟩
theorem sim_reply {B : Nat} {σ : Sg} {ρ : Sm} (hB : B < 900000000) (h : Rl B σ ρ) (a0 a1 a2 a3 : Int32) : SimI (B + 2) σ (fun post px => wp_reply post px σ a0 a1 a2 a3) (fun post => wp_m_reply post ρ a0 a1 a2 a3) (fun E k => (E = "java/lang/IndexOutOfBoundsException" ∧ k = 1) ∨ (E = "java/lang/IllegalArgumentException" ∧ k = 2)) := by
  have h1 : Rl B (uG 0 0 σ) (vG 6 0 (vG 0 0 ρ)) := (h.th 0).tp (by decide)
  rcases ix8 a0 with ha | ⟨c, hc, rfl⟩
  · exact Or.inr ⟨_, 1, 0, uG 0 0 σ, vG 0 1 (vG 6 0 (vG 0 0 ρ)), fun post px hp => tk (po_n ha hp), fun post hp => ic_n ha ⟨fun e => absurd rfl e, fun _ => ⟨fun _ => hp, fun e => absurd (by decide) e⟩⟩, rfl, by decide, Or.inl ⟨rfl, rfl⟩, (h1.th 1).wide (by omega), rfl⟩
  by_cases ok : okR a2 a3 (sG σ 0)
  case neg =>
    exact Or.inr ⟨_, 2, 0, uG 0 0 σ, vG 0 2 (vG 6 0 (vG 0 0 ρ)), fun post px hp => tk (po_y hc ⟨c, rfl, hc, cbr (fun q => absurd q ok) (fun _ => ⟨fun e => absurd rfl e, fun _ => hp⟩)⟩), fun post hp => mrep_bad hc (by rw [← h.1.tape]; exact ok) hp, rfl, by decide, Or.inr ⟨rfl, rfl⟩, (h1.th 2).wide (by omega), rfl⟩
  have ok2 : okR a2 a3 (mG ρ 6) := by rw [← h.1.tape]; exact ok
  have cp : ∀ (post : Int32 → Sg → Prop) (px : String → Sg → Prop), gC1 post (uG 0 0 σ) c a1 (fun s11 => ((a2 = 0 → wp_hearAnswer (fun s16 => post 1 s16) s11 c a3 (sG σ 0)) ∧ (¬ (a2 = 0) → ((a2 = 1 → wp_hearWhoLeads (fun s19 => post 1 s19) s11 c a3) ∧ (¬ (a2 = 1) → ((a2 = 2 → wp_tell (fun s22 => post 1 s22) (uF 8 c (-1) s11) c 2 (-1)) ∧ (¬ (a2 = 2) → wp_makeAlarm (fun s24 => post 1 s24) s11 c 20 0))))))) → wp_reply post px σ (nI c) a1 a2 a3 := fun post px G => tk (po_y hc ⟨c, rfl, hc, cbr (fun _ => ⟨fun _ => G, fun e => absurd e (by decide)⟩) (fun q => absurd ok q)⟩)
  -- the reference's road, by code
  have m0 : a2 = 0 → ∀ (post : Int32 → Sm → Prop), gM1 post (vG 6 0 (vG 0 0 ρ)) c a1 ((mA (vG 6 0 (vG 0 0 ρ)) 7 (nI c).toNatClampNeg = 0 → ∃ n : Nat, wpl_m_reply_L196 n post (vG 6 0 (vG 0 0 ρ)) (nI c) a1 a2 a3 (mG ρ 6) 1 0) ∧ (¬ (mA (vG 6 0 (vG 0 0 ρ)) 7 (nI c).toNatClampNeg = 0) → wp_m_begin (fun s66 => post 1 s66) (vA 4 (upd (mA (vG 6 0 (vG 0 0 ρ)) 4) (nI c).toNatClampNeg 0) (vA 3 (upd (mA (vG 6 0 (vG 0 0 ρ)) 3) (nI c).toNatClampNeg a3) (vG 6 0 (vG 0 0 ρ)))) (nI c))) → wp_m_reply post ρ (nI c) a1 a2 a3 := by
    intro e0 post G
    subst e0
    rcases ok2 with ⟨-, w1, w2, w3⟩ | ⟨q, -⟩ | ⟨q | q, -⟩
    · exact ic_y hc ⟨fun _ => ⟨fun n => absurd rfl n, fun _ => wi_y w1 w2 ⟨fun e => absurd e (by decide), fun _ => ⟨fun e => absurd e w3, fun _ => G⟩⟩⟩, fun e => absurd e (by decide)⟩
    all_goals exact absurd q (by decide)
  have m1 : a2 = 1 → ∀ (post : Int32 → Sm → Prop), gM1 post (vG 6 0 (vG 0 0 ρ)) c a1 (((a3 < 0) → wp_m_alarm (fun s43 => post 1 s43) (vA 2 (upd (mA (vG 6 0 (vG 0 0 ρ)) 2) (nI c).toNatClampNeg (((mA (vG 6 0 (vG 0 0 ρ)) 2 (nI c).toNatClampNeg) + 1) - ((mA (vG 6 0 (vG 0 0 ρ)) 2 (nI c).toNatClampNeg) + 1) / 7 * 7)) (vG 6 0 (vG 0 0 ρ))) (nI c) 5 0) ∧ (¬ (a3 < 0) → wp_m_go (fun s46 => post 1 s46) (vA 2 (upd (mA (vG 6 0 (vG 0 0 ρ)) 2) (nI c).toNatClampNeg a3) (vG 6 0 (vG 0 0 ρ))) (nI c))) → wp_m_reply post ρ (nI c) a1 a2 a3 := by
    intro e0 post G
    subst e0
    rcases ok2 with ⟨q, -⟩ | ⟨-, es, w1, w2⟩ | ⟨q | q, -⟩
    · exact absurd q (by decide)
    · exact ic_y hc ⟨fun _ => ⟨fun _ => ⟨fun n => absurd es n, fun _ => ⟨fun n => absurd rfl n, fun _ => wi_y w1 w2 ⟨fun e => absurd e (by decide), fun _ => G⟩⟩⟩, fun e => absurd e (by decide)⟩, fun e => absurd e (by decide)⟩
    all_goals exact absurd q (by decide)
  have m2 : (a2 = 2 ∨ a2 = 3) → ∀ (post : Int32 → Sm → Prop), gM1 post (vG 6 0 (vG 0 0 ρ)) c a1 ((¬ (a2 = 2) → wp_m_alarm (fun s25 => post 1 s25) (vG 6 0 (vG 0 0 ρ)) (nI c) 20 0) ∧ ((a2 = 2) → wp_m_told (fun s28 => post 1 s28) (vA 3 (upd (mA (vG 6 0 (vG 0 0 ρ)) 3) (nI c).toNatClampNeg (-1)) (vG 6 0 (vG 0 0 ρ))) (nI c) 2 (-1))) → wp_m_reply post ρ (nI c) a1 a2 a3 := by
    intro e0 post G
    have n0 : ¬ a2 = 0 := by rcases e0 with rfl | rfl <;> decide
    have n1 : ¬ a2 = 1 := by rcases e0 with rfl | rfl <;> decide
    have w1 : ¬ a2 < 2 := by rcases e0 with rfl | rfl <;> decide
    have w2 : ¬ 3 < a2 := by rcases e0 with rfl | rfl <;> decide
    rcases ok2 with ⟨q, -⟩ | ⟨q, -⟩ | ⟨-, ev, es⟩
    · exact absurd q n0
    · exact absurd q n1
    · exact ic_y hc ⟨fun _ => ⟨fun _ => ⟨fun n => absurd es n, fun _ => ⟨fun _ => wi_y w1 w2 ⟨fun e => absurd e (by decide), fun _ => ⟨fun n => absurd ev n, fun _ => G⟩⟩, fun e => absurd e n1⟩⟩, fun e => absurd e n0⟩, fun e => absurd e (by decide)⟩
  rw [cl8 hc] at m0 m1 m2
  have hcl := h1.1.cl c hc
  rcases gate hc h1 a1 with ⟨g1, g2⟩ | ⟨j, hT, hA, g1, g2⟩
  · refine Or.inl ⟨0, uG 0 0 σ, vG 6 0 (vG 0 0 ρ), fun post px hp => cp post px (g1 _ _ hp), fun post hp => ?_, rfl, h1.wide (by omega), id⟩
    rcases id ok2 with ⟨q, -⟩ | ⟨q, -⟩ | ⟨q, -⟩
    · exact m0 q post (g2 _ _ hp)
    · exact m1 q post (g2 _ _ hp)
    · exact m2 q post (g2 _ _ hp)
  have hrt := h1.rt c
  have hT1 : 0 ≤ (sF (uG 0 0 σ) 11 c).toInt ∧ (sF (uG 0 0 σ) 11 c).toInt ≤ 40 := by have := hA.1; omega
  rcases id ok with ⟨rfl, w1, w2, w3⟩ | ⟨rfl, es, w1, w2⟩ | ⟨q | q, ev, es⟩
  · -- the leader answers
    have hv : 0 ≤ a3.toInt := by
      rw [Int32.lt_iff_toInt_lt] at w1
      have w1 : ¬ a3.toInt < 1 := w1
      omega
    by_cases ho : sF (uG 0 0 σ) 12 c = 0
    · have ho' : mA (vG 6 0 (vG 0 0 ρ)) 7 c = 0 := by rw [← hcl.opn]; exact ho
      have w3' : (sG σ 0).toInt ≤ 134 := by
        rw [Int32.lt_iff_toInt_lt] at w3
        have w3 : ¬ (134 : Int) < (sG σ 0).toInt := w3
        omega
      obtain ⟨m, hm, em⟩ := iq_of (n := 135) h.1.tapeB.1 (by omega) (by decide)
      have em' : mG ρ 6 = nI m := by rw [← h.1.tape]; exact em
      obtain ⟨W1, hW1⟩ : ∃ w : Nat → Int32, ∀ q, w q = if q < m then vp_nar .byte (sA (uG 0 0 σ) 0 q) else sB (uG 0 0 σ) 1 c q := ⟨_, fun q => rfl⟩
      obtain ⟨W2, hW2⟩ : ∃ w : Nat → Int32, ∀ q, w q = if 134 * c ≤ q ∧ q < 134 * c + m then mA (vG 6 0 (vG 0 0 ρ)) 0 (q - 134 * c) else mA (vG 6 0 (vG 0 0 ρ)) 16 q := ⟨_, fun q => rfl⟩
      have h3 : Rt B (uF 4 c (nI m) (uB 1 c W1 (uG 0 0 σ))) (vA 15 (upd (mA (vG 6 0 (vG 0 0 ρ)) 15) c (nI m)) (vA 16 W2 (vG 6 0 (vG 0 0 ρ)))) c := by
        refine hrt.cli rfl rfl (fun i e => rfl) (fun i k e => by simp [q_GG, q_FF, q_RR, q_BB, q_AA, q_HH, q_GF, q_GR, q_GB, q_GA, q_GH, q_FG, q_FR, q_FB, q_FA, q_FH, q_RG, q_RF, q_RB, q_RA, q_RH, q_BG, q_BF, q_BR, q_BA, q_BH, q_AG, q_AF, q_AR, q_AB, q_AH, q_HG, q_HF, q_HR, q_HB, q_HA, q_NG, q_NF, q_NR, q_NB, q_NA, q_NH, q_CG, q_CF, q_CR, q_CB, q_CA, q_CH, q_KG, q_KF, q_KR, q_KB, q_KA, q_KH, q_mGG, q_mGA, q_mAA, q_mAG, q_upd, *]) (fun i k e => by simp [q_GG, q_FF, q_RR, q_BB, q_AA, q_HH, q_GF, q_GR, q_GB, q_GA, q_GH, q_FG, q_FR, q_FB, q_FA, q_FH, q_RG, q_RF, q_RB, q_RA, q_RH, q_BG, q_BF, q_BR, q_BA, q_BH, q_AG, q_AF, q_AR, q_AB, q_AH, q_HG, q_HF, q_HR, q_HB, q_HA, q_NG, q_NF, q_NR, q_NB, q_NA, q_NH, q_CG, q_CF, q_CR, q_CB, q_CA, q_CH, q_KG, q_KF, q_KR, q_KB, q_KA, q_KH, q_mGG, q_mGA, q_mAA, q_mAG, q_upd, *]) rfl rfl rfl rfl (fun k i e _ => by (simp only [q_mAAi, q_mAG, q_upd]; (repeat' split) <;> (first | rfl | (subst_vars; rfl) | (subst_vars; contradiction) | (subst_vars; simp_all)))) (fun i q e _ => rfl) (fun i q e hq => ?_) ⟨hcl.idx, hcl.tgt, hcl.tgtB, hcl.ses, hcl.sesB, hcl.ser, hcl.num, hcl.tri, hcl.opn, hcl.opnB, hcl.knd, hcl.kndB, hcl.dsz, hcl.dszB, hcl.dat, ?_, ?_, fun q hq => ?_⟩
        · show W2 (134 * i + q) = _
          rw [hW2, if_neg (by omega)]
        · simp [q_GG, q_FF, q_RR, q_BB, q_AA, q_HH, q_GF, q_GR, q_GB, q_GA, q_GH, q_FG, q_FR, q_FB, q_FA, q_FH, q_RG, q_RF, q_RB, q_RA, q_RH, q_BG, q_BF, q_BR, q_BA, q_BH, q_AG, q_AF, q_AR, q_AB, q_AH, q_HG, q_HF, q_HR, q_HB, q_HA, q_NG, q_NF, q_NR, q_NB, q_NA, q_NH, q_CG, q_CF, q_CR, q_CB, q_CA, q_CH, q_KG, q_KF, q_KR, q_KB, q_KA, q_KH, q_mGG, q_mGA, q_mAA, q_mAG, q_upd, *]
        · have : sF (uF 4 c (nI m) (uB 1 c W1 (uG 0 0 σ))) 4 c = nI m := by simp [q_GG, q_FF, q_RR, q_BB, q_AA, q_HH, q_GF, q_GR, q_GB, q_GA, q_GH, q_FG, q_FR, q_FB, q_FA, q_FH, q_RG, q_RF, q_RB, q_RA, q_RH, q_BG, q_BF, q_BR, q_BA, q_BH, q_AG, q_AF, q_AR, q_AB, q_AH, q_HG, q_HF, q_HR, q_HB, q_HA, q_NG, q_NF, q_NR, q_NB, q_NA, q_NH, q_CG, q_CF, q_CR, q_CB, q_CA, q_CH, q_KG, q_KF, q_KR, q_KB, q_KA, q_KH, q_mGG, q_mGA, q_mAA, q_mAG, q_upd, *]
          rw [this, iq_nI (by omega)]; omega
        · have e1 : sB (uF 4 c (nI m) (uB 1 c W1 (uG 0 0 σ))) 1 c = W1 := by simp [q_GG, q_FF, q_RR, q_BB, q_AA, q_HH, q_GF, q_GR, q_GB, q_GA, q_GH, q_FG, q_FR, q_FB, q_FA, q_FH, q_RG, q_RF, q_RB, q_RA, q_RH, q_BG, q_BF, q_BR, q_BA, q_BH, q_AG, q_AF, q_AR, q_AB, q_AH, q_HG, q_HF, q_HR, q_HB, q_HA, q_NG, q_NF, q_NR, q_NB, q_NA, q_NH, q_CG, q_CF, q_CR, q_CB, q_CA, q_CH, q_KG, q_KF, q_KR, q_KB, q_KA, q_KH, q_mGG, q_mGA, q_mAA, q_mAG, q_upd, *]
          rw [e1]
          show W1 q &&& 255 = W2 (134 * c + q)
          rw [hW1, hW2]
          by_cases hqm : q < m
          · rw [if_pos hqm, if_pos (by omega), vp_nar_byte, fb_8, show 134 * c + q - 134 * c = q by omega]
            exact h1.1.fed q (by omega)
          · rw [if_neg hqm, if_neg (by omega)]
            exact hcl.ans q hq
      obtain ⟨σ', ρ', s1, s2, s3, s4, s5, s6, s7⟩ := sim_tell (j := j) hc h3 ⟨hT.1, hT.2.1, hT.2.2.1, hT.2.2.2⟩ 1 a3
      refine Or.inl ⟨1, σ', ρ', fun post px hp => cp post px (g1 _ _ ⟨fun _ => ⟨fun _ => ⟨hc, ?_⟩, fun e => absurd ho e⟩, fun e => absurd rfl e⟩), fun post hp => m0 rfl post (g2 _ _ ⟨fun _ => ?_, fun e => absurd ho' e⟩), s7.2.1, s3.wide (by omega), fun e => by rw [s4] at e; exact e⟩
      · rw [em]
        refine copyA_spec (by omega) (fun w hw => ?_)
        have : w = W1 := funext (fun q => by rw [hw, hW1])
        subst this
        exact s1 _ hp
      · rw [em']
        refine repl_spec hc (by omega) (by omega) (fun w hw => ?_)
        have : w = W2 := funext (fun q => by rw [hw, hW2])
        subst this
        exact s2 _ hp
    · have ho' : ¬ mA (vG 6 0 (vG 0 0 ρ)) 7 c = 0 := by rw [← hcl.opn]; exact ho
      have h3 : Rt B (uF 9 c 0 (uF 8 c a3 (uG 0 0 σ))) (vA 4 (upd (mA (vG 6 0 (vG 0 0 ρ)) 4) c 0) (vA 3 (upd (mA (vG 6 0 (vG 0 0 ρ)) 3) c a3) (vG 6 0 (vG 0 0 ρ)))) c := by
        refine hrt.cli rfl rfl (fun i e => rfl) (fun i k e => by simp [q_GG, q_FF, q_RR, q_BB, q_AA, q_HH, q_GF, q_GR, q_GB, q_GA, q_GH, q_FG, q_FR, q_FB, q_FA, q_FH, q_RG, q_RF, q_RB, q_RA, q_RH, q_BG, q_BF, q_BR, q_BA, q_BH, q_AG, q_AF, q_AR, q_AB, q_AH, q_HG, q_HF, q_HR, q_HB, q_HA, q_NG, q_NF, q_NR, q_NB, q_NA, q_NH, q_CG, q_CF, q_CR, q_CB, q_CA, q_CH, q_KG, q_KF, q_KR, q_KB, q_KA, q_KH, q_mGG, q_mGA, q_mAA, q_mAG, q_upd, *]) (fun i k e => rfl) rfl rfl rfl rfl (fun k i e _ => by (simp only [q_mAAi, q_mAG, q_upd]; (repeat' split) <;> (first | rfl | (subst_vars; rfl) | (subst_vars; contradiction) | (subst_vars; simp_all)))) (fun i q e _ => rfl) (fun i q e _ => rfl) ⟨hcl.idx, hcl.tgt, hcl.tgtB, ?_, Or.inr ?_, ?_, hcl.num, hcl.tri, hcl.opn, hcl.opnB, hcl.knd, hcl.kndB, hcl.dsz, hcl.dszB, hcl.dat, hcl.asz, hcl.aszB, hcl.ans⟩
        · simp [q_GG, q_FF, q_RR, q_BB, q_AA, q_HH, q_GF, q_GR, q_GB, q_GA, q_GH, q_FG, q_FR, q_FB, q_FA, q_FH, q_RG, q_RF, q_RB, q_RA, q_RH, q_BG, q_BF, q_BR, q_BA, q_BH, q_AG, q_AF, q_AR, q_AB, q_AH, q_HG, q_HF, q_HR, q_HB, q_HA, q_NG, q_NF, q_NR, q_NB, q_NA, q_NH, q_CG, q_CF, q_CR, q_CB, q_CA, q_CH, q_KG, q_KF, q_KR, q_KB, q_KA, q_KH, q_mGG, q_mGA, q_mAA, q_mAG, q_upd, *]
        · have : sF (uF 9 c 0 (uF 8 c a3 (uG 0 0 σ))) 8 c = a3 := by simp [q_GG, q_FF, q_RR, q_BB, q_AA, q_HH, q_GF, q_GR, q_GB, q_GA, q_GH, q_FG, q_FR, q_FB, q_FA, q_FH, q_RG, q_RF, q_RB, q_RA, q_RH, q_BG, q_BF, q_BR, q_BA, q_BH, q_AG, q_AF, q_AR, q_AB, q_AH, q_HG, q_HF, q_HR, q_HB, q_HA, q_NG, q_NF, q_NR, q_NB, q_NA, q_NH, q_CG, q_CF, q_CR, q_CB, q_CA, q_CH, q_KG, q_KF, q_KR, q_KB, q_KA, q_KH, q_mGG, q_mGA, q_mAA, q_mAG, q_upd, *]
          rw [this]; exact hv
        · simp [q_GG, q_FF, q_RR, q_BB, q_AA, q_HH, q_GF, q_GR, q_GB, q_GA, q_GH, q_FG, q_FR, q_FB, q_FA, q_FH, q_RG, q_RF, q_RB, q_RA, q_RH, q_BG, q_BF, q_BR, q_BA, q_BH, q_AG, q_AF, q_AR, q_AB, q_AH, q_HG, q_HF, q_HR, q_HB, q_HA, q_NG, q_NF, q_NR, q_NB, q_NA, q_NH, q_CG, q_CF, q_CR, q_CB, q_CA, q_CH, q_KG, q_KF, q_KR, q_KB, q_KA, q_KH, q_mGG, q_mGA, q_mAA, q_mAG, q_upd, *]
      have hs : sF (uF 9 c 0 (uF 8 c a3 (uG 0 0 σ))) 8 c ≠ -1 := by
        have : sF (uF 9 c 0 (uF 8 c a3 (uG 0 0 σ))) 8 c = a3 := by simp [q_GG, q_FF, q_RR, q_BB, q_AA, q_HH, q_GF, q_GR, q_GB, q_GA, q_GH, q_FG, q_FR, q_FB, q_FA, q_FH, q_RG, q_RF, q_RB, q_RA, q_RH, q_BG, q_BF, q_BR, q_BA, q_BH, q_AG, q_AF, q_AR, q_AB, q_AH, q_HG, q_HF, q_HR, q_HB, q_HA, q_NG, q_NF, q_NR, q_NB, q_NA, q_NH, q_CG, q_CF, q_CR, q_CB, q_CA, q_CH, q_KG, q_KF, q_KR, q_KB, q_KA, q_KH, q_mGG, q_mGA, q_mAA, q_mAG, q_upd, *]
        rw [this]; intro e; rw [e] at hv; exact absurd hv (by decide)
      obtain ⟨σ', ρ', s1, s2, s3, s4, s5, s7, s6⟩ := sim_what (j := j) hc (by omega) h3 ⟨hT.1, hT.2.1, hT.2.2.1, hT.2.2.2⟩ hT1 (Or.inr hs)
      exact Or.inl ⟨1, σ', ρ', fun post px hp => cp post px (g1 _ _ ⟨fun _ => ⟨fun e => absurd e ho, fun _ => s1 _ hp⟩, fun e => absurd rfl e⟩), fun post hp => m0 rfl post (g2 _ _ ⟨fun e => absurd e ho', fun _ => s2 _ hp⟩), s7.2.1, s3, fun e => by rw [s4] at e; exact e⟩
  · -- another leads
    have n0 : ¬ (1 : Int32) = 0 := by decide
    by_cases ev : a3 = -1
    · have e0 : a3 < 0 := by rw [ev]; decide
      obtain ⟨v, t1, t2, t3⟩ := sim_turn hc hrt
      obtain ⟨σ', ρ', s1, s2, s3, s4, s5, s6, s8, s7⟩ := sim_alarm (j := j) hc (by omega) t3 ⟨hT.1, hT.2.1, hT.2.2.1, hT.2.2.2⟩ hA.1 5 0 (by decide) (Or.inl rfl)
      refine Or.inl ⟨1, σ', ρ', fun post px hp => cp post px (g1 _ _ ⟨fun e => absurd e n0, fun _ => ⟨fun _ => ⟨fun e => absurd ev e, fun _ => t1 _ (s1 _ hp)⟩, fun e => absurd rfl e⟩⟩), fun post hp => m1 rfl post (g2 _ _ ⟨fun _ => ?_, fun e => absurd e0 e⟩), s7.2.1, s3.wide (by omega), fun e => by rw [s4] at e; exact e⟩
      rw [← t2]
      exact s2 _ hp
    · have e0 : ¬ a3 < 0 := by
        rcases v7.mpr ⟨w1, w2⟩ with e | e
        · exact absurd e ev
        · exact e.1
      have b0 : 0 ≤ a3.toInt ∧ a3.toInt < 7 := by
        rw [Int32.lt_iff_toInt_lt] at e0 w2
        have e0 : ¬ a3.toInt < 0 := e0
        have w2 : ¬ 6 < a3.toInt := w2
        omega
      have h3 : Rt B (uF 7 c a3 (uG 0 0 σ)) (vA 2 (upd (mA (vG 6 0 (vG 0 0 ρ)) 2) c a3) (vG 6 0 (vG 0 0 ρ))) c := by
        refine hrt.cli rfl rfl (fun i e => rfl) (fun i k e => by simp [q_GG, q_FF, q_RR, q_BB, q_AA, q_HH, q_GF, q_GR, q_GB, q_GA, q_GH, q_FG, q_FR, q_FB, q_FA, q_FH, q_RG, q_RF, q_RB, q_RA, q_RH, q_BG, q_BF, q_BR, q_BA, q_BH, q_AG, q_AF, q_AR, q_AB, q_AH, q_HG, q_HF, q_HR, q_HB, q_HA, q_NG, q_NF, q_NR, q_NB, q_NA, q_NH, q_CG, q_CF, q_CR, q_CB, q_CA, q_CH, q_KG, q_KF, q_KR, q_KB, q_KA, q_KH, q_mGG, q_mGA, q_mAA, q_mAG, q_upd, *]) (fun i k e => rfl) rfl rfl rfl rfl (fun k i e _ => by (simp only [q_mAAi, q_mAG, q_upd]; (repeat' split) <;> (first | rfl | (subst_vars; rfl) | (subst_vars; contradiction) | (subst_vars; simp_all)))) (fun i q e _ => rfl) (fun i q e _ => rfl) ⟨hcl.idx, ?_, ?_, hcl.ses, hcl.sesB, hcl.ser, hcl.num, hcl.tri, hcl.opn, hcl.opnB, hcl.knd, hcl.kndB, hcl.dsz, hcl.dszB, hcl.dat, hcl.asz, hcl.aszB, hcl.ans⟩
        · simp [q_GG, q_FF, q_RR, q_BB, q_AA, q_HH, q_GF, q_GR, q_GB, q_GA, q_GH, q_FG, q_FR, q_FB, q_FA, q_FH, q_RG, q_RF, q_RB, q_RA, q_RH, q_BG, q_BF, q_BR, q_BA, q_BH, q_AG, q_AF, q_AR, q_AB, q_AH, q_HG, q_HF, q_HR, q_HB, q_HA, q_NG, q_NF, q_NR, q_NB, q_NA, q_NH, q_CG, q_CF, q_CR, q_CB, q_CA, q_CH, q_KG, q_KF, q_KR, q_KB, q_KA, q_KH, q_mGG, q_mGA, q_mAA, q_mAG, q_upd, *]
        · have : sF (uF 7 c a3 (uG 0 0 σ)) 7 c = a3 := by simp [q_GG, q_FF, q_RR, q_BB, q_AA, q_HH, q_GF, q_GR, q_GB, q_GA, q_GH, q_FG, q_FR, q_FB, q_FA, q_FH, q_RG, q_RF, q_RB, q_RA, q_RH, q_BG, q_BF, q_BR, q_BA, q_BH, q_AG, q_AF, q_AR, q_AB, q_AH, q_HG, q_HF, q_HR, q_HB, q_HA, q_NG, q_NF, q_NR, q_NB, q_NA, q_NH, q_CG, q_CF, q_CR, q_CB, q_CA, q_CH, q_KG, q_KF, q_KR, q_KB, q_KA, q_KH, q_mGG, q_mGA, q_mAA, q_mAG, q_upd, *]
          rw [this]; exact b0
      obtain ⟨σ', ρ', s1, s2, s3, s4, s5, s7, s6⟩ := sim_send (j := j) hc (by omega) h3 ⟨hT.1, hT.2.1, hT.2.2.1, hT.2.2.2⟩ hT1
      exact Or.inl ⟨1, σ', ρ', fun post px hp => cp post px (g1 _ _ ⟨fun e => absurd e n0, fun _ => ⟨fun _ => ⟨fun _ => s1 _ hp, fun e => absurd e ev⟩, fun e => absurd rfl e⟩⟩), fun post hp => m1 rfl post (g2 _ _ ⟨fun e => absurd e e0, fun _ => s2 _ hp⟩), s7.2.1, s3, fun e => by rw [s4] at e; exact e⟩
  · -- the session is lost
    subst q
    have h3 : Rt B (uF 8 c (-1) (uG 0 0 σ)) (vA 3 (upd (mA (vG 6 0 (vG 0 0 ρ)) 3) c (-1)) (vG 6 0 (vG 0 0 ρ))) c := by
      refine hrt.cli rfl rfl (fun i e => rfl) (fun i k e => by simp [q_GG, q_FF, q_RR, q_BB, q_AA, q_HH, q_GF, q_GR, q_GB, q_GA, q_GH, q_FG, q_FR, q_FB, q_FA, q_FH, q_RG, q_RF, q_RB, q_RA, q_RH, q_BG, q_BF, q_BR, q_BA, q_BH, q_AG, q_AF, q_AR, q_AB, q_AH, q_HG, q_HF, q_HR, q_HB, q_HA, q_NG, q_NF, q_NR, q_NB, q_NA, q_NH, q_CG, q_CF, q_CR, q_CB, q_CA, q_CH, q_KG, q_KF, q_KR, q_KB, q_KA, q_KH, q_mGG, q_mGA, q_mAA, q_mAG, q_upd, *]) (fun i k e => rfl) rfl rfl rfl rfl (fun k i e _ => by (simp only [q_mAAi, q_mAG, q_upd]; (repeat' split) <;> (first | rfl | (subst_vars; rfl) | (subst_vars; contradiction) | (subst_vars; simp_all)))) (fun i q e _ => rfl) (fun i q e _ => rfl) ⟨hcl.idx, hcl.tgt, hcl.tgtB, ?_, Or.inl ?_, hcl.ser, hcl.num, hcl.tri, hcl.opn, hcl.opnB, hcl.knd, hcl.kndB, hcl.dsz, hcl.dszB, hcl.dat, hcl.asz, hcl.aszB, hcl.ans⟩
      · simp [q_GG, q_FF, q_RR, q_BB, q_AA, q_HH, q_GF, q_GR, q_GB, q_GA, q_GH, q_FG, q_FR, q_FB, q_FA, q_FH, q_RG, q_RF, q_RB, q_RA, q_RH, q_BG, q_BF, q_BR, q_BA, q_BH, q_AG, q_AF, q_AR, q_AB, q_AH, q_HG, q_HF, q_HR, q_HB, q_HA, q_NG, q_NF, q_NR, q_NB, q_NA, q_NH, q_CG, q_CF, q_CR, q_CB, q_CA, q_CH, q_KG, q_KF, q_KR, q_KB, q_KA, q_KH, q_mGG, q_mGA, q_mAA, q_mAG, q_upd, *]
      · simp [q_GG, q_FF, q_RR, q_BB, q_AA, q_HH, q_GF, q_GR, q_GB, q_GA, q_GH, q_FG, q_FR, q_FB, q_FA, q_FH, q_RG, q_RF, q_RB, q_RA, q_RH, q_BG, q_BF, q_BR, q_BA, q_BH, q_AG, q_AF, q_AR, q_AB, q_AH, q_HG, q_HF, q_HR, q_HB, q_HA, q_NG, q_NF, q_NR, q_NB, q_NA, q_NH, q_CG, q_CF, q_CR, q_CB, q_CA, q_CH, q_KG, q_KF, q_KR, q_KB, q_KA, q_KH, q_mGG, q_mGA, q_mAA, q_mAG, q_upd, *]
    obtain ⟨σ', ρ', s1, s2, s3, s4, s5, s6, s7⟩ := sim_tell (j := j) hc h3 ⟨hT.1, hT.2.1, hT.2.2.1, hT.2.2.2⟩ 2 (-1)
    exact Or.inl ⟨1, σ', ρ', fun post px hp => cp post px (g1 _ _ ⟨fun e => absurd e (by decide), fun _ => ⟨fun e => absurd e (by decide), fun _ => ⟨fun _ => s1 _ hp, fun e => absurd rfl e⟩⟩⟩), fun post hp => m2 (Or.inl rfl) post (g2 _ _ ⟨fun e => absurd rfl e, fun _ => s2 _ hp⟩), s7.2.1, s3.wide (by omega), fun e => by rw [s4] at e; exact e⟩
  · -- the server is busy
    subst q
    obtain ⟨σ', ρ', s1, s2, s3, s4, s5, s6, s8, s7⟩ := sim_alarm (j := j) hc (by omega) hrt hT hA.1 20 0 (by decide) (Or.inl rfl)
    exact Or.inl ⟨1, σ', ρ', fun post px hp => cp post px (g1 _ _ ⟨fun e => absurd e (by decide), fun _ => ⟨fun e => absurd e (by decide), fun _ => ⟨fun e => absurd e (by decide), fun _ => s1 _ hp⟩⟩⟩), fun post hp => m2 (Or.inr rfl) post (g2 _ _ ⟨fun _ => s2 _ hp, fun e => absurd e (by decide)⟩), s7.2.1, s3.wide (by omega), fun e => by rw [s4] at e; exact e⟩
