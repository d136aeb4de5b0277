theorem wi_y {post : Int32 → Sm → Prop} {ρ : Sm} {a b c : Int32} (h1 : ¬ a < b) (h2 : ¬ c < a) (hp : post 1 ρ) : wp_m_within post ρ a b c := ⟨fun e => absurd e h1, fun _ => ⟨fun e => absurd e h2, fun _ => hp⟩⟩
theorem wi_n {post : Int32 → Sm → Prop} {ρ : Sm} {a b c : Int32} (h : a < b ∨ c < a) (hp : post 0 ρ) : wp_m_within post ρ a b c := ⟨fun _ => hp, fun h1 => ⟨fun _ => hp, fun h2 => by rcases h with h | h; exact absurd h h1; exact absurd h h2⟩⟩
theorem ic_y {post : Int32 → Sm → Prop} {ρ : Sm} {c : Nat} (hc : c < 8) (hp : post 1 ρ) : wp_m_isClient post ρ (nI c) := wi_y (nI_pos (by omega)) (fun e => absurd ((nI_ltI (a := 7) (by decide) (by omega)).mp e) (by omega)) ⟨by decide, hp⟩
theorem ic_n {post : Int32 → Sm → Prop} {ρ : Sm} {a : Int32} (h : a < 0 ∨ nI 8 ≤ a) (hp : post 0 ρ) : wp_m_isClient post ρ a := wi_n (by
  rcases h with h | h
  · exact Or.inl h
  · right
    rw [Int32.lt_iff_toInt_lt]; rw [Int32.le_iff_toInt_le] at h
    have h : (8 : Int) ≤ a.toInt := h
    show (7 : Int) < a.toInt
    omega) ⟨by decide, hp⟩
theorem po_y {post : Option Nat → Sg → Prop} {px : String → Sg → Prop} {σ : Sg} {c : Nat} (hc : c < 8) (hp : post (some c) σ) : wp_patronOf post px σ (nI c) := ⟨fun e => absurd e (nI_pos (by omega)), fun _ => ⟨fun _ => ⟨in8 hc, by rw [cl8 hc]; exact hp⟩, fun e => absurd (nI_lt (a := c) (b := 8) hc (by decide)) e⟩⟩
theorem po_n {post : Option Nat → Sg → Prop} {px : String → Sg → Prop} {σ : Sg} {a : Int32} (h : a < 0 ∨ nI 8 ≤ a) (hp : px "java/lang/IndexOutOfBoundsException" σ) : wp_patronOf post px σ a := ⟨fun _ => hp, fun h1 => ⟨fun h2 => by
  rcases h with h | h
  · exact absurd h h1
  · rw [Int32.lt_iff_toInt_lt] at h2; rw [Int32.le_iff_toInt_le] at h
    have h : (8 : Int) ≤ a.toInt := h
    have h2 : a.toInt < (8 : Int) := h2
    omega, fun _ => hp⟩⟩
theorem ix8 (a : Int32) : (a < 0 ∨ nI 8 ≤ a) ∨ ∃ c : Nat, c < 8 ∧ a = nI c := by
  rcases pk_ix a (n := 8) (by decide) with h | h | h
  · exact Or.inl (Or.inl h)
  · exact Or.inl (Or.inr h)
  · exact Or.inr h
/-- a call that answers an int -/
def SimI (B : Nat) (σ : Sg) (Wc : (Int32 → Sg → Prop) → (String → Sg → Prop) → Prop) (Wm : (Int32 → Sm → Prop) → Prop) (co : String → Int32 → Prop) : Prop :=
  (∃ (r : Int32) (σ' : Sg) (ρ' : Sm), (∀ (post : Int32 → Sg → Prop) (px : String → Sg → Prop), post r σ' → Wc post px) ∧ (∀ post : Int32 → Sm → Prop, post r ρ' → Wm post) ∧ mG ρ' 0 = 0 ∧ Rl B σ' ρ' ∧ (sC σ' = 0 → sC σ = 0)) ∨
  (∃ (E : String) (k b : Int32) (σ' : Sg) (ρ' : Sm), (∀ (post : Int32 → Sg → Prop) (px : String → Sg → Prop), px E σ' → Wc post px) ∧ (∀ post : Int32 → Sm → Prop, post b ρ' → Wm post) ∧ mG ρ' 0 = k ∧ ¬ k = 0 ∧ co E k ∧ Rl B σ' ρ' ∧ sC σ' = sC σ)
theorem sim_feed {B : Nat} {σ : Sg} {ρ : Sm} (h : Rl B σ ρ) (x : Int64) (n : Int32) : SimI B σ (fun post px => wp_feed post px σ x n) (fun post => wp_m_feed post ρ x n) (fun E k => (E = "java/lang/IllegalArgumentException" ∧ k = 1) ∨ (E = "java/lang/IllegalStateException" ∧ k = 2)) := by
  obtain ⟨t, ht, et⟩ := iq_of (n := 241) h.1.tapeB.1 (by have := h.1.tapeB.2; omega) (by decide)
  have h6 : mG ρ 6 = nI t := by rw [← h.1.tape]; exact et
  by_cases h1 : n < 1
  · exact Or.inr ⟨_, 1, 0, σ, vG 0 1 (vG 0 0 ρ), fun post px hp => ⟨fun _ => hp, fun e => absurd h1 e⟩, fun post hp => wi_n (Or.inl h1) ⟨fun e => absurd rfl e, fun _ => hp⟩, rfl, by decide, Or.inl ⟨rfl, rfl⟩, (h.th 0).th 1, rfl⟩
  by_cases h8 : n ≤ 8
  · have h1' : ¬ (n.toInt < 1) := by rw [Int32.lt_iff_toInt_lt] at h1; exact h1
    have h8' : n.toInt ≤ 8 := by rw [Int32.le_iff_toInt_le] at h8; exact h8
    obtain ⟨m, hm, rfl⟩ := iq_of (x := n) (n := 9) (by omega) (by omega) (by decide)
    rw [iq_nI (by omega)] at h1' h8'
    have hw8 : ¬ (8 : Int32) < nI m := fun e => absurd ((nI_ltI (a := 8) (by decide) (by omega)).mp e) (by omega)
    have es : (240 : Int32) - nI m = nI (240 - m) := pk_sub (a := 240) (by omega)
    by_cases ht2 : t + m ≤ 240
    · obtain ⟨σ', ρ', s1, s2, s3, s4, s5⟩ := feed_l (x := x) (t := t) (m := m) (by omega) (by omega) ht2 m 0 σ (vG 0 0 ρ) (by omega) (h.th 0) et
      refine Or.inl ⟨nI (t + m), σ', ρ', fun post px hp => ⟨fun e => absurd e h1, fun _ => ⟨fun _ => ⟨fun _ => ⟨_, s1 post px hp⟩, fun e => ?_⟩, fun e => absurd h8 e⟩⟩, fun post hp => wi_y h1 hw8 ⟨fun _ => ⟨fun _ => ⟨_, s2 post hp⟩, fun e => ?_⟩, fun e => absurd e (by decide)⟩, s5, s3, fun e => by rw [← s4]; exact e⟩
      · rw [et, es] at e; exact absurd (nI_le (by omega) (by omega)) e
      · have e : ¬ (mG ρ 6 + nI m ≤ 240) := e
        rw [h6, nI_add] at e; exact absurd (nI_le (b := 240) (by omega) (by omega)) e
    · refine Or.inr ⟨_, 2, 0, σ, vG 0 2 (vG 0 0 ρ), fun post px hp => ⟨fun e => absurd e h1, fun _ => ⟨fun _ => ⟨fun e => ?_, fun _ => hp⟩, fun e => absurd h8 e⟩⟩, fun post hp => wi_y h1 hw8 ⟨fun _ => ⟨fun e => ?_, fun _ => hp⟩, fun e => absurd e (by decide)⟩, rfl, by decide, Or.inr ⟨rfl, rfl⟩, (h.th 0).th 2, rfl⟩
      · rw [et, es] at e; exact absurd ((nI_leI (by omega) (by omega)).mp e) (by omega)
      · have e : (mG ρ 6 + nI m ≤ 240) := e
        rw [h6, nI_add] at e; exact absurd ((nI_leI (b := 240) (by omega) (by omega)).mp e) (by omega)
  · have h8' : (8 : Int32) < n := by
      rw [Int32.lt_iff_toInt_lt]; rw [Int32.le_iff_toInt_le] at h8
      have h8 : ¬ n.toInt ≤ 8 := h8
      show (8 : Int) < n.toInt
      omega
    exact Or.inr ⟨_, 1, 0, σ, vG 0 1 (vG 0 0 ρ), fun post px hp => ⟨fun e => absurd e h1, fun _ => ⟨fun e => absurd e h8, fun _ => hp⟩⟩, fun post hp => wi_n (Or.inr h8') ⟨fun e => absurd rfl e, fun _ => hp⟩, rfl, by decide, Or.inl ⟨rfl, rfl⟩, (h.th 0).th 1, rfl⟩
theorem sim_answer {B : Nat} {σ : Sg} {ρ : Sm} (h : Rl B σ ρ) (a : Int32) : SimI B σ (fun post px => wp_answer post px σ a) (fun post => wp_m_answer post ρ a) (fun E k => E = "java/lang/IndexOutOfBoundsException" ∧ k = 1) := by
  rcases ix8 a with ha | ⟨c, hc, rfl⟩
  · exact Or.inr ⟨_, 1, 0, σ, vG 0 1 (vG 0 0 ρ), fun post px hp => po_n ha hp, fun post hp => ic_n ha ⟨fun _ => hp, fun e => absurd rfl e⟩, rfl, by decide, ⟨rfl, rfl⟩, (h.th 0).th 1, rfl⟩
  · refine Or.inl ⟨sF σ 4 c, σ, vG 0 0 ρ, fun post px hp => po_y hc ⟨c, rfl, hc, hp⟩, fun post hp => ic_y hc ⟨fun e => absurd e (by decide), fun _ => ⟨in8 hc, ?_⟩⟩, rfl, h.th 0, id⟩
    rw [cl8 hc]
    have := (h.1.cl c hc).asz
    rw [this] at hp; exact hp
theorem lit9 {a : Int32} (h : vp_in a 9) : a = 0 ∨ a = 1 ∨ a = 2 ∨ a = 3 ∨ a = 4 ∨ a = 5 ∨ a = 6 ∨ a = 7 ∨ a = 8 := by
  obtain ⟨j, hj, rfl⟩ := vp_in_of h (by decide)
  have : ∀ j, j < 9 → (nI j = 0 ∨ nI j = 1 ∨ nI j = 2 ∨ nI j = 3 ∨ nI j = 4 ∨ nI j = 5 ∨ nI j = 6 ∨ nI j = 7 ∨ nI j = 8) := by decide
  exact this j hj
theorem no9 {a : Int32} (h : a < 0 ∨ nI 9 ≤ a) : a ≠ 0 ∧ a ≠ 1 ∧ a ≠ 2 ∧ a ≠ 3 ∧ a ≠ 4 ∧ a ≠ 5 ∧ a ≠ 6 ∧ a ≠ 7 ∧ a ≠ 8 := by
  refine ⟨?_, ?_, ?_, ?_, ?_, ?_, ?_, ?_, ?_⟩ <;> (rintro rfl; rcases h with h | h <;> exact absurd h (by decide))
theorem sim_client {B : Nat} {σ : Sg} {ρ : Sm} (hB : B < 1000000000) (h : Rl B σ ρ) (a a1 : Int32) : SimI B σ (fun post px => wp_client post px σ a a1) (fun post => wp_m_client post ρ a a1) (fun E k => E = "java/lang/IndexOutOfBoundsException" ∧ k = 1) := by
  rcases ix8 a with ha | ⟨c, hc, rfl⟩
  · exact Or.inr ⟨_, 1, 0, σ, vG 0 1 (vG 0 0 ρ), fun post px hp => po_n ha hp, fun post hp => ic_n ha ⟨fun _ => hp, fun e => absurd rfl e⟩, rfl, by decide, ⟨rfl, rfl⟩, (h.th 0).th 1, rfl⟩
  · have hcl := h.1.cl c hc
    have hi8 := in8 hc
    have c8 := cl8 hc
    rcases pk_ix a1 (n := 9) (by decide) with h1 | h1 | h1
    · obtain ⟨n0, n1, n2, n3, n4, n5, n6, n7, n8⟩ := no9 (Or.inl h1)
      refine Or.inr ⟨_, 1, 0, σ, vG 0 1 (vG 0 0 ρ), fun post px hp => po_y hc ⟨c, rfl, hc, ?_⟩, fun post hp => ic_y hc ⟨fun e => absurd e (by decide), fun _ => wi_n (Or.inl h1) ⟨fun e => absurd rfl e, fun _ => hp⟩⟩, rfl, by decide, ⟨rfl, rfl⟩, (h.th 0).th 1, rfl⟩
      simp [n0, n1, n2, n3, n4, n5, n6, n7, n8]; exact hp
    · obtain ⟨n0, n1, n2, n3, n4, n5, n6, n7, n8⟩ := no9 (Or.inr h1)
      refine Or.inr ⟨_, 1, 0, σ, vG 0 1 (vG 0 0 ρ), fun post px hp => po_y hc ⟨c, rfl, hc, ?_⟩, fun post hp => ic_y hc ⟨fun e => absurd e (by decide), fun _ => wi_n (Or.inr ?_) ⟨fun e => absurd rfl e, fun _ => hp⟩⟩, rfl, by decide, ⟨rfl, rfl⟩, (h.th 0).th 1, rfl⟩
      · simp [n0, n1, n2, n3, n4, n5, n6, n7, n8]; exact hp
      · rw [Int32.lt_iff_toInt_lt]; rw [Int32.le_iff_toInt_le] at h1
        have h1 : (9 : Int) ≤ a1.toInt := h1
        show (8 : Int) < a1.toInt
        omega
    · have hq := h.2 c hc
      have hin : vp_in a1 9 := by obtain ⟨j, hj, rfl⟩ := h1; exact vp_in_nI hj (by decide)
      have e2 := hcl.tgt
      have e3 := hcl.ses
      have e4 := hcl.ser
      have e5 := hcl.num
      have e6 := hcl.tri
      have e7 := hcl.opn
      refine Or.inl ⟨if a1 = 0 then (mA ρ 1 c) else if a1 = 1 then sF σ 7 c else if a1 = 2 then sF σ 8 c else if a1 = 3 then sF σ 9 c else if a1 = 4 then sF σ 10 c else if a1 = 5 then sF σ 11 c else if a1 = 6 then sF σ 13 c else if a1 = 7 then sF σ 15 c else sF σ 12 c, σ, vG 0 0 ρ, fun post px hp => po_y hc ⟨c, rfl, hc, ?_⟩, fun post hp => ic_y hc ⟨fun e => absurd e (by decide), fun _ => ?_⟩, rfl, h.th 0, id⟩
      · rcases lit9 hin with rfl | rfl | rfl | rfl | rfl | rfl | rfl | rfl | rfl
        · refine ⟨fun _ => ?_, fun e => absurd rfl e⟩
          rcases hq with ⟨i1, i2, -⟩ | ⟨j, ⟨t1, t2, t3, -⟩, -⟩
          · rw [if_pos rfl, i2] at hp
            exact wt_no i1 ⟨fun _ => hp, fun e => absurd rfl e⟩
          · rw [if_pos rfl, t3] at hp
            exact wt_yes t1 t2 ⟨fun e => absurd e (by decide), fun _ => hp⟩
        · simpa using hp
        · simpa using hp
        · simpa using hp
        · simpa using hp
        · simpa using hp
        · simpa using hp
        · simp [wp_asInt] at hp ⊢
          have h15 : sF σ 15 c = 0 ∨ sF σ 15 c = 1 := by
            rcases hq with ⟨_, _, _, _, q, _⟩ | ⟨j, _, _, _, _, _, _, _, _, q⟩
            · exact Or.inl q
            · exact q
          rcases h15 with q | q <;> rw [q] at hp ⊢ <;> simpa using hp
        · simp [wp_asInt] at hp ⊢
          rcases hcl.opnB with q | q <;> rw [q] at hp ⊢ <;> simpa using hp
      · rcases lit9 hin with rfl | rfl | rfl | rfl | rfl | rfl | rfl | rfl | rfl
        · simp [wp_m_within, hi8, c8, q_mAG] at hp ⊢
          rcases hq with ⟨i1, i2, -⟩ | ⟨j, ⟨t1, t2, t3, -⟩, -⟩
          · rw [i2] at hp ⊢; simpa using hp
          · rw [t3] at hp ⊢; simpa using hp
        · simp [wp_m_within, hi8, c8, q_mAG] at hp ⊢; rw [e2] at hp; exact hp
        · simp [wp_m_within, hi8, c8, q_mAG] at hp ⊢; rw [e3] at hp; exact hp
        · simp [wp_m_within, hi8, c8, q_mAG] at hp ⊢; rw [e4] at hp; exact hp
        · simp [wp_m_within, hi8, c8, q_mAG] at hp ⊢; rw [e5] at hp; exact hp
        · simp [wp_m_within, hi8, c8, q_mAG] at hp ⊢; rw [e6] at hp; exact hp
        · simp [wp_m_within, hi8, c8, q_mAG] at hp ⊢
          rcases hq with ⟨_, _, i3, i4, _⟩ | ⟨j, _, _, _, a3, a4, a5, a6, _⟩
          · rw [i3] at hp; rw [i4]; simpa using hp
          · have : ¬ (mA ρ 11 c ≤ 0) := by
              have hm := h.1.madeB
              rw [Int32.le_iff_toInt_le, a6, iq_add (by show _ ≤ (_ : Int) + 1; omega) (by show (_ : Int) + 1 < _; omega)]
              show ¬ ((_ : Int) + 1 ≤ 0)
              omega
            exact ⟨fun e => absurd e this, fun _ => by rw [a3]; exact hp⟩
        · simp [wp_m_within, hi8, c8, q_mAG] at hp ⊢
          have h15 : sF σ 15 c = mA ρ 12 c ∧ (sF σ 15 c = 0 ∨ sF σ 15 c = 1) := by
            rcases hq with ⟨_, _, _, _, q, q'⟩ | ⟨j, _, _, _, _, _, _, _, q', q⟩
            · exact ⟨by rw [q, q'], Or.inl q⟩
            · exact ⟨q', q⟩
          rw [← h15.1]
          rcases h15.2 with q | q <;> rw [q] at hp ⊢ <;> simpa using hp
        · simp [wp_m_within, hi8, c8, q_mAG] at hp ⊢
          rw [← e7]
          rcases hcl.opnB with q | q <;> rw [q] at hp ⊢ <;> simpa using hp
theorem byt_in {a n : Int32} {N : Nat} (h0 : ¬ a < 0) (h : a < n) (hn : n.toInt ≤ N) (hN : N < 2000000000) : ∃ k : Nat, k < N ∧ a = nI k ∧ ¬ n - 1 < a := by
  rw [Int32.lt_iff_toInt_lt] at h0 h
  have h0 : ¬ a.toInt < 0 := h0
  obtain ⟨k, hk, rfl⟩ := iq_of (x := a) (n := N) (by omega) (by omega) (by omega)
  refine ⟨k, hk, rfl, ?_⟩
  obtain ⟨m, hm, rfl⟩ := iq_of (x := n) (n := N + 1) (by omega) (by omega) (by omega)
  rw [iq_nI (by omega), iq_nI (by omega)] at h
  rw [show nI m - 1 = nI (m - 1) from pk_sub (b := 1) (by omega)]
  exact nI_nlt (by omega) (by omega)
theorem byt_out {a n : Int32} {N : Nat} (h : ¬ a < n) (h0 : 0 ≤ n.toInt) (hn : n.toInt ≤ N) (hN : N < 2000000000) : n - 1 < a := by
  rw [Int32.lt_iff_toInt_lt] at h ⊢
  have : (n - 1).toInt = n.toInt - 1 := by
    rw [Int32.toInt_sub, Int.bmod_eq_of_le_mul_two]
    · rfl
    · show _ ≤ ((_ : Int) - 1) * 2; omega
    · show ((_ : Int) - 1) * 2 < _; omega
  rw [this]; omega
theorem sim_dataAt {B : Nat} {σ : Sg} {ρ : Sm} (h : Rl B σ ρ) (a a1 : Int32) : SimI B σ (fun post px => wp_dataAt post px σ a a1) (fun post => wp_m_dataAt post ρ a a1) (fun E k => E = "java/lang/IndexOutOfBoundsException" ∧ k = 1) := by
  rcases ix8 a with ha | ⟨c, hc, rfl⟩
  · exact Or.inr ⟨_, 1, 0, σ, vG 0 1 (vG 0 0 ρ), fun post px hp => po_n ha hp, fun post hp => ic_n ha ⟨fun _ => hp, fun e => absurd rfl e⟩, rfl, by decide, ⟨rfl, rfl⟩, (h.th 0).th 1, rfl⟩
  · have hcl := h.1.cl c hc
    have es := hcl.dsz
    have eb := hcl.dszB
    by_cases h0 : a1 < 0
    · exact Or.inr ⟨_, 1, 0, σ, vG 0 1 (vG 0 0 ρ), fun post px hp => po_y hc ⟨c, rfl, hc, fun _ => hp, fun e => absurd h0 e⟩, fun post hp => ic_y hc ⟨fun e => absurd e (by decide), fun _ => ⟨in8 hc, wi_n (Or.inl h0) ⟨fun _ => hp, fun e => absurd rfl e⟩⟩⟩, rfl, by decide, ⟨rfl, rfl⟩, (h.th 0).th 1, rfl⟩
    by_cases h1 : a1 < sF σ 3 c
    · obtain ⟨k, hk, rfl, hle⟩ := byt_in (N := 232) h0 h1 eb.2 (by decide)
      refine Or.inl ⟨sB σ 0 c k &&& 255, σ, vG 0 0 ρ, fun post px hp => po_y hc ⟨c, rfl, hc, fun e => absurd e h0, fun _ => ⟨fun _ => ⟨hc, vp_in_nI hk (by decide), ?_⟩, fun e => absurd h1 e⟩⟩, fun post hp => ic_y hc ⟨fun e => absurd e (by decide), fun _ => ⟨in8 hc, wi_y h0 ?_ ⟨fun e => absurd e (by decide), fun _ => ⟨?_, ?_⟩⟩⟩⟩, rfl, h.th 0, id⟩
      · rw [clN (by omega)]; exact hp
      · rw [cl8 hc]; show ¬ mA ρ 13 c - 1 < nI k; rw [← es]; exact hle
      · rw [show (240 : Int32) * nI c + nI k = nI (240 * c + k) by rw [show (240 : Int32) = nI 240 from rfl, pk_mul, nI_add]]
        exact vp_in_nI (by omega) (by decide)
      · rw [show (240 : Int32) * nI c + nI k = nI (240 * c + k) by rw [show (240 : Int32) = nI 240 from rfl, pk_mul, nI_add], clN (by omega)]
        rw [hcl.dat k hk] at hp
        exact hp
    · refine Or.inr ⟨_, 1, 0, σ, vG 0 1 (vG 0 0 ρ), fun post px hp => po_y hc ⟨c, rfl, hc, fun e => absurd e h0, fun _ => ⟨fun e => absurd e h1, fun _ => hp⟩⟩, fun post hp => ic_y hc ⟨fun e => absurd e (by decide), fun _ => ⟨in8 hc, wi_n (Or.inr ?_) ⟨fun _ => hp, fun e => absurd rfl e⟩⟩⟩, rfl, by decide, ⟨rfl, rfl⟩, (h.th 0).th 1, rfl⟩
      rw [cl8 hc]; show mA ρ 13 c - 1 < a1; rw [← es]; exact byt_out (N := 232) h1 eb.1 eb.2 (by decide)
theorem sim_answerAt {B : Nat} {σ : Sg} {ρ : Sm} (h : Rl B σ ρ) (a a1 : Int32) : SimI B σ (fun post px => wp_answerAt post px σ a a1) (fun post => wp_m_answerAt post ρ a a1) (fun E k => E = "java/lang/IndexOutOfBoundsException" ∧ k = 1) := by
  rcases ix8 a with ha | ⟨c, hc, rfl⟩
  · exact Or.inr ⟨_, 1, 0, σ, vG 0 1 (vG 0 0 ρ), fun post px hp => po_n ha hp, fun post hp => ic_n ha ⟨fun _ => hp, fun e => absurd rfl e⟩, rfl, by decide, ⟨rfl, rfl⟩, (h.th 0).th 1, rfl⟩
  · have hcl := h.1.cl c hc
    have es := hcl.asz
    have eb := hcl.aszB
    by_cases h0 : a1 < 0
    · exact Or.inr ⟨_, 1, 0, σ, vG 0 1 (vG 0 0 ρ), fun post px hp => po_y hc ⟨c, rfl, hc, fun _ => hp, fun e => absurd h0 e⟩, fun post hp => ic_y hc ⟨fun e => absurd e (by decide), fun _ => ⟨in8 hc, wi_n (Or.inl h0) ⟨fun _ => hp, fun e => absurd rfl e⟩⟩⟩, rfl, by decide, ⟨rfl, rfl⟩, (h.th 0).th 1, rfl⟩
    by_cases h1 : a1 < sF σ 4 c
    · obtain ⟨k, hk, rfl, hle⟩ := byt_in (N := 134) h0 h1 eb.2 (by decide)
      refine Or.inl ⟨sB σ 1 c k &&& 255, σ, vG 0 0 ρ, fun post px hp => po_y hc ⟨c, rfl, hc, fun e => absurd e h0, fun _ => ⟨fun _ => ⟨hc, vp_in_nI hk (by decide), ?_⟩, fun e => absurd h1 e⟩⟩, fun post hp => ic_y hc ⟨fun e => absurd e (by decide), fun _ => ⟨in8 hc, wi_y h0 ?_ ⟨fun e => absurd e (by decide), fun _ => ⟨?_, ?_⟩⟩⟩⟩, rfl, h.th 0, id⟩
      · rw [clN (by omega)]; exact hp
      · rw [cl8 hc]; show ¬ mA ρ 15 c - 1 < nI k; rw [← es]; exact hle
      · rw [show (134 : Int32) * nI c + nI k = nI (134 * c + k) by rw [show (134 : Int32) = nI 134 from rfl, pk_mul, nI_add]]
        exact vp_in_nI (by omega) (by decide)
      · rw [show (134 : Int32) * nI c + nI k = nI (134 * c + k) by rw [show (134 : Int32) = nI 134 from rfl, pk_mul, nI_add], clN (by omega)]
        rw [hcl.ans k hk] at hp
        exact hp
    · refine Or.inr ⟨_, 1, 0, σ, vG 0 1 (vG 0 0 ρ), fun post px hp => po_y hc ⟨c, rfl, hc, fun e => absurd e h0, fun _ => ⟨fun e => absurd e h1, fun _ => hp⟩⟩, fun post hp => ic_y hc ⟨fun e => absurd e (by decide), fun _ => ⟨in8 hc, wi_n (Or.inr ?_) ⟨fun _ => hp, fun e => absurd rfl e⟩⟩⟩, rfl, by decide, ⟨rfl, rfl⟩, (h.th 0).th 1, rfl⟩
      rw [cl8 hc]; show mA ρ 15 c - 1 < a1; rw [← es]; exact byt_out (N := 134) h1 eb.1 eb.2 (by decide)
theorem sim_history {B : Nat} {σ : Sg} {ρ : Sm} (h : Rl B σ ρ) (a a1 : Int32) : SimI B σ (fun post px => wp_history post px σ a a1) (fun post => wp_m_history post ρ a a1) (fun E k => E = "java/lang/IndexOutOfBoundsException" ∧ k = 1) := by
  have hr := h.1
  have hn : (sG σ 6).toInt = (sN σ : Int) := by rw [hr.askN, iq_nI (by have := hr.nB; omega)]
  have hN := hr.nB
  by_cases h0 : a < 0
  · exact Or.inr ⟨_, 1, 0, σ, vG 0 1 (vG 0 0 ρ), fun post px hp => ⟨fun _ => hp, fun e => absurd h0 e⟩, fun post hp => wi_n (Or.inl h0) ⟨fun _ => hp, fun e => absurd rfl e⟩, rfl, by decide, ⟨rfl, rfl⟩, (h.th 0).th 1, rfl⟩
  by_cases h1 : a < sG σ 6
  · obtain ⟨j, hj, rfl, hle⟩ := byt_in (N := sN σ) h0 h1 (by omega) (by omega)
    have hcl : (nI j).toNatClampNeg = j := clN (by omega)
    have hle' : ¬ mG ρ 5 - 1 < nI j := by rw [← hr.asked]; exact hle
    have hg : ∀ (post : Option Nat → Sg → Prop), post (some j) σ → wp_get post σ (nI j) := by
      intro post hp
      refine ⟨fun e => absurd e h0, fun _ => ⟨fun _ => ⟨by have := hr.nC; omega, ?_, ?_⟩, fun e => absurd h1 e⟩⟩
      · have := hr.nC; have := hr.cB; exact vp_in_nI (by omega) (by omega)
      · rw [hcl, hr.lst j hj]
        exact ⟨fun e => (by cases e), fun j4 e => (by cases e; exact ⟨hj, j, rfl, hj, hp⟩)⟩
    rcases pk_ix a1 (n := 6) (by decide) with h2 | h2 | ⟨k, hk, rfl⟩
    · have ne : ∀ k : Nat, k < 6 → a1 ≠ nI k := fun k hk e => by rw [e] at h2; exact absurd h2 (nI_pos (by omega))
      refine Or.inr ⟨_, 1, 0, σ, vG 0 1 (vG 0 0 ρ), fun post px hp => ⟨fun e => absurd e h0, fun _ => ⟨fun _ => hg _ ⟨j, rfl, hj, fun e => absurd e (ne 0 (by decide)), fun _ => ⟨fun e => absurd e (ne 1 (by decide)), fun _ => ⟨fun e => absurd e (ne 2 (by decide)), fun _ => ⟨fun e => absurd e (ne 3 (by decide)), fun _ => ⟨fun e => absurd e (ne 4 (by decide)), fun _ => ⟨fun e => absurd e (ne 5 (by decide)), fun _ => hp⟩⟩⟩⟩⟩⟩, fun e => absurd h1 e⟩⟩, fun post hp => wi_y h0 hle' ⟨fun e => absurd e (by decide), fun _ => wi_n (Or.inl h2) ⟨fun _ => hp, fun e => absurd rfl e⟩⟩, rfl, by decide, ⟨rfl, rfl⟩, (h.th 0).th 1, rfl⟩
    · have ne : ∀ k : Nat, k < 6 → a1 ≠ nI k := fun k hk e => by rw [e] at h2; exact absurd ((nI_leI (by decide) (by omega)).mp h2) (by omega)
      have h5 : (5 : Int32) < a1 := by
        rw [Int32.lt_iff_toInt_lt]; rw [Int32.le_iff_toInt_le] at h2
        have h2 : (6 : Int) ≤ a1.toInt := h2
        show (5 : Int) < a1.toInt
        omega
      refine Or.inr ⟨_, 1, 0, σ, vG 0 1 (vG 0 0 ρ), fun post px hp => ⟨fun e => absurd e h0, fun _ => ⟨fun _ => hg _ ⟨j, rfl, hj, fun e => absurd e (ne 0 (by decide)), fun _ => ⟨fun e => absurd e (ne 1 (by decide)), fun _ => ⟨fun e => absurd e (ne 2 (by decide)), fun _ => ⟨fun e => absurd e (ne 3 (by decide)), fun _ => ⟨fun e => absurd e (ne 4 (by decide)), fun _ => ⟨fun e => absurd e (ne 5 (by decide)), fun _ => hp⟩⟩⟩⟩⟩⟩, fun e => absurd h1 e⟩⟩, fun post hp => wi_y h0 hle' ⟨fun e => absurd e (by decide), fun _ => wi_n (Or.inr h5) ⟨fun _ => hp, fun e => absurd rfl e⟩⟩, rfl, by decide, ⟨rfl, rfl⟩, (h.th 0).th 1, rfl⟩
    · have hh := hr.his j hj k hk
      refine Or.inl ⟨sH σ k j, σ, vG 0 0 ρ, fun post px hp => ⟨fun e => absurd e h0, fun _ => ⟨fun _ => hg _ ⟨j, rfl, hj, ?_⟩, fun e => absurd h1 e⟩⟩, fun post hp => wi_y h0 hle' ⟨fun e => absurd e (by decide), fun _ => wi_y (nI_pos (by omega)) (nI_nlt (b := k) (a := 5) (by omega) (by omega)) ⟨fun e => absurd e (by decide), fun _ => ⟨?_, ?_⟩⟩⟩, rfl, h.th 0, id⟩
      · match k, hk with
        | 0, _ => exact ⟨fun _ => hp, fun e => absurd rfl e⟩
        | 1, _ => exact ⟨fun e => absurd e (by decide), fun _ => ⟨fun _ => hp, fun e => absurd rfl e⟩⟩
        | 2, _ => exact ⟨fun e => absurd e (by decide), fun _ => ⟨fun e => absurd e (by decide), fun _ => ⟨fun _ => hp, fun e => absurd rfl e⟩⟩⟩
        | 3, _ => exact ⟨fun e => absurd e (by decide), fun _ => ⟨fun e => absurd e (by decide), fun _ => ⟨fun e => absurd e (by decide), fun _ => ⟨fun _ => hp, fun e => absurd rfl e⟩⟩⟩⟩
        | 4, _ => exact ⟨fun e => absurd e (by decide), fun _ => ⟨fun e => absurd e (by decide), fun _ => ⟨fun e => absurd e (by decide), fun _ => ⟨fun e => absurd e (by decide), fun _ => ⟨fun _ => hp, fun e => absurd rfl e⟩⟩⟩⟩⟩
        | 5, _ => exact ⟨fun e => absurd e (by decide), fun _ => ⟨fun e => absurd e (by decide), fun _ => ⟨fun e => absurd e (by decide), fun _ => ⟨fun e => absurd e (by decide), fun _ => ⟨fun e => absurd e (by decide), fun _ => ⟨fun _ => hp, fun e => absurd rfl e⟩⟩⟩⟩⟩⟩
      · rw [ix6]; exact vp_in_nI (by omega) (by decide)
      · rw [ix6, clN (by omega)]
        rw [hh] at hp; exact hp
  · refine Or.inr ⟨_, 1, 0, σ, vG 0 1 (vG 0 0 ρ), fun post px hp => ⟨fun e => absurd e h0, fun _ => ⟨fun e => absurd e h1, fun _ => hp⟩⟩, fun post hp => wi_n (Or.inr ?_) ⟨fun _ => hp, fun e => absurd rfl e⟩, rfl, by decide, ⟨rfl, rfl⟩, (h.th 0).th 1, rfl⟩
    show mG ρ 5 - 1 < a
    rw [← hr.asked]
    exact byt_out (N := sN σ) h1 (by omega) (by omega) (by omega)
/-- a call that answers an int and throws nothing -/
def SimN (B : Nat) (σ : Sg) (Wc : (Int32 → Sg → Prop) → Prop) (Wm : (Int32 → Sm → Prop) → Prop) : Prop :=
  ∃ (r : Int32) (σ' : Sg) (ρ' : Sm), (∀ (post : Int32 → Sg → Prop), post r σ' → Wc post) ∧ (∀ post : Int32 → Sm → Prop, post r ρ' → Wm post) ∧ Rl B σ' ρ' ∧ sC σ' = sC σ
theorem sim_request {B : Nat} {σ : Sg} {ρ : Sm} (hB : B < 1000000000) (h : Rl B σ ρ) (a a1 : Int32) : SimN B σ (fun post => wp_request post σ a a1) (fun post => wp_m_request post ρ a a1) := by
  have hr := h.1
  obtain ⟨t, ht, et⟩ := iq_of (n := B + 1) hr.totB.1 (by have := hr.totB.2; omega) (by omega)
  have et' : mG ρ 4 = nI t := by rw [← hr.tot]; exact et
  by_cases h0 : a < 0
  · exact ⟨-1, σ, vG 0 0 ρ, fun post hp => ⟨fun _ => hp, fun e => absurd h0 e⟩, fun post hp => wi_n (Or.inl h0) ⟨fun _ => hp, fun e => absurd rfl e⟩, h.th 0, rfl⟩
  by_cases h1 : 64 ≤ a
  · have h1' : (63 : Int32) < a := by
      rw [Int32.lt_iff_toInt_lt]; rw [Int32.le_iff_toInt_le] at h1
      have h1 : (64 : Int) ≤ a.toInt := h1
      show (63 : Int) < a.toInt
      omega
    exact ⟨-1, σ, vG 0 0 ρ, fun post hp => ⟨fun _ => hp, fun _ => ⟨fun _ => hp, fun e => absurd h1 e⟩⟩, fun post hp => wi_n (Or.inr h1') ⟨fun _ => hp, fun e => absurd rfl e⟩, h.th 0, rfl⟩
  have hk : ∃ k : Nat, k < 64 ∧ a = nI k := by
    rcases pk_ix a (n := 64) (by decide) with e | e | e
    · exact absurd e h0
    · exact absurd e h1
    · exact e
  obtain ⟨k, hk, rfl⟩ := hk
  have h63 : ¬ (63 : Int32) < nI k := nI_nlt (b := k) (a := 63) (by omega) (by decide)
  by_cases h2 : sG σ 4 ≤ nI k
  · have h2' : mG ρ 4 ≤ nI k := by rw [← hr.tot]; exact h2
    exact ⟨-1, σ, vG 0 0 ρ, fun post hp => ⟨fun e => absurd e h0, fun _ => ⟨fun e => absurd e h1, fun _ => ⟨fun _ => hp, fun e => absurd h2 e⟩⟩⟩, fun post hp => wi_y h0 h63 ⟨fun e => absurd e (by decide), fun _ => ⟨fun _ => hp, fun e => absurd h2' e⟩⟩, h.th 0, rfl⟩
  have h2' : ¬ mG ρ 4 ≤ nI k := by rw [← hr.tot]; exact h2
  have hkt : k < t := by
    rw [et] at h2
    exact Nat.lt_of_not_le (fun q => h2 (nI_le q (by omega)))
  by_cases h3 : a1 < 0
  · exact ⟨-1, σ, vG 0 0 ρ, fun post hp => ⟨fun e => absurd e h0, fun _ => ⟨fun e => absurd e h1, fun _ => ⟨fun e => absurd e h2, fun _ => ⟨fun _ => hp, fun e => absurd h3 e⟩⟩⟩⟩, fun post hp => wi_y h0 h63 ⟨fun e => absurd e (by decide), fun _ => ⟨fun e => absurd e h2', fun _ => wi_n (Or.inl h3) ⟨fun e => absurd rfl e, fun _ => hp⟩⟩⟩, h.th 0, rfl⟩
  by_cases h4 : a1 < 8
  · obtain ⟨w, hw, rfl⟩ : ∃ k : Nat, k < 8 ∧ a1 = nI k := by
      rcases ix8 a1 with (e | e) | e
      · exact absurd e h3
      · exact absurd h4 (by rw [Int32.lt_iff_toInt_lt]; rw [Int32.le_iff_toInt_le] at e; exact Int.not_lt.mpr e)
      · exact e
    have h7 : ¬ (7 : Int32) < nI w := nI_nlt (b := w) (a := 7) (by omega) (by decide)
    have e1 : sG σ 4 - 1 - nI k = nI (t - 1 - k) := by
      rw [et, show nI t - 1 = nI (t - 1) from pk_sub (b := 1) (by omega), pk_sub (by omega)]
    have hm : (t - 1 - k) % 64 < 64 := Nat.mod_lt _ (by decide)
    have e2 : (nI (t - 1 - k) &&& 63) * 8 + nI w = nI ((t - 1 - k) % 64 * 8 + w) := by
      rw [pk_andN (k := 6) (by omega) (by decide), show (8 : Int32) = nI 8 from rfl, pk_mul, nI_add]
    have e3 : mG ρ 4 - 1 - nI k = nI (t - 1 - k) := by rw [← hr.tot]; exact e1
    refine ⟨sA σ 1 ((t - 1 - k) % 64 * 8 + w), σ, vG 0 0 ρ, fun post hp => ⟨fun e => absurd e h0, fun _ => ⟨fun e => absurd e h1, fun _ => ⟨fun e => absurd e h2, fun _ => ⟨fun e => absurd e h3, fun _ => ⟨fun _ => ?_, fun e => absurd h4 e⟩⟩⟩⟩⟩, fun post hp => wi_y h0 h63 ⟨fun e => absurd e (by decide), fun _ => ⟨fun e => absurd e h2', fun _ => wi_y (nI_pos (by omega)) h7 ⟨fun _ => ?_, fun e => absurd e (by decide)⟩⟩⟩, h.th 0, rfl⟩
    · rw [e1]
      show vp_in ((nI (t - 1 - k) &&& 63) * 8 + nI w) 512 ∧ post (sA σ 1 ((nI (t - 1 - k) &&& 63) * 8 + nI w).toNatClampNeg) σ
      rw [e2, clN (by omega)]
      exact ⟨vp_in_nI (by omega) (by decide), hp⟩
    · show vp_in ((8 * ((mG ρ 4 - 1 - nI k) - (mG ρ 4 - 1 - nI k) / 64 * 64)) + nI w) 512 ∧ post (mA ρ 17 ((8 * ((mG ρ 4 - 1 - nI k) - (mG ρ 4 - 1 - nI k) / 64 * 64)) + nI w).toNatClampNeg) (vG 0 0 ρ)
      rw [e3, r64 (by omega), nI_add, clN (by omega)]
      rw [hr.log _ (by omega)] at hp
      exact ⟨vp_in_nI (by omega) (by decide), hp⟩
  · have h7 : (7 : Int32) < a1 := by
      rw [Int32.lt_iff_toInt_lt] at h4 ⊢
      have h4 : ¬ a1.toInt < 8 := h4
      show (7 : Int) < a1.toInt
      omega
    exact ⟨-1, σ, vG 0 0 ρ, fun post hp => ⟨fun e => absurd e h0, fun _ => ⟨fun e => absurd e h1, fun _ => ⟨fun e => absurd e h2, fun _ => ⟨fun e => absurd e h3, fun _ => ⟨fun e => absurd e h4, fun _ => hp⟩⟩⟩⟩⟩, fun post hp => wi_y h0 h63 ⟨fun e => absurd e (by decide), fun _ => ⟨fun e => absurd e h2', fun _ => wi_n (Or.inr h7) ⟨fun e => absurd rfl e, fun _ => hp⟩⟩⟩, h.th 0, rfl⟩
/-- how many of the clients from k on wait -/
def nW (σ : Sg) : Nat → Nat → Int32 → Int32 | 0, _, a => a | d + 1, k, a => nW σ d (k + 1) (a + if sR σ k = none then 0 else 1)
theorem how_l {σ : Sg} {post : Int32 → Sg → Prop} (hw : ∀ i, i < 8 → ∀ j, sR σ i = some j → j < sN σ) : ∀ (d k : Nat) (a : Int32), k + d = 8 → post (nW σ d k a) σ → wpl_howManyWait_L4 (d + 1) post σ a (nI k) := by
  intro d
  induction d with
  | zero => intro k a e hp; have : k = 8 := by omega
            subst this; exact ⟨fun _ => hp, fun e => absurd (by decide) e⟩
  | succ d ih =>
    intro k a e hp
    refine ⟨fun e => absurd e (nI_ge (b := 8) (by omega) (by decide)), fun _ => ⟨in8 (by omega), ?_⟩⟩
    rw [cl8 (by omega), nI_1]
    unfold nW at hp
    rcases hR : sR σ k with _ | j
    · rw [hR, if_pos rfl] at hp
      exact wt_no hR ⟨fun _ => ih _ _ (by omega) hp, fun e => absurd rfl e⟩
    · rw [hR, if_neg (by simp)] at hp
      exact wt_yes hR (hw k (by omega) j hR) ⟨fun e => absurd e (by decide), fun _ => ih _ _ (by omega) hp⟩
theorem cnt_l {σ : Sg} {ρ : Sm} {post : Int32 → Sm → Prop} {x1 : Int32} (hw : ∀ i, i < 8 → (sR σ i = none → mA ρ 1 i = 0) ∧ (sR σ i ≠ none → mA ρ 1 i = 1)) : ∀ (d k : Nat) (a : Int32), k + d = 8 → ((¬ (x1 = 4) → post (mG ρ 6) ρ) ∧ (x1 = 4 → post (nW σ d k a) ρ)) → wpl_m_count_L65 (d + 1) post ρ x1 a (nI k) := by
  intro d
  induction d with
  | zero => intro k a e hp; have : k = 8 := by omega
            subst this; exact ⟨fun _ => hp, fun e => absurd (by decide) e⟩
  | succ d ih =>
    intro k a e hp
    refine ⟨fun e => absurd e (nI_ge (b := 8) (by omega) (by decide)), fun _ => ⟨in8 (by omega), ?_⟩⟩
    rw [cl8 (by omega), nI_1]
    unfold nW at hp
    by_cases hR : sR σ k = none
    · rw [if_pos hR] at hp
      rw [(hw k (by omega)).1 hR]
      exact ⟨fun _ => ih _ _ (by omega) hp, fun e => absurd rfl e⟩
    · rw [if_neg hR] at hp
      rw [(hw k (by omega)).2 hR]
      exact ⟨fun e => absurd e (by decide), fun _ => ih _ _ (by omega) hp⟩
theorem sim_count {B : Nat} {σ : Sg} {ρ : Sm} (h : Rl B σ ρ) (a : Int32) : SimN B σ (fun post => wp_count post σ a) (fun post => wp_m_count post ρ a) := by
  have hr := h.1
  have hw1 : ∀ i, i < 8 → ∀ j, sR σ i = some j → j < sN σ := fun i hi j e => by
    rcases h.2 i hi with q | ⟨j', t, -⟩
    · rw [q.1] at e; cases e
    · rw [t.1] at e; cases e; exact t.2.1
  have hw2 : ∀ i, i < 8 → (sR σ i = none → mA (vG 0 0 ρ) 1 i = 0) ∧ (sR σ i ≠ none → mA (vG 0 0 ρ) 1 i = 1) := fun i hi => by
    rcases h.2 i hi with q | ⟨j', t, -⟩
    · exact ⟨fun _ => q.2.1, fun e => absurd q.1 e⟩
    · exact ⟨fun e => (by rw [t.1] at e; cases e), fun _ => t.2.2.1⟩
  have hout : (a < 0 ∨ 5 < a) → SimN B σ (fun post => wp_count post σ a) (fun post => wp_m_count post ρ a) := by
    intro ho
    have ne : ∀ k : Nat, k < 6 → a ≠ nI k := fun k hk e => by
      rw [e] at ho
      rcases ho with ho | ho
      · exact absurd ho (nI_pos (by omega))
      · exact absurd ((nI_ltI (a := 5) (by decide) (by omega)).mp ho) (by omega)
    exact ⟨-1, σ, vG 0 0 ρ, fun post hp => ⟨fun e => absurd e (ne 0 (by decide)), fun _ => ⟨fun e => absurd e (ne 1 (by decide)), fun _ => ⟨fun e => absurd e (ne 2 (by decide)), fun _ => ⟨fun e => absurd e (ne 3 (by decide)), fun _ => ⟨fun e => absurd e (ne 4 (by decide)), fun _ => ⟨fun e => absurd e (ne 5 (by decide)), fun _ => hp⟩⟩⟩⟩⟩⟩, fun post hp => wi_n ho ⟨fun e => absurd rfl e, fun _ => hp⟩, h.th 0, rfl⟩
  rcases pk_ix a (n := 6) (by decide) with e | e | ⟨k, hk, rfl⟩
  · exact hout (Or.inl e)
  · refine hout (Or.inr ?_)
    rw [Int32.lt_iff_toInt_lt]; rw [Int32.le_iff_toInt_le] at e
    have e : (6 : Int) ≤ a.toInt := e
    show (5 : Int) < a.toInt
    omega
  · match k, hk with
    | 0, _ => exact ⟨sG σ 1, σ, vG 0 0 ρ, fun post hp => ⟨fun _ => hp, fun e => absurd rfl e⟩, fun post hp => wi_y (by decide) (by decide) ⟨fun _ => ⟨fun e => absurd e (by decide), fun _ => ⟨fun e => absurd rfl e, fun _ => by rw [hr.now] at hp; exact hp⟩⟩, fun e => absurd e (by decide)⟩, h.th 0, rfl⟩
    | 1, _ => exact ⟨sG σ 6, σ, vG 0 0 ρ, fun post hp => ⟨fun e => absurd e (by decide), fun _ => ⟨fun _ => hp, fun e => absurd rfl e⟩⟩, fun post hp => wi_y (by decide) (by decide) ⟨fun _ => ⟨fun e => absurd e (by decide), fun _ => ⟨fun _ => ⟨fun e => absurd rfl e, fun _ => by rw [hr.asked] at hp; exact hp⟩, fun e => absurd e (by decide)⟩⟩, fun e => absurd e (by decide)⟩, h.th 0, rfl⟩
    | 2, _ => exact ⟨sG σ 2, σ, vG 0 0 ρ, fun post hp => ⟨fun e => absurd e (by decide), fun _ => ⟨fun e => absurd e (by decide), fun _ => ⟨fun _ => hp, fun e => absurd rfl e⟩⟩⟩, fun post hp => wi_y (by decide) (by decide) ⟨fun _ => ⟨fun e => absurd e (by decide), fun _ => ⟨fun _ => ⟨fun _ => ⟨fun e => absurd rfl e, fun _ => by rw [hr.mom] at hp; exact hp⟩, fun e => absurd e (by decide)⟩, fun e => absurd e (by decide)⟩⟩, fun e => absurd e (by decide)⟩, h.th 0, rfl⟩
    | 3, _ => exact ⟨sG σ 4, σ, vG 0 0 ρ, fun post hp => ⟨fun e => absurd e (by decide), fun _ => ⟨fun e => absurd e (by decide), fun _ => ⟨fun e => absurd e (by decide), fun _ => ⟨fun _ => hp, fun e => absurd rfl e⟩⟩⟩⟩, fun post hp => wi_y (by decide) (by decide) ⟨fun _ => ⟨fun e => absurd e (by decide), fun _ => ⟨fun _ => ⟨fun _ => ⟨fun _ => by rw [hr.tot] at hp; exact hp, fun e => absurd e (by decide)⟩, fun e => absurd e (by decide)⟩, fun e => absurd e (by decide)⟩⟩, fun e => absurd e (by decide)⟩, h.th 0, rfl⟩
    | 4, _ => exact ⟨nW σ 8 0 0, σ, vG 0 0 ρ, fun post hp => ⟨fun e => absurd e (by decide), fun _ => ⟨fun e => absurd e (by decide), fun _ => ⟨fun e => absurd e (by decide), fun _ => ⟨fun e => absurd e (by decide), fun _ => ⟨fun _ => ⟨9, how_l hw1 8 0 0 rfl hp⟩, fun e => absurd rfl e⟩⟩⟩⟩⟩, fun post hp => wi_y (by decide) (by decide) ⟨fun _ => ⟨fun _ => ⟨9, cnt_l hw2 8 0 0 rfl ⟨fun e => absurd rfl e, fun _ => hp⟩⟩, fun e => absurd (by decide) e⟩, fun e => absurd e (by decide)⟩, h.th 0, rfl⟩
    | 5, _ => exact ⟨sG σ 0, σ, vG 0 0 ρ, fun post hp => ⟨fun e => absurd e (by decide), fun _ => ⟨fun e => absurd e (by decide), fun _ => ⟨fun e => absurd e (by decide), fun _ => ⟨fun e => absurd e (by decide), fun _ => ⟨fun e => absurd e (by decide), fun _ => ⟨fun _ => hp, fun e => absurd rfl e⟩⟩⟩⟩⟩⟩, fun post hp => wi_y (by decide) (by decide) ⟨fun _ => ⟨fun _ => ⟨9, cnt_l hw2 8 0 0 rfl ⟨fun _ => by rw [hr.tape] at hp; exact hp, fun e => absurd e (by decide)⟩⟩, fun e => absurd (by decide) e⟩, fun e => absurd e (by decide)⟩, h.th 0, rfl⟩
