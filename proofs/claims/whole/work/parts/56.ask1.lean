theorem ks {post : Int32 → Sg → Prop} {σ : Sg} {k : Int32} (hy : ¬ k < 1 ∧ ¬ 32 < k → post 1 σ) (hn : ¬ (¬ k < 1 ∧ ¬ 32 < k) → post 0 σ) : wp_isKeySize post σ k := ⟨fun e => hn (fun q => q.1 e), fun h1 => ⟨fun e => hn (fun q => q.2 e), fun h2 => hy ⟨h1, h2⟩⟩⟩
theorem vs {post : Int32 → Sg → Prop} {σ : Sg} {k : Int32} (hy : ¬ k < 0 ∧ ¬ 100 < k → post 1 σ) (hn : ¬ (¬ k < 0 ∧ ¬ 100 < k) → post 0 σ) : wp_isValueSize post σ k := ⟨fun e => hn (fun q => q.1 e), fun h1 => ⟨fun e => hn (fun q => q.2 e), fun h2 => hy ⟨h1, h2⟩⟩⟩
def okA (t k v r : Int32) : Prop := (¬ k < 1 ∧ ¬ 32 < k) ∧ (¬ v < 0 ∧ ¬ 100 < v) ∧ (v = 0 ∨ t = 1) ∧ (((t = 0 ∨ t = 1) ∧ ¬ r < 0 ∧ ¬ 100 < r) ∨ ((t = 2 ∨ t = 3 ∨ t = 5) ∧ r = 0) ∨ (t = 4 ∧ ¬ r < 1 ∧ ¬ 32 < r))
theorem cba {post : Int32 → Sg → Prop} {σ : Sg} {t k v n : Int32} (hy : okA t k v (n - k - v) → post 1 σ) (hn : ¬ okA t k v (n - k - v) → post 0 σ) : wp_canBeAsked post σ t k v n := by
  refine ks (fun hk => ⟨fun e => absurd e (by decide), fun _ => vs (fun hv => ⟨fun e => absurd e (by decide), fun _ => ⟨fun v0 => ⟨fun t0 => ?_, fun n0 => ⟨fun t1 => ?_, fun n1 => ⟨fun t2 => ?_, fun n2 => ⟨fun t3 => ?_, fun n3 => ⟨fun t4 => ?_, fun n4 => ⟨fun t5 => ?_, fun n5 => ?_⟩⟩⟩⟩⟩⟩, fun nv => ⟨fun t1 => ⟨fun t0 => absurd (t0.symm.trans t1) (by decide), fun n0 => ⟨fun _ => ?_, fun n1 => absurd t1 n1⟩⟩, fun nk => ?_⟩⟩⟩) (fun hv => ⟨fun _ => hn (fun q => hv q.2.1), fun e => absurd rfl e⟩)⟩) (fun hk => ⟨fun _ => hn (fun q => hk q.1), fun e => absurd rfl e⟩)
  · exact vs (fun hr => ⟨by decide, hy ⟨hk, hv, Or.inl v0, Or.inl ⟨Or.inl t0, hr⟩⟩⟩) (fun hr => ⟨by decide, hn (fun q => (by obtain ⟨b1, b2, b3, b4⟩ := q; rcases b4 with ⟨b5 | b5, b6⟩ | ⟨b5 | b5 | b5, b6⟩ | ⟨b5, b6⟩ <;> first | contradiction | exact hr b6 | (subst b5; contradiction) | (rw [b5] at *; contradiction) | (simp_all; done)))⟩)
  · exact vs (fun hr => ⟨by decide, hy ⟨hk, hv, Or.inl v0, Or.inl ⟨Or.inr t1, hr⟩⟩⟩) (fun hr => ⟨by decide, hn (fun q => (by obtain ⟨b1, b2, b3, b4⟩ := q; rcases b4 with ⟨b5 | b5, b6⟩ | ⟨b5 | b5 | b5, b6⟩ | ⟨b5, b6⟩ <;> first | contradiction | exact hr b6 | (subst b5; contradiction) | (rw [b5] at *; contradiction) | (simp_all; done)))⟩)
  · exact ⟨fun hr => hn (fun q => (by obtain ⟨b1, b2, b3, b4⟩ := q; rcases b4 with ⟨b5 | b5, b6⟩ | ⟨b5 | b5 | b5, b6⟩ | ⟨b5, b6⟩ <;> first | contradiction | exact hr b6 | (subst b5; contradiction) | (rw [b5] at *; contradiction) | (simp_all; done))), fun hr => hy ⟨hk, hv, Or.inl v0, Or.inr (Or.inl ⟨Or.inl t2, hr⟩)⟩⟩
  · exact ⟨fun hr => hn (fun q => (by obtain ⟨b1, b2, b3, b4⟩ := q; rcases b4 with ⟨b5 | b5, b6⟩ | ⟨b5 | b5 | b5, b6⟩ | ⟨b5, b6⟩ <;> first | contradiction | exact hr b6 | (subst b5; contradiction) | (rw [b5] at *; contradiction) | (simp_all; done))), fun hr => hy ⟨hk, hv, Or.inl v0, Or.inr (Or.inl ⟨Or.inr (Or.inl t3), hr⟩)⟩⟩
  · exact ks (fun hr => ⟨by decide, hy ⟨hk, hv, Or.inl v0, Or.inr (Or.inr ⟨t4, hr⟩)⟩⟩) (fun hr => ⟨by decide, hn (fun q => (by obtain ⟨b1, b2, b3, b4⟩ := q; rcases b4 with ⟨b5 | b5, b6⟩ | ⟨b5 | b5 | b5, b6⟩ | ⟨b5, b6⟩ <;> first | contradiction | exact hr b6 | (subst b5; contradiction) | (rw [b5] at *; contradiction) | (simp_all; done)))⟩)
  · exact ⟨fun hr => hn (fun q => (by obtain ⟨b1, b2, b3, b4⟩ := q; rcases b4 with ⟨b5 | b5, b6⟩ | ⟨b5 | b5 | b5, b6⟩ | ⟨b5, b6⟩ <;> first | contradiction | exact hr b6 | (subst b5; contradiction) | (rw [b5] at *; contradiction) | (simp_all; done))), fun hr => hy ⟨hk, hv, Or.inl v0, Or.inr (Or.inl ⟨Or.inr (Or.inr t5), hr⟩)⟩⟩
  · exact hn (fun q => (by obtain ⟨b1, b2, b3, b4⟩ := q; rcases b4 with ⟨b5 | b5, b6⟩ | ⟨b5 | b5 | b5, b6⟩ | ⟨b5, b6⟩ <;> first | contradiction | exact hr b6 | (subst b5; contradiction) | (rw [b5] at *; contradiction) | (simp_all; done)))
  · exact vs (fun hr => ⟨by decide, hy ⟨hk, hv, Or.inr t1, Or.inl ⟨Or.inr t1, hr⟩⟩⟩) (fun hr => ⟨by decide, hn (fun q => (by obtain ⟨b1, b2, b3, b4⟩ := q; rcases b4 with ⟨b5 | b5, b6⟩ | ⟨b5 | b5 | b5, b6⟩ | ⟨b5, b6⟩ <;> first | contradiction | exact hr b6 | (subst b5; contradiction) | (rw [b5] at *; contradiction) | (simp_all; done)))⟩)
  · exact hn (fun q => by rcases q.2.2.1 with e | e <;> contradiction)
theorem wi {post : Int32 → Sm → Prop} {ρ : Sm} {a b c : Int32} (hy : ¬ a < b ∧ ¬ c < a → post 1 ρ) (hn : ¬ (¬ a < b ∧ ¬ c < a) → post 0 ρ) : wp_m_within post ρ a b c := ⟨fun e => hn (fun q => q.1 e), fun h1 => ⟨fun e => hn (fun q => q.2 e), fun h2 => hy ⟨h1, h2⟩⟩⟩
theorem t6 {t : Int32} (h : ¬ t < 0 ∧ ¬ 5 < t) : t = 0 ∨ t = 1 ∨ t = 2 ∨ t = 3 ∨ t = 4 ∨ t = 5 := by
  rcases pk_ix t (n := 6) (by decide) with e | e | ⟨k, hk, rfl⟩
  · exact absurd e h.1
  · refine absurd ?_ h.2
    rw [Int32.lt_iff_toInt_lt]; rw [Int32.le_iff_toInt_le] at e
    have e : (6 : Int) ≤ t.toInt := e
    show (5 : Int) < t.toInt
    omega
  · have : ∀ j, j < 6 → (nI j = 0 ∨ nI j = 1 ∨ nI j = 2 ∨ nI j = 3 ∨ nI j = 4 ∨ nI j = 5) := by decide
    exact this k hk
theorem mfit {post : Int32 → Sm → Prop} {ρ : Sm} {t k v n : Int32} (hy : okA t k v (n - k - v) → post 1 ρ) (hn : ¬ okA t k v (n - k - v) → post 0 ρ) : wp_m_fits post ρ t k v n := by
  refine wi (fun ht => ⟨fun e => absurd e (by decide), fun _ => wi (fun hk => ⟨fun e => absurd e (by decide), fun _ => ⟨fun n1 => ?_, fun e1 => ?_⟩⟩) (fun hk => ⟨fun _ => hn (fun q => hk q.1), fun e => absurd rfl e⟩)⟩) (fun ht => ⟨fun _ => hn (fun q => ?_), fun e => absurd rfl e⟩)
  · refine wi (fun hv => ⟨fun _ => ?_, fun e => absurd e (by decide)⟩) (fun hv => ⟨fun e => absurd rfl e, fun _ => hn (fun q => ?_)⟩)
    · have v0 : v = 0 := by
        rw [Int32.lt_iff_toInt_lt, Int32.lt_iff_toInt_lt] at hv
        have hv : ¬ v.toInt < 0 ∧ ¬ 0 < v.toInt := hv
        rw [← Int32.toInt_inj]
        show v.toInt = 0
        omega
      have hv' : ¬ v < 0 ∧ ¬ 100 < v := by rw [v0]; decide
      refine ⟨fun h2 => ⟨fun n4 => ⟨fun hr => hn (fun q => ?_), fun hr => ?_⟩, fun e4 => wi (fun hr => ⟨by decide, hy ⟨hk, hv', Or.inl v0, Or.inr (Or.inr ⟨e4, hr⟩)⟩⟩) (fun hr => ⟨by decide, hn (fun q => (by obtain ⟨b1, b2, b3, b4⟩ := q; rcases b4 with ⟨b5 | b5, b6⟩ | ⟨b5 | b5 | b5, b6⟩ | ⟨b5, b6⟩ <;> first | contradiction | exact hr b6 | (subst b5; contradiction) | (rw [b5] at *; contradiction) | (simp_all; done)))⟩)⟩, fun n2 => wi (fun hr => ⟨by decide, ?_⟩) (fun hr => ⟨by decide, hn (fun q => ?_)⟩)⟩
      · obtain ⟨q1, q2, q3, q4⟩ := q
        rcases q4 with ⟨q5 | q5, q6⟩ | ⟨-, q6⟩ | ⟨q5, -⟩
        · rw [q5] at h2; exact absurd h2 (by decide)
        · exact n1 q5
        · exact hr q6
        · exact n4 q5
      · rcases t6 ht with e | e | e | e | e | e
        · rw [e] at h2; exact absurd h2 (by decide)
        · exact absurd e n1
        · exact hy ⟨hk, hv', Or.inl v0, Or.inr (Or.inl ⟨Or.inl e, hr⟩)⟩
        · exact hy ⟨hk, hv', Or.inl v0, Or.inr (Or.inl ⟨Or.inr (Or.inl e), hr⟩)⟩
        · exact absurd e n4
        · exact hy ⟨hk, hv', Or.inl v0, Or.inr (Or.inl ⟨Or.inr (Or.inr e), hr⟩)⟩
      · rcases t6 ht with e | e | e | e | e | e
        · exact hy ⟨hk, hv', Or.inl v0, Or.inl ⟨Or.inl e, hr⟩⟩
        · exact absurd e n1
        all_goals (rw [e] at n2; exact absurd (by decide) n2)
      · obtain ⟨q1, q2, q3, q4⟩ := q
        rcases q4 with ⟨-, q6⟩ | ⟨q5 | q5 | q5, -⟩ | ⟨q5, -⟩
        · exact hr q6
        all_goals (rw [q5] at n2; exact n2 (by decide))
    · obtain ⟨q1, q2, q3, q4⟩ := q
      rcases q3 with e | e
      · rw [e] at hv; exact hv (by decide)
      · exact n1 e
  · subst e1
    refine wi (fun hv => ⟨fun _ => ⟨fun e => absurd e (by decide), fun _ => wi (fun hr => ⟨by decide, hy ⟨hk, hv, Or.inr rfl, Or.inl ⟨Or.inr rfl, hr⟩⟩⟩) (fun hr => ⟨by decide, hn (fun q => (by obtain ⟨b1, b2, b3, b4⟩ := q; rcases b4 with ⟨b5 | b5, b6⟩ | ⟨b5 | b5 | b5, b6⟩ | ⟨b5, b6⟩ <;> first | contradiction | exact hr b6 | (subst b5; contradiction) | (rw [b5] at *; contradiction) | (simp_all; done)))⟩)⟩, fun e => absurd e (by decide)⟩) (fun hv => ⟨fun e => absurd rfl e, fun _ => hn (fun q => hv q.2.1)⟩)
  · obtain ⟨q1, q2, q3, q4⟩ := q
    rcases q4 with ⟨q5 | q5, -⟩ | ⟨q5 | q5 | q5, -⟩ | ⟨q5, -⟩ <;> (rw [q5] at ht; exact ht (by decide))
theorem okA_n {t k v n : Int32} (h : okA t k v (n - k - v)) (h0 : 0 ≤ n.toInt ∧ n.toInt ≤ 240) : ∃ m : Nat, m ≤ 232 ∧ n = nI m := by
  obtain ⟨⟨k1, k2⟩, ⟨v1, v2⟩, -, h4⟩ := h
  rw [Int32.lt_iff_toInt_lt] at k1 k2 v1 v2
  have k1 : ¬ k.toInt < 1 := k1
  have k2 : ¬ 32 < k.toInt := k2
  have v1 : ¬ v.toInt < 0 := v1
  have v2 : ¬ 100 < v.toInt := v2
  have e1 : (n - k).toInt = n.toInt - k.toInt := by
    rw [Int32.toInt_sub, Int.bmod_eq_of_le_mul_two (by omega) (by omega)]
  have e2 : (n - k - v).toInt = n.toInt - k.toInt - v.toInt := by
    rw [Int32.toInt_sub, e1, Int.bmod_eq_of_le_mul_two (by omega) (by omega)]
  have : n.toInt ≤ 232 := by
    rcases h4 with ⟨-, -, r⟩ | ⟨-, r⟩ | ⟨-, -, r⟩
    · rw [Int32.lt_iff_toInt_lt, e2] at r
      have r : ¬ (100 : Int) < n.toInt - k.toInt - v.toInt := r
      omega
    · rw [← Int32.toInt_inj, e2] at r
      have r : n.toInt - k.toInt - v.toInt = 0 := r
      omega
    · rw [Int32.lt_iff_toInt_lt, e2] at r
      have r : ¬ (32 : Int) < n.toInt - k.toInt - v.toInt := r
      omega
  obtain ⟨m, hm, e⟩ := iq_of (x := n) (n := 233) h0.1 (by omega) (by decide)
  exact ⟨m, by omega, e⟩
theorem okA_t {t k v r : Int32} (h : okA t k v r) : 0 ≤ t.toInt ∧ t.toInt ≤ 5 := by
  obtain ⟨-, -, -, h4⟩ := h
  rcases h4 with ⟨e | e, -⟩ | ⟨e | e | e, -⟩ | ⟨e, -⟩ <;> (rw [e]; decide)
theorem aR_ok {σ : Sg} {N : Nat} (h6 : sG σ 6 = nI N) (hNb : N ≤ 1023) (hC : sC σ ≤ 1900) (hNC : N ≤ sC σ) (hl : ∀ j, j < N → sK σ j = some j) (hB : ∀ i j, sK σ i = some j → j < N) : ∃ (C : Nat) (K : Nat → Option Nat), aR σ N = uC C (uK K (uG 6 (nI (N + 1)) σ)) ∧ N + 1 ≤ C ∧ C ≤ 1900 ∧ (∀ j, j < N + 1 → K j = some j) ∧ (∀ i j, K i = some j → j < N + 1) := by
  have e1 : sG σ 6 + 1 = nI (N + 1) := by rw [h6, nI_1]
  have e2 : (sG σ 6).toNatClampNeg = N := by rw [h6, clN (by omega)]
  unfold aR
  by_cases e : sG σ 6 = nI (sC σ)
  · have eN : N = sC σ := by rw [h6] at e; exact (nI_eq (by omega) (by omega)).mp e
    rw [if_pos e]
    refine ⟨grM (sC σ), va_up (va_cpy (sK σ) (fun _ => none) 0 0 (sC σ)) N (some N), ?_, ?_, ?_, fun j hj => ?_, fun i j hij => ?_⟩
    · unfold aQ gC
      rw [show sG (uC (grM (sC σ)) (uK (va_cpy (sK σ) (fun _ => none) 0 0 (sC σ)) σ)) 6 = sG σ 6 from rfl, e1, e2]
      rfl
    · unfold grM; split <;> (try split) <;> omega
    · unfold grM; split <;> (try split) <;> omega
    · unfold va_up va_cpy
      by_cases q : j = N
      · rw [if_pos q, q]
      · rw [if_neg q, if_pos (by omega), show 0 + (j - 0) = j by omega]
        exact hl j (by omega)
    · unfold va_up va_cpy at hij
      by_cases q : i = N
      · rw [if_pos q] at hij; cases hij; omega
      · rw [if_neg q] at hij
        by_cases q2 : 0 ≤ i ∧ i < 0 + sC σ
        · rw [if_pos q2] at hij
          have := hB _ _ hij; omega
        · rw [if_neg q2] at hij; cases hij
  · rw [if_neg e]
    have hne : N ≠ sC σ := fun q => e (by rw [h6, q])
    refine ⟨sC σ, va_up (sK σ) N (some N), ?_, by omega, hC, fun j hj => ?_, fun i j hij => ?_⟩
    · unfold aQ
      rw [e1, e2]
      rfl
    · unfold va_up
      by_cases q : j = N
      · rw [if_pos q, q]
      · rw [if_neg q]; exact hl j (by omega)
    · unfold va_up at hij
      by_cases q : i = N
      · rw [if_pos q] at hij; cases hij; omega
      · rw [if_neg q] at hij
        have := hB _ _ hij; omega
