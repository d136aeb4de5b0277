theorem sim_giveUp {B : Nat} {σ : Sg} {ρ : Sm} (h : Rl B σ ρ) (a : Int32) : SimI B σ (fun post px => wp_giveUp post px σ a) (fun post => wp_m_giveUp post ρ a) (fun E k => E = "java/lang/IndexOutOfBoundsException" ∧ k = 1) := by
  rcases ix8 a with ha | ⟨c, hc, rfl⟩
  · exact Or.inr ⟨_, 1, 0, σ, vG 0 1 (vG 0 0 ρ), fun post px hp => po_n ha hp, fun post hp => ic_n ha ⟨fun e => absurd rfl e, fun _ => ⟨fun _ => hp, fun e => absurd (by decide) e⟩⟩, rfl, by decide, ⟨rfl, rfl⟩, (h.th 0).th 1, rfl⟩
  · have h0 := h.th 0
    rcases h0.2 c hc with hi | ⟨j, hT, hA⟩
    · refine Or.inl ⟨0, σ, vG 0 0 ρ, fun post px hp => po_y hc ⟨c, rfl, hc, wt_no hi.1 (wt_no hi.1 ⟨fun e => absurd rfl e, fun _ => ⟨by decide, hp⟩⟩)⟩, fun post hp => ic_y hc ⟨fun _ => ⟨in8 hc, ?_⟩, fun e => absurd e (by decide)⟩, rfl, h0, id⟩
      rw [cl8 hc, hi.2.1]
      exact ⟨fun _ => ⟨by decide, hp⟩, fun e => absurd rfl e⟩
    · obtain ⟨σ', ρ', s1, s2, s3, s4, s5, s6, s7⟩ := sim_abandon hc (h0.rt c) hT
      refine Or.inl ⟨1, σ', ρ', fun post px hp => po_y hc ⟨c, rfl, hc, wt_yes hT.1 hT.2.1 (s1 _ ⟨by decide, hp⟩)⟩, fun post hp => ic_y hc ⟨fun _ => ⟨in8 hc, ?_⟩, fun e => absurd e (by decide)⟩, ?_, s3, fun e => by rw [← s4]; exact e⟩
      · rw [cl8 hc, hT.2.2.1]
        exact ⟨fun e => absurd e (by decide), fun _ => s2 _ ⟨by decide, hp⟩⟩
      · exact s7.2.1
def okR (c v s : Int32) : Prop := (c = 0 ∧ ¬ v < 1 ∧ ¬ 1000000 < v ∧ ¬ 134 < s) ∨ (c = 1 ∧ s = 0 ∧ ¬ v < -1 ∧ ¬ 6 < v) ∨ ((c = 2 ∨ c = 3) ∧ v = 0 ∧ s = 0)
theorem v7 {v : Int32} : (v = -1 ∨ (¬ v < 0 ∧ ¬ 7 ≤ v)) ↔ (¬ v < -1 ∧ ¬ 6 < v) := by
  rw [← Int32.toInt_inj, Int32.lt_iff_toInt_lt, Int32.le_iff_toInt_le, Int32.lt_iff_toInt_lt, Int32.lt_iff_toInt_lt]
  show (v.toInt = -1 ∨ (¬ v.toInt < 0 ∧ ¬ 7 ≤ v.toInt)) ↔ (¬ v.toInt < -1 ∧ ¬ 6 < v.toInt)
  omega
theorem cbr {post : Int32 → Sg → Prop} {σ : Sg} {c v s : Int32} (hy : okR c v s → post 1 σ) (hn : ¬ okR c v s → post 0 σ) : wp_canBeReplied post σ c v s := by
  have hv := v7 (v := v)
  refine ⟨fun e0 => ⟨fun q => hn (fun h => ?_), fun h1 => ⟨fun q => hn (fun h => ?_), fun h2 => ⟨fun q => hn (fun h => ?_), fun h3 => hy (Or.inl ⟨e0, h1, h2, h3⟩)⟩⟩⟩, fun n0 => ⟨fun e1 => ⟨fun ev => ⟨fun q => hn (fun h => ?_), fun es => hy (Or.inr (Or.inl ⟨e1, es, hv.mp (Or.inl ev)⟩))⟩, fun nv => ⟨fun q => hn (fun h => ?_), fun v0 => ⟨fun q => hn (fun h => ?_), fun v7 => ⟨fun q => hn (fun h => ?_), fun es => hy (Or.inr (Or.inl ⟨e1, es, hv.mp (Or.inr ⟨v0, v7⟩)⟩))⟩⟩⟩⟩, fun n1 => ⟨fun e2 => ⟨fun q => hn (fun h => ?_), fun ev => ⟨fun q => hn (fun h => ?_), fun es => hy (Or.inr (Or.inr ⟨Or.inl e2, ev, es⟩))⟩⟩, fun n2 => ⟨fun e3 => ⟨fun q => hn (fun h => ?_), fun ev => ⟨fun q => hn (fun h => ?_), fun es => hy (Or.inr (Or.inr ⟨Or.inr e3, ev, es⟩))⟩⟩, fun n3 => hn (fun h => ?_)⟩⟩⟩⟩
  all_goals (rcases h with ⟨a1, a2, a3, a4⟩ | ⟨a1, a2, a3⟩ | ⟨a1 | a1, a2, a3⟩ <;> first | contradiction | (subst a1; contradiction) | (subst a1; exact absurd ‹_ = _› (by decide)) | (rcases hv.mpr a3 with u | u <;> first | contradiction | exact absurd ‹_› u.1 | exact absurd ‹_› u.2))
theorem mrep_bad {post : Int32 → Sm → Prop} {ρ : Sm} {c : Nat} {a1 a2 a3 : Int32} (hc : c < 8) (h : ¬ okR a2 a3 (mG ρ 6)) (hp : post 0 (vG 0 2 (vG 6 0 (vG 0 0 ρ)))) : wp_m_reply post ρ (nI c) a1 a2 a3 := by
  have FB : ∀ q : Prop, ((0 : Int32) ≤ 0 → post 0 (vG 0 2 (vG 6 0 (vG 0 0 ρ)))) ∧ (¬ (0 : Int32) ≤ 0 → q) := fun q => ⟨fun _ => hp, fun e => absurd (by decide) e⟩
  refine ic_y hc ⟨fun _ => ⟨fun n0 => ⟨fun _ => FB _, fun es => ⟨fun n1 => ?_, fun e1 => ?_⟩⟩, fun e0 => ?_⟩, fun e => absurd e (by decide)⟩
  · by_cases w : a2 < 2 ∨ 3 < a2
    · exact wi_n w ⟨fun _ => FB _, fun e => absurd rfl e⟩
    · refine wi_y (fun e => w (Or.inl e)) (fun e => w (Or.inr e)) ⟨fun e => absurd e (by decide), fun _ => ⟨fun _ => FB _, fun ev => ?_⟩⟩
      refine absurd (Or.inr (Or.inr ⟨?_, ev, es⟩)) h
      rw [Int32.lt_iff_toInt_lt, Int32.lt_iff_toInt_lt] at w
      have w : ¬ (a2.toInt < 2 ∨ 3 < a2.toInt) := w
      rw [← Int32.toInt_inj, ← Int32.toInt_inj]
      show a2.toInt = 2 ∨ a2.toInt = 3
      omega
  · by_cases w : a3 < -1 ∨ 6 < a3
    · exact wi_n w ⟨fun _ => FB _, fun e => absurd rfl e⟩
    · exact absurd (Or.inr (Or.inl ⟨e1, es, fun e => w (Or.inl e), fun e => w (Or.inr e)⟩)) h
  · by_cases w : a3 < 1 ∨ 1000000 < a3
    · exact wi_n w ⟨fun _ => FB _, fun e => absurd rfl e⟩
    · refine wi_y (fun e => w (Or.inl e)) (fun e => w (Or.inr e)) ⟨fun e => absurd e (by decide), fun _ => ⟨fun _ => FB _, fun n => ?_⟩⟩
      exact absurd (Or.inl ⟨e0, fun e => w (Or.inl e), fun e => w (Or.inr e), n⟩) h
