theorem lgc (f : Nat → Int64) (x : Int64) : lg_cmp (vp_updL f (0 : Int32).toNatClampNeg x (0 : Int32).toNatClampNeg) x = 0 := by
  have : vp_updL f (0 : Int32).toNatClampNeg x (0 : Int32).toNatClampNeg = x := by simp [vp_updL]
  rw [this]
  simp [lg_cmp]
theorem wk_feed {B : Nat} {σ : Sg} {ρ : Sm} {f : Nat → Int64} (hB : B < 600000000) (h : Rl B σ ρ) (xs : Nat → Int32) (x4 : Int32) {nxt : Sg → (Nat → Int64) → Sm → Prop} (K : ∀ σ f ρ, Rl (B + 2000) σ ρ → nxt σ f ρ) : wpk_feed xs x4 nxt σ f ρ := by
  unfold wpk_feed wpW_feed
  rcases sim_feed h ((((xs (x4 + 1).toNatClampNeg).toInt64) <<< ((32 : Int32).toInt64 &&& 63)) ||| (((xs (x4 + 2).toNatClampNeg).toInt64) &&& 4294967295)) (xs (x4 + 3).toNatClampNeg) with ⟨r, σ', ρ', c1, c2, c3, c4, c5⟩ | ⟨E, k, b, σ', ρ', c1, c2, c3, c4, c5, c6, c7⟩
  · exact c1 _ _ (c2 _ ⟨fun _ => ⟨fun e => absurd rfl e, fun _ => ⟨fun _ => ⟨c5, K _ _ _ (c4.wide (by omega))⟩, fun e => absurd (lgc _ _) e⟩⟩, fun e => absurd c3 e⟩)
  · refine c1 _ _ ?_
    rcases c5 with ⟨rfl, rfl⟩ | ⟨rfl, rfl⟩
    · exact Or.inl ⟨rfl, (c2 _ ⟨fun _ => ⟨fun _ => ⟨fun e => by rw [← c7]; exact e, K _ _ _ (c6.wide (by omega))⟩, fun e => absurd e (by decide)⟩, fun e => absurd c3 e⟩)⟩
    · exact Or.inr ⟨rfl, (c2 _ ⟨fun _ => ⟨fun _ => ⟨fun e => by rw [← c7]; exact e, K _ _ _ (c6.wide (by omega))⟩, fun e => absurd e (by decide)⟩, fun e => absurd c3 e⟩)⟩
theorem wk_ask {B : Nat} {σ : Sg} {ρ : Sm} {f : Nat → Int64} (hB : B < 600000000) (h : Rl B σ ρ) (xs : Nat → Int32) (x4 : Int32) {nxt : Sg → (Nat → Int64) → Sm → Prop} (K : ∀ σ f ρ, Rl (B + 2000) σ ρ → nxt σ f ρ) : wpk_ask xs x4 nxt σ f ρ := by
  unfold wpk_ask wpW_ask
  rcases sim_ask (by omega) h (xs (x4 + 1).toNatClampNeg) (xs (x4 + 2).toNatClampNeg) (xs (x4 + 3).toNatClampNeg) (xs (x4 + 4).toNatClampNeg) with ⟨r, σ', ρ', c1, c2, c3, c4, c5⟩ | ⟨E, k, b, σ', ρ', c1, c2, c3, c4, c5, c6, c7⟩
  · exact c1 _ _ (⟨fun _ => c5, c2 _ ⟨fun _ => ⟨fun e => absurd rfl e, fun _ => ⟨fun _ => ⟨fun e => absurd e c5, K _ _ _ (c4.wide (by omega))⟩, fun e => absurd (lgc _ _) e⟩⟩, fun e => absurd c3 e⟩⟩)
  · refine c1 _ _ ?_
    rcases c5 with ⟨rfl, rfl⟩ | ⟨rfl, rfl⟩ | ⟨rfl, rfl⟩
    · exact Or.inl ⟨rfl, ⟨fun e => absurd e (by decide), (c2 _ ⟨fun _ => ⟨fun _ => ⟨fun e => by rw [← c7]; exact e, K _ _ _ (c6.wide (by omega))⟩, fun e => absurd e (by decide)⟩, fun e => absurd c3 e⟩)⟩⟩
    · exact Or.inr (Or.inl ⟨rfl, ⟨fun e => absurd e (by decide), (c2 _ ⟨fun _ => ⟨fun _ => ⟨fun e => by rw [← c7]; exact e, K _ _ _ (c6.wide (by omega))⟩, fun e => absurd e (by decide)⟩, fun e => absurd c3 e⟩)⟩⟩)
    · exact Or.inr (Or.inr ⟨rfl, ⟨fun e => absurd e (by decide), (c2 _ ⟨fun _ => ⟨fun _ => ⟨fun e => by rw [← c7]; exact e, K _ _ _ (c6.wide (by omega))⟩, fun e => absurd e (by decide)⟩, fun e => absurd c3 e⟩)⟩⟩)
theorem wk_giveUp {B : Nat} {σ : Sg} {ρ : Sm} {f : Nat → Int64} (hB : B < 600000000) (h : Rl B σ ρ) (xs : Nat → Int32) (x4 : Int32) {nxt : Sg → (Nat → Int64) → Sm → Prop} (K : ∀ σ f ρ, Rl (B + 2000) σ ρ → nxt σ f ρ) : wpk_giveUp xs x4 nxt σ f ρ := by
  unfold wpk_giveUp wpW_giveUp
  rcases sim_giveUp h (xs (x4 + 1).toNatClampNeg) with ⟨r, σ', ρ', c1, c2, c3, c4, c5⟩ | ⟨E, k, b, σ', ρ', c1, c2, c3, c4, c5, c6, c7⟩
  · exact c1 _ _ ⟨fun q => c2 _ ⟨fun _ => ⟨fun e => absurd rfl e, fun _ => ⟨fun _ => ⟨fun _ => ⟨c5, K _ _ _ (c4.wide (by omega))⟩, fun e => absurd (lgc _ _) e⟩, fun e => absurd q e⟩⟩, fun e => absurd c3 e⟩, fun q => c2 _ ⟨fun _ => ⟨fun e => absurd rfl e, fun _ => ⟨fun e => absurd e q, fun _ => ⟨fun _ => ⟨c5, K _ _ _ (c4.wide (by omega))⟩, fun e => absurd (lgc _ _) e⟩⟩⟩, fun e => absurd c3 e⟩⟩
  · refine c1 _ _ ?_
    obtain ⟨rfl, rfl⟩ := c5
    exact ⟨rfl, (c2 _ ⟨fun _ => ⟨fun _ => ⟨fun e => by rw [← c7]; exact e, K _ _ _ (c6.wide (by omega))⟩, fun e => absurd e (by decide)⟩, fun e => absurd c3 e⟩)⟩
theorem wk_reply {B : Nat} {σ : Sg} {ρ : Sm} {f : Nat → Int64} (hB : B < 600000000) (h : Rl B σ ρ) (xs : Nat → Int32) (x4 : Int32) {nxt : Sg → (Nat → Int64) → Sm → Prop} (K : ∀ σ f ρ, Rl (B + 2000) σ ρ → nxt σ f ρ) : wpk_reply xs x4 nxt σ f ρ := by
  unfold wpk_reply wpW_reply
  rcases sim_reply (by omega) h (xs (x4 + 1).toNatClampNeg) (xs (x4 + 2).toNatClampNeg) (xs (x4 + 3).toNatClampNeg) (xs (x4 + 4).toNatClampNeg) with ⟨r, σ', ρ', c1, c2, c3, c4, c5⟩ | ⟨E, k, b, σ', ρ', c1, c2, c3, c4, c5, c6, c7⟩
  · exact c1 _ _ ⟨fun q => c2 _ ⟨fun _ => ⟨fun e => absurd rfl e, fun _ => ⟨fun _ => ⟨fun _ => ⟨c5, K _ _ _ (c4.wide (by omega))⟩, fun e => absurd (lgc _ _) e⟩, fun e => absurd q e⟩⟩, fun e => absurd c3 e⟩, fun q => c2 _ ⟨fun _ => ⟨fun e => absurd rfl e, fun _ => ⟨fun e => absurd e q, fun _ => ⟨fun _ => ⟨c5, K _ _ _ (c4.wide (by omega))⟩, fun e => absurd (lgc _ _) e⟩⟩⟩, fun e => absurd c3 e⟩⟩
  · refine c1 _ _ ?_
    rcases c5 with ⟨rfl, rfl⟩ | ⟨rfl, rfl⟩
    · exact Or.inl ⟨rfl, (c2 _ ⟨fun _ => ⟨fun _ => ⟨fun e => by rw [← c7]; exact e, K _ _ _ (c6.wide (by omega))⟩, fun e => absurd e (by decide)⟩, fun e => absurd c3 e⟩)⟩
    · exact Or.inr ⟨rfl, (c2 _ ⟨fun _ => ⟨fun _ => ⟨fun e => by rw [← c7]; exact e, K _ _ _ (c6.wide (by omega))⟩, fun e => absurd e (by decide)⟩, fun e => absurd c3 e⟩)⟩
theorem wk_tick {B : Nat} {σ : Sg} {ρ : Sm} {f : Nat → Int64} (hB : B < 600000000) (h : Rl B σ ρ) (xs : Nat → Int32) (x4 : Int32) {nxt : Sg → (Nat → Int64) → Sm → Prop} (K : ∀ σ f ρ, Rl (B + 2000) σ ρ → nxt σ f ρ) : wpk_tick xs x4 nxt σ f ρ := by
  unfold wpk_tick wpW_tick
  rcases sim_tick (by omega) h (xs (x4 + 1).toNatClampNeg) with ⟨r, σ', ρ', c1, c2, c3, c4, c5⟩ | ⟨E, k, b, σ', ρ', c1, c2, c3, c4, c5, c6, c7⟩
  · exact c1 _ _ (c2 _ ⟨fun _ => ⟨fun e => absurd rfl e, fun _ => ⟨fun _ => ⟨c5, K _ _ _ (c4.wide (by omega))⟩, fun e => absurd (lgc _ _) e⟩⟩, fun e => absurd c3 e⟩)
  · refine c1 _ _ ?_
    obtain ⟨rfl, rfl⟩ := c5
    exact ⟨rfl, (c2 _ ⟨fun _ => ⟨fun _ => ⟨fun e => by rw [← c7]; exact e, K _ _ _ (c6.wide (by omega))⟩, fun e => absurd e (by decide)⟩, fun e => absurd c3 e⟩)⟩
theorem wk_client {B : Nat} {σ : Sg} {ρ : Sm} {f : Nat → Int64} (hB : B < 600000000) (h : Rl B σ ρ) (xs : Nat → Int32) (x4 : Int32) {nxt : Sg → (Nat → Int64) → Sm → Prop} (K : ∀ σ f ρ, Rl (B + 2000) σ ρ → nxt σ f ρ) : wpk_client xs x4 nxt σ f ρ := by
  unfold wpk_client wpW_client
  rcases sim_client (by omega) h (xs (x4 + 1).toNatClampNeg) (xs (x4 + 2).toNatClampNeg) with ⟨r, σ', ρ', c1, c2, c3, c4, c5⟩ | ⟨E, k, b, σ', ρ', c1, c2, c3, c4, c5, c6, c7⟩
  · exact c1 _ _ (c2 _ ⟨fun _ => ⟨fun e => absurd rfl e, fun _ => ⟨fun _ => ⟨c5, K _ _ _ (c4.wide (by omega))⟩, fun e => absurd (lgc _ _) e⟩⟩, fun e => absurd c3 e⟩)
  · refine c1 _ _ ?_
    obtain ⟨rfl, rfl⟩ := c5
    exact ⟨rfl, (c2 _ ⟨fun _ => ⟨fun _ => ⟨fun e => by rw [← c7]; exact e, K _ _ _ (c6.wide (by omega))⟩, fun e => absurd e (by decide)⟩, fun e => absurd c3 e⟩)⟩
theorem wk_dataAt {B : Nat} {σ : Sg} {ρ : Sm} {f : Nat → Int64} (hB : B < 600000000) (h : Rl B σ ρ) (xs : Nat → Int32) (x4 : Int32) {nxt : Sg → (Nat → Int64) → Sm → Prop} (K : ∀ σ f ρ, Rl (B + 2000) σ ρ → nxt σ f ρ) : wpk_dataAt xs x4 nxt σ f ρ := by
  unfold wpk_dataAt wpW_dataAt
  rcases sim_dataAt h (xs (x4 + 1).toNatClampNeg) (xs (x4 + 2).toNatClampNeg) with ⟨r, σ', ρ', c1, c2, c3, c4, c5⟩ | ⟨E, k, b, σ', ρ', c1, c2, c3, c4, c5, c6, c7⟩
  · exact c1 _ _ (c2 _ ⟨fun _ => ⟨fun e => absurd rfl e, fun _ => ⟨fun _ => ⟨c5, K _ _ _ (c4.wide (by omega))⟩, fun e => absurd (lgc _ _) e⟩⟩, fun e => absurd c3 e⟩)
  · refine c1 _ _ ?_
    obtain ⟨rfl, rfl⟩ := c5
    exact ⟨rfl, (c2 _ ⟨fun _ => ⟨fun _ => ⟨fun e => by rw [← c7]; exact e, K _ _ _ (c6.wide (by omega))⟩, fun e => absurd e (by decide)⟩, fun e => absurd c3 e⟩)⟩
theorem wk_answer {B : Nat} {σ : Sg} {ρ : Sm} {f : Nat → Int64} (hB : B < 600000000) (h : Rl B σ ρ) (xs : Nat → Int32) (x4 : Int32) {nxt : Sg → (Nat → Int64) → Sm → Prop} (K : ∀ σ f ρ, Rl (B + 2000) σ ρ → nxt σ f ρ) : wpk_answer xs x4 nxt σ f ρ := by
  unfold wpk_answer wpW_answer
  rcases sim_answer h (xs (x4 + 1).toNatClampNeg) with ⟨r, σ', ρ', c1, c2, c3, c4, c5⟩ | ⟨E, k, b, σ', ρ', c1, c2, c3, c4, c5, c6, c7⟩
  · exact c1 _ _ (c2 _ ⟨fun _ => ⟨fun e => absurd rfl e, fun _ => ⟨fun _ => ⟨c5, K _ _ _ (c4.wide (by omega))⟩, fun e => absurd (lgc _ _) e⟩⟩, fun e => absurd c3 e⟩)
  · refine c1 _ _ ?_
    obtain ⟨rfl, rfl⟩ := c5
    exact ⟨rfl, (c2 _ ⟨fun _ => ⟨fun _ => ⟨fun e => by rw [← c7]; exact e, K _ _ _ (c6.wide (by omega))⟩, fun e => absurd e (by decide)⟩, fun e => absurd c3 e⟩)⟩
theorem wk_answerAt {B : Nat} {σ : Sg} {ρ : Sm} {f : Nat → Int64} (hB : B < 600000000) (h : Rl B σ ρ) (xs : Nat → Int32) (x4 : Int32) {nxt : Sg → (Nat → Int64) → Sm → Prop} (K : ∀ σ f ρ, Rl (B + 2000) σ ρ → nxt σ f ρ) : wpk_answerAt xs x4 nxt σ f ρ := by
  unfold wpk_answerAt wpW_answerAt
  rcases sim_answerAt h (xs (x4 + 1).toNatClampNeg) (xs (x4 + 2).toNatClampNeg) with ⟨r, σ', ρ', c1, c2, c3, c4, c5⟩ | ⟨E, k, b, σ', ρ', c1, c2, c3, c4, c5, c6, c7⟩
  · exact c1 _ _ (c2 _ ⟨fun _ => ⟨fun e => absurd rfl e, fun _ => ⟨fun _ => ⟨c5, K _ _ _ (c4.wide (by omega))⟩, fun e => absurd (lgc _ _) e⟩⟩, fun e => absurd c3 e⟩)
  · refine c1 _ _ ?_
    obtain ⟨rfl, rfl⟩ := c5
    exact ⟨rfl, (c2 _ ⟨fun _ => ⟨fun _ => ⟨fun e => by rw [← c7]; exact e, K _ _ _ (c6.wide (by omega))⟩, fun e => absurd e (by decide)⟩, fun e => absurd c3 e⟩)⟩
theorem wk_history {B : Nat} {σ : Sg} {ρ : Sm} {f : Nat → Int64} (hB : B < 600000000) (h : Rl B σ ρ) (xs : Nat → Int32) (x4 : Int32) {nxt : Sg → (Nat → Int64) → Sm → Prop} (K : ∀ σ f ρ, Rl (B + 2000) σ ρ → nxt σ f ρ) : wpk_history xs x4 nxt σ f ρ := by
  unfold wpk_history wpW_history
  rcases sim_history h (xs (x4 + 1).toNatClampNeg) (xs (x4 + 2).toNatClampNeg) with ⟨r, σ', ρ', c1, c2, c3, c4, c5⟩ | ⟨E, k, b, σ', ρ', c1, c2, c3, c4, c5, c6, c7⟩
  · exact c1 _ _ (c2 _ ⟨fun _ => ⟨fun e => absurd rfl e, fun _ => ⟨fun _ => ⟨c5, K _ _ _ (c4.wide (by omega))⟩, fun e => absurd (lgc _ _) e⟩⟩, fun e => absurd c3 e⟩)
  · refine c1 _ _ ?_
    obtain ⟨rfl, rfl⟩ := c5
    exact ⟨rfl, (c2 _ ⟨fun _ => ⟨fun _ => ⟨fun e => by rw [← c7]; exact e, K _ _ _ (c6.wide (by omega))⟩, fun e => absurd e (by decide)⟩, fun e => absurd c3 e⟩)⟩
theorem wk_request {B : Nat} {σ : Sg} {ρ : Sm} {f : Nat → Int64} (hB : B < 600000000) (h : Rl B σ ρ) (xs : Nat → Int32) (x4 : Int32) {nxt : Sg → (Nat → Int64) → Sm → Prop} (K : ∀ σ f ρ, Rl (B + 2000) σ ρ → nxt σ f ρ) : wpk_request xs x4 nxt σ f ρ := by
  unfold wpk_request
  obtain ⟨r, σ', ρ', c1, c2, c3, c4⟩ := sim_request (by omega) h (xs (x4 + 1).toNatClampNeg) (xs (x4 + 2).toNatClampNeg)
  exact c1 _ (c2 _ ⟨fun _ => ⟨fun e => by rw [← c4]; exact e, K _ _ _ (c3.wide (by omega))⟩, fun e => absurd rfl e⟩)
theorem wk_count {B : Nat} {σ : Sg} {ρ : Sm} {f : Nat → Int64} (hB : B < 600000000) (h : Rl B σ ρ) (xs : Nat → Int32) (x4 : Int32) {nxt : Sg → (Nat → Int64) → Sm → Prop} (K : ∀ σ f ρ, Rl (B + 2000) σ ρ → nxt σ f ρ) : wpk_count xs x4 nxt σ f ρ := by
  unfold wpk_count
  obtain ⟨r, σ', ρ', c1, c2, c3, c4⟩ := sim_count h (xs (x4 + 1).toNatClampNeg)
  exact c1 _ (c2 _ ⟨fun _ => ⟨fun e => by rw [← c4]; exact e, K _ _ _ (c3.wide (by omega))⟩, fun e => absurd rfl e⟩)
