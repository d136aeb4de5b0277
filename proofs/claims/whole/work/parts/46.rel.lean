/-! THE RELATION between the class's state and the reference's -/
theorem iq_add {x y : Int32} (h1 : -2147483648 ≤ x.toInt + y.toInt) (h2 : x.toInt + y.toInt < 2147483648) : (x + y).toInt = x.toInt + y.toInt := by
  rw [Int32.toInt_add, Int.bmod_eq_of_le_mul_two (by omega) (by omega)]
theorem iq_nI {n : Nat} (h : n < 2147483648) : (nI n).toInt = (n : Int) := nI_toInt h
theorem iq_of {x : Int32} {n : Nat} (h0 : 0 ≤ x.toInt) (h : x.toInt < n) (hn : n ≤ 2147483648) : ∃ j : Nat, j < n ∧ x = nI j := by
  refine ⟨x.toInt.toNat, by omega, ?_⟩
  rw [← Int32.toInt_inj, iq_nI (by omega)]; omega
-- reading behind writing
section RW
variable (σ : Sg) (ρ : Sm) (k i a b : Nat) (v : Int32) (w : Nat → Int32) (o : Option Nat)
theorem q_GG : sG (uG k v σ) a = if a = k then v else sG σ a := rfl
theorem q_FF : sF (uF k i v σ) a b = if a = k then (if b = i then v else sF σ a b) else sF σ a b := rfl
theorem q_RR : sR (uR i o σ) b = if b = i then o else sR σ b := rfl
theorem q_BB : sB (uB k i w σ) a b = if a = k then (if b = i then w else sB σ a b) else sB σ a b := rfl
theorem q_AA : sA (uA k w σ) a = if a = k then w else sA σ a := rfl
theorem q_HH : sH (uH k i v σ) a b = if a = k then (if b = i then v else sH σ a b) else sH σ a b := rfl
theorem q_GF : sG (uF k i v σ) a = sG σ a := rfl
theorem q_GR : sG (uR i o σ) a = sG σ a := rfl
theorem q_GB : sG (uB k i w σ) a = sG σ a := rfl
theorem q_GA : sG (uA k w σ) a = sG σ a := rfl
theorem q_GH : sG (uH k i v σ) a = sG σ a := rfl
theorem q_FG : sF (uG k v σ) a b = sF σ a b := rfl
theorem q_FR : sF (uR i o σ) a b = sF σ a b := rfl
theorem q_FB : sF (uB k i w σ) a b = sF σ a b := rfl
theorem q_FA : sF (uA k w σ) a b = sF σ a b := rfl
theorem q_FH : sF (uH k i v σ) a b = sF σ a b := rfl
theorem q_RG : sR (uG k v σ) a = sR σ a := rfl
theorem q_RF : sR (uF k i v σ) a = sR σ a := rfl
theorem q_RB : sR (uB k i w σ) a = sR σ a := rfl
theorem q_RA : sR (uA k w σ) a = sR σ a := rfl
theorem q_RH : sR (uH k i v σ) a = sR σ a := rfl
theorem q_BG : sB (uG k v σ) a b = sB σ a b := rfl
theorem q_BF : sB (uF k i v σ) a b = sB σ a b := rfl
theorem q_BR : sB (uR i o σ) a b = sB σ a b := rfl
theorem q_BA : sB (uA k w σ) a b = sB σ a b := rfl
theorem q_BH : sB (uH k i v σ) a b = sB σ a b := rfl
theorem q_AG : sA (uG k v σ) a = sA σ a := rfl
theorem q_AF : sA (uF k i v σ) a = sA σ a := rfl
theorem q_AR : sA (uR i o σ) a = sA σ a := rfl
theorem q_AB : sA (uB k i w σ) a = sA σ a := rfl
theorem q_AH : sA (uH k i v σ) a = sA σ a := rfl
theorem q_HG : sH (uG k v σ) a b = sH σ a b := rfl
theorem q_HF : sH (uF k i v σ) a b = sH σ a b := rfl
theorem q_HR : sH (uR i o σ) a b = sH σ a b := rfl
theorem q_HB : sH (uB k i w σ) a b = sH σ a b := rfl
theorem q_HA : sH (uA k w σ) a b = sH σ a b := rfl
theorem q_NG : sN (uG k v σ) = sN σ := rfl
theorem q_NF : sN (uF k i v σ) = sN σ := rfl
theorem q_NR : sN (uR i o σ) = sN σ := rfl
theorem q_NB : sN (uB k i w σ) = sN σ := rfl
theorem q_NA : sN (uA k w σ) = sN σ := rfl
theorem q_NH : sN (uH k i v σ) = sN σ := rfl
theorem q_CG : sC (uG k v σ) = sC σ := rfl
theorem q_CF : sC (uF k i v σ) = sC σ := rfl
theorem q_CR : sC (uR i o σ) = sC σ := rfl
theorem q_CB : sC (uB k i w σ) = sC σ := rfl
theorem q_CA : sC (uA k w σ) = sC σ := rfl
theorem q_CH : sC (uH k i v σ) = sC σ := rfl
theorem q_KG : sK (uG k v σ) = sK σ := rfl
theorem q_KF : sK (uF k i v σ) = sK σ := rfl
theorem q_KR : sK (uR i o σ) = sK σ := rfl
theorem q_KB : sK (uB k i w σ) = sK σ := rfl
theorem q_KA : sK (uA k w σ) = sK σ := rfl
theorem q_KH : sK (uH k i v σ) = sK σ := rfl
theorem q_mGG : mG (vG k v ρ) a = if a = k then v else mG ρ a := rfl
theorem q_mGA : mG (vA k w ρ) a = mG ρ a := rfl
theorem q_mAA : mA (vA k w ρ) a = if a = k then w else mA ρ a := rfl
theorem q_mAAi : mA (vA k w ρ) a b = if a = k then w b else mA ρ a b := by rw [q_mAA]; split <;> rfl
theorem vA_vA (w' : Nat → Int32) : vA k w (vA k w' ρ) = vA k w ρ := by
  unfold vA; congr 1; funext j; simp only [va_up]; split <;> rfl
theorem uA_uA (w' : Nat → Int32) : uA k w (uA k w' σ) = uA k w σ := by
  unfold uA; congr 5; funext j; simp only [va_up]; split <;> rfl
theorem q_mAG : mA (vG k v ρ) a = mA ρ a := rfl
theorem q_upd (f : Nat → Int32) : upd f k v a = if a = k then v else f a := rfl
end RW
/-- a client but for what it waits for -/
def Rc (σ : Sg) (ρ : Sm) (i : Nat)  : Prop := (sF σ 0 i = nI i) ∧ (sF σ 7 i = mA ρ 2 i) ∧ (0 ≤ (sF σ 7 i).toInt ∧ (sF σ 7 i).toInt < 7) ∧ (sF σ 8 i = mA ρ 3 i) ∧ (sF σ 8 i = -1 ∨ 0 ≤ (sF σ 8 i).toInt) ∧ (sF σ 9 i = mA ρ 4 i) ∧ (sF σ 10 i = mA ρ 5 i) ∧ (sF σ 11 i = mA ρ 6 i) ∧ (sF σ 12 i = mA ρ 7 i) ∧ (sF σ 12 i = 0 ∨ sF σ 12 i = 1) ∧ (sF σ 6 i = mA ρ 8 i) ∧ (0 ≤ (sF σ 6 i).toInt ∧ (sF σ 6 i).toInt ≤ 5) ∧ (sF σ 3 i = mA ρ 13 i) ∧ (0 ≤ (sF σ 3 i).toInt ∧ (sF σ 3 i).toInt ≤ 232) ∧ (∀ q, q < 232 → sB σ 0 i q &&& 255 = mA ρ 14 (240 * i + q)) ∧ (sF σ 4 i = mA ρ 15 i) ∧ (0 ≤ (sF σ 4 i).toInt ∧ (sF σ 4 i).toInt ≤ 134) ∧ (∀ q, q < 134 → sB σ 1 i q &&& 255 = mA ρ 16 (134 * i + q))
theorem Rc.idx {σ : Sg} {ρ : Sm} {i : Nat} (h : Rc σ ρ i) : sF σ 0 i = nI i := h.1
theorem Rc.tgt {σ : Sg} {ρ : Sm} {i : Nat} (h : Rc σ ρ i) : sF σ 7 i = mA ρ 2 i := h.2.1
theorem Rc.tgtB {σ : Sg} {ρ : Sm} {i : Nat} (h : Rc σ ρ i) : 0 ≤ (sF σ 7 i).toInt ∧ (sF σ 7 i).toInt < 7 := h.2.2.1
theorem Rc.ses {σ : Sg} {ρ : Sm} {i : Nat} (h : Rc σ ρ i) : sF σ 8 i = mA ρ 3 i := h.2.2.2.1
theorem Rc.sesB {σ : Sg} {ρ : Sm} {i : Nat} (h : Rc σ ρ i) : sF σ 8 i = -1 ∨ 0 ≤ (sF σ 8 i).toInt := h.2.2.2.2.1
theorem Rc.ser {σ : Sg} {ρ : Sm} {i : Nat} (h : Rc σ ρ i) : sF σ 9 i = mA ρ 4 i := h.2.2.2.2.2.1
theorem Rc.num {σ : Sg} {ρ : Sm} {i : Nat} (h : Rc σ ρ i) : sF σ 10 i = mA ρ 5 i := h.2.2.2.2.2.2.1
theorem Rc.tri {σ : Sg} {ρ : Sm} {i : Nat} (h : Rc σ ρ i) : sF σ 11 i = mA ρ 6 i := h.2.2.2.2.2.2.2.1
theorem Rc.opn {σ : Sg} {ρ : Sm} {i : Nat} (h : Rc σ ρ i) : sF σ 12 i = mA ρ 7 i := h.2.2.2.2.2.2.2.2.1
theorem Rc.opnB {σ : Sg} {ρ : Sm} {i : Nat} (h : Rc σ ρ i) : sF σ 12 i = 0 ∨ sF σ 12 i = 1 := h.2.2.2.2.2.2.2.2.2.1
theorem Rc.knd {σ : Sg} {ρ : Sm} {i : Nat} (h : Rc σ ρ i) : sF σ 6 i = mA ρ 8 i := h.2.2.2.2.2.2.2.2.2.2.1
theorem Rc.kndB {σ : Sg} {ρ : Sm} {i : Nat} (h : Rc σ ρ i) : 0 ≤ (sF σ 6 i).toInt ∧ (sF σ 6 i).toInt ≤ 5 := h.2.2.2.2.2.2.2.2.2.2.2.1
theorem Rc.dsz {σ : Sg} {ρ : Sm} {i : Nat} (h : Rc σ ρ i) : sF σ 3 i = mA ρ 13 i := h.2.2.2.2.2.2.2.2.2.2.2.2.1
theorem Rc.dszB {σ : Sg} {ρ : Sm} {i : Nat} (h : Rc σ ρ i) : 0 ≤ (sF σ 3 i).toInt ∧ (sF σ 3 i).toInt ≤ 232 := h.2.2.2.2.2.2.2.2.2.2.2.2.2.1
theorem Rc.dat {σ : Sg} {ρ : Sm} {i : Nat} (h : Rc σ ρ i) : ∀ q, q < 232 → sB σ 0 i q &&& 255 = mA ρ 14 (240 * i + q) := h.2.2.2.2.2.2.2.2.2.2.2.2.2.2.1
theorem Rc.asz {σ : Sg} {ρ : Sm} {i : Nat} (h : Rc σ ρ i) : sF σ 4 i = mA ρ 15 i := h.2.2.2.2.2.2.2.2.2.2.2.2.2.2.2.1
theorem Rc.aszB {σ : Sg} {ρ : Sm} {i : Nat} (h : Rc σ ρ i) : 0 ≤ (sF σ 4 i).toInt ∧ (sF σ 4 i).toInt ≤ 134 := h.2.2.2.2.2.2.2.2.2.2.2.2.2.2.2.2.1
theorem Rc.ans {σ : Sg} {ρ : Sm} {i : Nat} (h : Rc σ ρ i) : ∀ q, q < 134 → sB σ 1 i q &&& 255 = mA ρ 16 (134 * i + q) := h.2.2.2.2.2.2.2.2.2.2.2.2.2.2.2.2.2
/-- all but what the clients wait for -/
def Rr (B : Nat) (σ : Sg) (ρ : Sm)  : Prop := (sG σ 0 = mG ρ 6) ∧ (0 ≤ (sG σ 0).toInt ∧ (sG σ 0).toInt ≤ 240) ∧ (sG σ 1 = mG ρ 1) ∧ (0 ≤ (sG σ 1).toInt ∧ (sG σ 1).toInt ≤ B) ∧ (sG σ 2 = mG ρ 2) ∧ (sG σ 3 = mG ρ 3) ∧ (0 ≤ (sG σ 3).toInt ∧ (sG σ 3).toInt ≤ B) ∧ (sG σ 4 = mG ρ 4) ∧ (0 ≤ (sG σ 4).toInt ∧ (sG σ 4).toInt ≤ B) ∧ (sG σ 6 = mG ρ 5) ∧ (sG σ 6 = nI (sN σ)) ∧ (sN σ ≤ 1024) ∧ (sC σ ≤ 1900) ∧ (sN σ ≤ sC σ) ∧ (∀ q, q < 240 → sA σ 0 q &&& 255 = mA ρ 0 q) ∧ (∀ q, q < 512 → sA σ 1 q = mA ρ 17 q) ∧ (∀ j, j < sN σ → sK σ j = some j) ∧ (∀ i j, sK σ i = some j → j < sN σ) ∧ (∀ j, j < sN σ → ∀ k, k < 6 → sH σ k j = mA ρ 18 (6 * j + k)) ∧ (∀ i, i < 8 → Rc σ ρ i)
theorem Rr.tape {B : Nat} {σ : Sg} {ρ : Sm} (h : Rr B σ ρ) : sG σ 0 = mG ρ 6 := h.1
theorem Rr.tapeB {B : Nat} {σ : Sg} {ρ : Sm} (h : Rr B σ ρ) : 0 ≤ (sG σ 0).toInt ∧ (sG σ 0).toInt ≤ 240 := h.2.1
theorem Rr.now {B : Nat} {σ : Sg} {ρ : Sm} (h : Rr B σ ρ) : sG σ 1 = mG ρ 1 := h.2.2.1
theorem Rr.nowB {B : Nat} {σ : Sg} {ρ : Sm} (h : Rr B σ ρ) : 0 ≤ (sG σ 1).toInt ∧ (sG σ 1).toInt ≤ B := h.2.2.2.1
theorem Rr.mom {B : Nat} {σ : Sg} {ρ : Sm} (h : Rr B σ ρ) : sG σ 2 = mG ρ 2 := h.2.2.2.2.1
theorem Rr.made {B : Nat} {σ : Sg} {ρ : Sm} (h : Rr B σ ρ) : sG σ 3 = mG ρ 3 := h.2.2.2.2.2.1
theorem Rr.madeB {B : Nat} {σ : Sg} {ρ : Sm} (h : Rr B σ ρ) : 0 ≤ (sG σ 3).toInt ∧ (sG σ 3).toInt ≤ B := h.2.2.2.2.2.2.1
theorem Rr.tot {B : Nat} {σ : Sg} {ρ : Sm} (h : Rr B σ ρ) : sG σ 4 = mG ρ 4 := h.2.2.2.2.2.2.2.1
theorem Rr.totB {B : Nat} {σ : Sg} {ρ : Sm} (h : Rr B σ ρ) : 0 ≤ (sG σ 4).toInt ∧ (sG σ 4).toInt ≤ B := h.2.2.2.2.2.2.2.2.1
theorem Rr.asked {B : Nat} {σ : Sg} {ρ : Sm} (h : Rr B σ ρ) : sG σ 6 = mG ρ 5 := h.2.2.2.2.2.2.2.2.2.1
theorem Rr.askN {B : Nat} {σ : Sg} {ρ : Sm} (h : Rr B σ ρ) : sG σ 6 = nI (sN σ) := h.2.2.2.2.2.2.2.2.2.2.1
theorem Rr.nB {B : Nat} {σ : Sg} {ρ : Sm} (h : Rr B σ ρ) : sN σ ≤ 1024 := h.2.2.2.2.2.2.2.2.2.2.2.1
theorem Rr.cB {B : Nat} {σ : Sg} {ρ : Sm} (h : Rr B σ ρ) : sC σ ≤ 1900 := h.2.2.2.2.2.2.2.2.2.2.2.2.1
theorem Rr.nC {B : Nat} {σ : Sg} {ρ : Sm} (h : Rr B σ ρ) : sN σ ≤ sC σ := h.2.2.2.2.2.2.2.2.2.2.2.2.2.1
theorem Rr.fed {B : Nat} {σ : Sg} {ρ : Sm} (h : Rr B σ ρ) : ∀ q, q < 240 → sA σ 0 q &&& 255 = mA ρ 0 q := h.2.2.2.2.2.2.2.2.2.2.2.2.2.2.1
theorem Rr.log {B : Nat} {σ : Sg} {ρ : Sm} (h : Rr B σ ρ) : ∀ q, q < 512 → sA σ 1 q = mA ρ 17 q := h.2.2.2.2.2.2.2.2.2.2.2.2.2.2.2.1
theorem Rr.lst {B : Nat} {σ : Sg} {ρ : Sm} (h : Rr B σ ρ) : ∀ j, j < sN σ → sK σ j = some j := h.2.2.2.2.2.2.2.2.2.2.2.2.2.2.2.2.1
theorem Rr.lsB {B : Nat} {σ : Sg} {ρ : Sm} (h : Rr B σ ρ) : ∀ i j, sK σ i = some j → j < sN σ := h.2.2.2.2.2.2.2.2.2.2.2.2.2.2.2.2.2.1
theorem Rr.his {B : Nat} {σ : Sg} {ρ : Sm} (h : Rr B σ ρ) : ∀ j, j < sN σ → ∀ k, k < 6 → sH σ k j = mA ρ 18 (6 * j + k) := h.2.2.2.2.2.2.2.2.2.2.2.2.2.2.2.2.2.2.1
theorem Rr.cl {B : Nat} {σ : Sg} {ρ : Sm} (h : Rr B σ ρ) : ∀ i, i < 8 → Rc σ ρ i := h.2.2.2.2.2.2.2.2.2.2.2.2.2.2.2.2.2.2.2
/-- client i waits for asking j -/
def Tw (σ : Sg) (ρ : Sm) (i j : Nat) : Prop := sR σ i = some j ∧ j < sN σ ∧ mA ρ 1 i = 1 ∧ mA ρ 9 i = nI j
/-- its alarm -/
def Al (σ : Sg) (ρ : Sm) (i : Nat) : Prop := (1 ≤ (sF σ 11 i).toInt ∧ (sF σ 11 i).toInt ≤ 40) ∧ 0 ≤ (sF σ 13 i).toInt ∧ mA ρ 10 i = sF σ 13 i ∧ 0 ≤ (sF σ 14 i).toInt ∧ (sF σ 14 i).toInt < (sG σ 3).toInt ∧ mA ρ 11 i = sF σ 14 i + 1 ∧ sF σ 15 i = mA ρ 12 i ∧ (sF σ 15 i = 0 ∨ sF σ 15 i = 1)
def Idl (σ : Sg) (ρ : Sm) (i : Nat) : Prop := sR σ i = none ∧ mA ρ 1 i = 0 ∧ sF σ 13 i = -1 ∧ mA ρ 11 i = 0 ∧ sF σ 15 i = 0 ∧ mA ρ 12 i = 0
def Qc (σ : Sg) (ρ : Sm) (i : Nat) : Prop := Idl σ ρ i ∨ ∃ j, Tw σ ρ i j ∧ Al σ ρ i
/-- the relation at rest -/
def Rl (B : Nat) (σ : Sg) (ρ : Sm) : Prop := Rr B σ ρ ∧ ∀ i, i < 8 → Qc σ ρ i
/-- on the way: client c is being served -/
def Rt (B : Nat) (σ : Sg) (ρ : Sm) (c : Nat) : Prop := Rr B σ ρ ∧ ∀ i, i < 8 → i ≠ c → Qc σ ρ i
theorem Rc.congr {σ σ' : Sg} {ρ ρ' : Sm} {i : Nat} (h : Rc σ ρ i) (hF : ∀ k, k ≤ 12 → sF σ' k i = sF σ k i) (hB : ∀ k q, sB σ' k i q = sB σ k i q) (hM : ∀ k, (2 ≤ k ∧ k ≤ 8 ∨ k = 13 ∨ k = 15) → mA ρ' k i = mA ρ k i) (hd : ∀ q, q < 232 → mA ρ' 14 (240 * i + q) = mA ρ 14 (240 * i + q)) (ha : ∀ q, q < 134 → mA ρ' 16 (134 * i + q) = mA ρ 16 (134 * i + q)) : Rc σ' ρ' i := ⟨(by rw [hF 0 (by decide)]; exact h.idx), (by rw [hF 7 (by decide), hM 2 (by decide)]; exact h.tgt), (by rw [hF 7 (by decide)]; exact h.tgtB), (by rw [hF 8 (by decide), hM 3 (by decide)]; exact h.ses), (by rw [hF 8 (by decide)]; exact h.sesB), (by rw [hF 9 (by decide), hM 4 (by decide)]; exact h.ser), (by rw [hF 10 (by decide), hM 5 (by decide)]; exact h.num), (by rw [hF 11 (by decide), hM 6 (by decide)]; exact h.tri), (by rw [hF 12 (by decide), hM 7 (by decide)]; exact h.opn), (by rw [hF 12 (by decide)]; exact h.opnB), (by rw [hF 6 (by decide), hM 8 (by decide)]; exact h.knd), (by rw [hF 6 (by decide)]; exact h.kndB), (by rw [hF 3 (by decide), hM 13 (by decide)]; exact h.dsz), (by rw [hF 3 (by decide)]; exact h.dszB), (fun q hq => by rw [hB, hd q hq]; exact h.dat q hq), (by rw [hF 4 (by decide), hM 15 (by decide)]; exact h.asz), (by rw [hF 4 (by decide)]; exact h.aszB), (fun q hq => by rw [hB, ha q hq]; exact h.ans q hq)⟩
theorem Qc.congr {σ σ' : Sg} {ρ ρ' : Sm} {i : Nat} (h : Qc σ ρ i) (hR : sR σ' i = sR σ i) (hN : sN σ ≤ sN σ') (hG : (sG σ 3).toInt ≤ (sG σ' 3).toInt) (hF : ∀ k, (11 ≤ k) → sF σ' k i = sF σ k i) (hM : ∀ k, (k = 1 ∨ 9 ≤ k ∧ k ≤ 12) → mA ρ' k i = mA ρ k i) : Qc σ' ρ' i := by
  rcases h with ⟨h1, h2, h3, h4, h5, h6⟩ | ⟨j, ⟨t1, t2, t3, t4⟩, a1, a2, a3, a4, a5, a6, a7, a8⟩
  · exact Or.inl ⟨by rw [hR, h1], by rw [hM 1 (by decide), h2], by rw [hF 13 (by decide), h3], by rw [hM 11 (by decide), h4], by rw [hF 15 (by decide), h5], by rw [hM 12 (by decide), h6]⟩
  · exact Or.inr ⟨j, ⟨by rw [hR, t1], Nat.lt_of_lt_of_le t2 hN, by rw [hM 1 (by decide), t3], by rw [hM 9 (by decide), t4]⟩, by rw [hF 11 (by decide)]; exact a1, by rw [hF 13 (by decide)]; exact a2, by rw [hM 10 (by decide), hF 13 (by decide), a3], by rw [hF 14 (by decide)]; exact a4, by rw [hF 14 (by decide)]; omega, by rw [hM 11 (by decide), hF 14 (by decide), a6], by rw [hF 15 (by decide), hM 12 (by decide), a7], by rw [hF 15 (by decide)]; exact a8⟩
