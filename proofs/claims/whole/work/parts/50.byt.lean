theorem fb_8 (x : Int32) : x.toInt8.toInt32 &&& 255 = x &&& 255 := by
  apply Int32.toBitVec_inj.mp
  apply BitVec.eq_of_getLsbD_eq
  intro i hi
  have m1 : ∀ i, i < 32 → (255#32).getLsbD i = decide (i < 8) := by decide
  have e1 : x.toInt8.toInt32.toBitVec = (x.toBitVec.setWidth 8).signExtend 32 := by rw [Int8.toBitVec_toInt32, Int32.toBitVec_toInt8, BitVec.signExtend_eq_setWidth_of_le (x := x.toBitVec) (by decide)]
  rw [Int32.toBitVec_and, Int32.toBitVec_and, BitVec.getLsbD_and, BitVec.getLsbD_and, show (255 : Int32).toBitVec = 255#32 from rfl, m1 i hi, e1, BitVec.getLsbD_signExtend]
  by_cases h8 : i < 8
  · simp [h8, hi]
  · simp [h8]
theorem fb_c : ∀ k, k < 64 → ((nI k).toInt64 &&& 63) = lN k := by decide
theorem fb_cu : ∀ k, k < 64 → ((nI k).toInt64.toUInt64 &&& Int64.toUInt64 63) = UInt64.ofNat k := by decide
theorem fb_u (x : Int64) {s : Nat} (hs : s < 64) : (x.toUInt64 >>> UInt64.ofNat s).toInt64.toBitVec = x.toBitVec >>> s := by
  show (x.toUInt64 >>> UInt64.ofNat s).toBitVec = _
  rw [UInt64.toBitVec_shiftRight]
  have : (UInt64.ofNat s).toBitVec % 64 = BitVec.ofNat 64 s := by
    apply BitVec.eq_of_toNat_eq
    simp [UInt64.toBitVec_ofNat']
    omega
  rw [this]
  show x.toBitVec >>> (BitVec.ofNat 64 s) = _
  rw [BitVec.ushiftRight_eq']
  simp
  congr 1
  omega
theorem fb_s (x : Int64) {s : Nat} (hs : s < 64) : (x >>> lN s).toBitVec = x.toBitVec.sshiftRight s := by
  rw [Int64.toBitVec_shiftRight]
  have : (lN s).toBitVec.smod 64 = BitVec.ofNat 64 s := by
    have : ∀ s, s < 64 → (lN s).toBitVec.smod 64 = BitVec.ofNat 64 s := by decide
    exact this s hs
  rw [this]
  show x.toBitVec.sshiftRight' (BitVec.ofNat 64 s) = _
  unfold BitVec.sshiftRight'
  simp
  congr 1
  omega
theorem fb {x : Int64} {k : Nat} (hk : k < 8) : vp_nar .byte ((((x.toUInt64 >>> ((8 * nI k).toInt64.toUInt64 &&& Int64.toUInt64 63)).toInt64).toInt32).toInt8.toInt32) &&& 255 = ((x >>> ((8 * nI k).toInt64 &&& 63)) &&& 255).toInt32 := by
  rw [pk_vb, fb_8, show (8 : Int32) * nI k = nI (8 * k) from pk_mul 8 k, fb_cu (8 * k) (by omega), fb_c (8 * k) (by omega)]
  apply Int32.toBitVec_inj.mp
  apply BitVec.eq_of_getLsbD_eq
  intro i hi
  rw [Int32.toBitVec_and]
  have e1 : ((x.toUInt64 >>> UInt64.ofNat (8 * k)).toInt64.toInt32).toBitVec = (x.toBitVec >>> (8 * k)).setWidth 32 := by
    rw [← fb_u x (by omega), Int64.toBitVec_toInt32, BitVec.signExtend_eq_setWidth_of_le _ (by decide)]
  have e2 : ((x >>> lN (8 * k)) &&& 255).toInt32.toBitVec = ((x.toBitVec.sshiftRight (8 * k)) &&& 255#64).setWidth 32 := by
    rw [← fb_s x (by omega), Int64.toBitVec_toInt32, BitVec.signExtend_eq_setWidth_of_le _ (by decide), Int64.toBitVec_and]; rfl
  rw [e1, e2]
  have e3 : (255 : Int32).toBitVec = 255#32 := rfl
  have m1 : ∀ i, i < 32 → (255#32).getLsbD i = decide (i < 8) := by decide
  have m2 : ∀ i, i < 32 → (255#64).getLsbD i = decide (i < 8) := by decide
  rw [e3, BitVec.getLsbD_and, BitVec.getLsbD_setWidth, BitVec.getLsbD_setWidth, BitVec.getLsbD_and, m1 i hi, m2 i hi, BitVec.getLsbD_ushiftRight, BitVec.getLsbD_sshiftRight]
  by_cases h8 : i < 8
  · have : 8 * k + i < 64 := by omega
    have : ¬ 64 ≤ i := by omega
    simp [*]
  · simp [h8]
