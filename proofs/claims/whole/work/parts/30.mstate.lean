/-! THE REFERENCE'S STATE: mG k: 0 thrown, 1 now, 2 moments, 3 made, 4 requests, 5 asked, 6 tape; mA k: 0 fed, 1 waits, 2 targets, 3 sessions, 4 serials, 5 numbers, 6 tries, 7 opens, 8 kinds, 9 indexes, 10 times, 11 orders, 12 impatient, 13 dataSizes, 14 data, 15 answerSizes, 16 answers, 17 sent, 18 history -/
abbrev Sm : Type := (Nat → Int32) × (Nat → Nat → Int32)
def mG (ρ : Sm) (k : Nat) : Int32 := ρ.1 k
def mA (ρ : Sm) (k : Nat) : Nat → Int32 := ρ.2 k
def vG (k : Nat) (v : Int32) (ρ : Sm) : Sm := (upd ρ.1 k v, ρ.2)
def vA (k : Nat) (v : Nat → Int32) (ρ : Sm) : Sm := (ρ.1, va_up ρ.2 k v)
def fM (ad : Nat → Nat → Nat) (ρ : Sm) : List Value := [.int (mG ρ 0), .int (mG ρ 1), .int (mG ρ 2), .int (mG ρ 3), .int (mG ρ 4), .int (mG ρ 5), .int (mG ρ 6), .ref (ad 1 0), .ref (ad 2 0), .ref (ad 3 0), .ref (ad 4 0), .ref (ad 5 0), .ref (ad 6 0), .ref (ad 7 0), .ref (ad 8 0), .ref (ad 9 0), .ref (ad 10 0), .ref (ad 11 0), .ref (ad 12 0), .ref (ad 13 0), .ref (ad 14 0), .ref (ad 15 0), .ref (ad 16 0), .ref (ad 17 0), .ref (ad 18 0), .ref (ad 19 0)]
def wM (ca : Nat → ClassId) (ad : Nat → Nat → Nat) (ρ : Sm) : va_W := [(ad 0 0, .inr (5, fM ad ρ)), (ad 1 0, .inl (ca 0, 240, .inl (mA ρ 0))), (ad 2 0, .inl (ca 1, 8, .inl (mA ρ 1))), (ad 3 0, .inl (ca 0, 8, .inl (mA ρ 2))), (ad 4 0, .inl (ca 0, 8, .inl (mA ρ 3))), (ad 5 0, .inl (ca 0, 8, .inl (mA ρ 4))), (ad 6 0, .inl (ca 0, 8, .inl (mA ρ 5))), (ad 7 0, .inl (ca 0, 8, .inl (mA ρ 6))), (ad 8 0, .inl (ca 1, 8, .inl (mA ρ 7))), (ad 9 0, .inl (ca 0, 8, .inl (mA ρ 8))), (ad 10 0, .inl (ca 0, 8, .inl (mA ρ 9))), (ad 11 0, .inl (ca 0, 8, .inl (mA ρ 10))), (ad 12 0, .inl (ca 0, 8, .inl (mA ρ 11))), (ad 13 0, .inl (ca 1, 8, .inl (mA ρ 12))), (ad 14 0, .inl (ca 0, 8, .inl (mA ρ 13))), (ad 15 0, .inl (ca 0, 1920, .inl (mA ρ 14))), (ad 16 0, .inl (ca 0, 8, .inl (mA ρ 15))), (ad 17 0, .inl (ca 0, 1072, .inl (mA ρ 16))), (ad 18 0, .inl (ca 0, 512, .inl (mA ρ 17))), (ad 19 0, .inl (ca 0, 6144, .inl (mA ρ 18)))]
def tyM9 (ca : Nat → ClassId) : List (ClassId × FieldType) := [(ca 0, .int), (ca 1, .boolean)]
section PM
variable {ca : Nat → ClassId} {ad : Nat → Nat → Nat} {ρ : Sm}
theorem gM_0 : (wM ca ad ρ)[0]? = some (ad 0 0, .inr (5, fM ad ρ)) := rfl
theorem gM_1 : (wM ca ad ρ)[1]? = some (ad 1 0, .inl (ca 0, 240, .inl (mA ρ 0))) := rfl
theorem sM_1 {v : Nat → Int32} : (wM ca ad ρ).set 1 (ad 1 0, .inl (ca 0, 240, .inl v)) = wM ca ad (vA 0 v ρ) := rfl
theorem gM_2 : (wM ca ad ρ)[2]? = some (ad 2 0, .inl (ca 1, 8, .inl (mA ρ 1))) := rfl
theorem sM_2 {v : Nat → Int32} : (wM ca ad ρ).set 2 (ad 2 0, .inl (ca 1, 8, .inl v)) = wM ca ad (vA 1 v ρ) := rfl
theorem gM_3 : (wM ca ad ρ)[3]? = some (ad 3 0, .inl (ca 0, 8, .inl (mA ρ 2))) := rfl
theorem sM_3 {v : Nat → Int32} : (wM ca ad ρ).set 3 (ad 3 0, .inl (ca 0, 8, .inl v)) = wM ca ad (vA 2 v ρ) := rfl
theorem gM_4 : (wM ca ad ρ)[4]? = some (ad 4 0, .inl (ca 0, 8, .inl (mA ρ 3))) := rfl
theorem sM_4 {v : Nat → Int32} : (wM ca ad ρ).set 4 (ad 4 0, .inl (ca 0, 8, .inl v)) = wM ca ad (vA 3 v ρ) := rfl
theorem gM_5 : (wM ca ad ρ)[5]? = some (ad 5 0, .inl (ca 0, 8, .inl (mA ρ 4))) := rfl
theorem sM_5 {v : Nat → Int32} : (wM ca ad ρ).set 5 (ad 5 0, .inl (ca 0, 8, .inl v)) = wM ca ad (vA 4 v ρ) := rfl
theorem gM_6 : (wM ca ad ρ)[6]? = some (ad 6 0, .inl (ca 0, 8, .inl (mA ρ 5))) := rfl
theorem sM_6 {v : Nat → Int32} : (wM ca ad ρ).set 6 (ad 6 0, .inl (ca 0, 8, .inl v)) = wM ca ad (vA 5 v ρ) := rfl
theorem gM_7 : (wM ca ad ρ)[7]? = some (ad 7 0, .inl (ca 0, 8, .inl (mA ρ 6))) := rfl
theorem sM_7 {v : Nat → Int32} : (wM ca ad ρ).set 7 (ad 7 0, .inl (ca 0, 8, .inl v)) = wM ca ad (vA 6 v ρ) := rfl
theorem gM_8 : (wM ca ad ρ)[8]? = some (ad 8 0, .inl (ca 1, 8, .inl (mA ρ 7))) := rfl
theorem sM_8 {v : Nat → Int32} : (wM ca ad ρ).set 8 (ad 8 0, .inl (ca 1, 8, .inl v)) = wM ca ad (vA 7 v ρ) := rfl
theorem gM_9 : (wM ca ad ρ)[9]? = some (ad 9 0, .inl (ca 0, 8, .inl (mA ρ 8))) := rfl
theorem sM_9 {v : Nat → Int32} : (wM ca ad ρ).set 9 (ad 9 0, .inl (ca 0, 8, .inl v)) = wM ca ad (vA 8 v ρ) := rfl
theorem gM_10 : (wM ca ad ρ)[10]? = some (ad 10 0, .inl (ca 0, 8, .inl (mA ρ 9))) := rfl
theorem sM_10 {v : Nat → Int32} : (wM ca ad ρ).set 10 (ad 10 0, .inl (ca 0, 8, .inl v)) = wM ca ad (vA 9 v ρ) := rfl
theorem gM_11 : (wM ca ad ρ)[11]? = some (ad 11 0, .inl (ca 0, 8, .inl (mA ρ 10))) := rfl
theorem sM_11 {v : Nat → Int32} : (wM ca ad ρ).set 11 (ad 11 0, .inl (ca 0, 8, .inl v)) = wM ca ad (vA 10 v ρ) := rfl
theorem gM_12 : (wM ca ad ρ)[12]? = some (ad 12 0, .inl (ca 0, 8, .inl (mA ρ 11))) := rfl
theorem sM_12 {v : Nat → Int32} : (wM ca ad ρ).set 12 (ad 12 0, .inl (ca 0, 8, .inl v)) = wM ca ad (vA 11 v ρ) := rfl
theorem gM_13 : (wM ca ad ρ)[13]? = some (ad 13 0, .inl (ca 1, 8, .inl (mA ρ 12))) := rfl
theorem sM_13 {v : Nat → Int32} : (wM ca ad ρ).set 13 (ad 13 0, .inl (ca 1, 8, .inl v)) = wM ca ad (vA 12 v ρ) := rfl
theorem gM_14 : (wM ca ad ρ)[14]? = some (ad 14 0, .inl (ca 0, 8, .inl (mA ρ 13))) := rfl
theorem sM_14 {v : Nat → Int32} : (wM ca ad ρ).set 14 (ad 14 0, .inl (ca 0, 8, .inl v)) = wM ca ad (vA 13 v ρ) := rfl
theorem gM_15 : (wM ca ad ρ)[15]? = some (ad 15 0, .inl (ca 0, 1920, .inl (mA ρ 14))) := rfl
theorem sM_15 {v : Nat → Int32} : (wM ca ad ρ).set 15 (ad 15 0, .inl (ca 0, 1920, .inl v)) = wM ca ad (vA 14 v ρ) := rfl
theorem gM_16 : (wM ca ad ρ)[16]? = some (ad 16 0, .inl (ca 0, 8, .inl (mA ρ 15))) := rfl
theorem sM_16 {v : Nat → Int32} : (wM ca ad ρ).set 16 (ad 16 0, .inl (ca 0, 8, .inl v)) = wM ca ad (vA 15 v ρ) := rfl
theorem gM_17 : (wM ca ad ρ)[17]? = some (ad 17 0, .inl (ca 0, 1072, .inl (mA ρ 16))) := rfl
theorem sM_17 {v : Nat → Int32} : (wM ca ad ρ).set 17 (ad 17 0, .inl (ca 0, 1072, .inl v)) = wM ca ad (vA 16 v ρ) := rfl
theorem gM_18 : (wM ca ad ρ)[18]? = some (ad 18 0, .inl (ca 0, 512, .inl (mA ρ 17))) := rfl
theorem sM_18 {v : Nat → Int32} : (wM ca ad ρ).set 18 (ad 18 0, .inl (ca 0, 512, .inl v)) = wM ca ad (vA 17 v ρ) := rfl
theorem gM_19 : (wM ca ad ρ)[19]? = some (ad 19 0, .inl (ca 0, 6144, .inl (mA ρ 18))) := rfl
theorem sM_19 {v : Nat → Int32} : (wM ca ad ρ).set 19 (ad 19 0, .inl (ca 0, 6144, .inl v)) = wM ca ad (vA 18 v ρ) := rfl
theorem sM_0_0 {v : Int32} : (wM ca ad ρ).set 0 (ad 0 0, .inr (5, (fM ad ρ).set 0 (.int v))) = wM ca ad (vG 0 v ρ) := rfl
theorem sM_0_1 {v : Int32} : (wM ca ad ρ).set 0 (ad 0 0, .inr (5, (fM ad ρ).set 1 (.int v))) = wM ca ad (vG 1 v ρ) := rfl
theorem sM_0_2 {v : Int32} : (wM ca ad ρ).set 0 (ad 0 0, .inr (5, (fM ad ρ).set 2 (.int v))) = wM ca ad (vG 2 v ρ) := rfl
theorem sM_0_3 {v : Int32} : (wM ca ad ρ).set 0 (ad 0 0, .inr (5, (fM ad ρ).set 3 (.int v))) = wM ca ad (vG 3 v ρ) := rfl
theorem sM_0_4 {v : Int32} : (wM ca ad ρ).set 0 (ad 0 0, .inr (5, (fM ad ρ).set 4 (.int v))) = wM ca ad (vG 4 v ρ) := rfl
theorem sM_0_5 {v : Int32} : (wM ca ad ρ).set 0 (ad 0 0, .inr (5, (fM ad ρ).set 5 (.int v))) = wM ca ad (vG 5 v ρ) := rfl
theorem sM_0_6 {v : Int32} : (wM ca ad ρ).set 0 (ad 0 0, .inr (5, (fM ad ρ).set 6 (.int v))) = wM ca ad (vG 6 v ρ) := rfl
end PM
def eM (_ : Nat → Prop) (_ : State) : Prop := True
abbrev preM (D : va_G) (ca : Nat → ClassId) (ad : Nat → Nat → Nat) (ρ : Sm) (sz : Nat) (U : State) : Prop := U.heap.size = sz ∧ va_P D clX (wM ca ad ρ) U.heap ∧ va_K D clX (tyM9 ca) U ∧ va_D (fun _ => True) (wM ca ad ρ) ∧ eM (va_A (wM ca ad ρ) sz) U
abbrev atM (D : va_G) (ca : Nat → ClassId) (ad : Nat → Nat → Nat) (A : Nat → Prop) (ρ : Sm) (t : State) : Prop := va_P D clX (wM ca ad ρ) t.heap ∧ va_K D clX (tyM9 ca) t ∧ va_D A (wM ca ad ρ)
theorem pm_pre {D : va_G} {ca : Nat → ClassId} {ad : Nat → Nat → Nat} {ρ : Sm} {A : Nat → Prop} {s U : State} {H : Heap} {locs : List Loc} {av : List Value} (hP : va_P D clX (wM ca ad ρ) H) (hK : va_K D clX (tyM9 ca) s) (hD : va_D A (wM ca ad ρ)) (_ : eM A s) (_ : va_S A s.heap H locs) (_ : ∀ q, va_A (wM ca ad ρ) H.size q → A q) (hU : U.heap = H) (hW : s.WarmedH U.vm) : va_Pc av (preM D ca ad ρ H.size) av.toArray U :=
  ⟨rfl, by rw [hU], by rw [hU]; exact hP, va_K.moved hW.alike hK, hD.weaken (fun _ _ _ _ => trivial), trivial⟩
theorem pm_blind {D : va_G} {ca : Nat → ClassId} {ad : Nat → Nat → Nat} {ρ : Sm} {sz : Nat} {av : List Value} : FrameBlind (va_Pc av (preM D ca ad ρ sz)) := fun a U g mk q => by
  obtain ⟨q0, q1, qP, qK, qD, qE⟩ := q
  exact ⟨q0, q1, qP, va_K.moved (u := U) (U := U.calling g mk a) (Vm.Alike.refl U.vm) qK, qD, trivial⟩
