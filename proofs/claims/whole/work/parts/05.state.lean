/-! THE CLASS'S STATE: numbers by kind and place. g: 0 tapeSize, 1 now, 2 moments, 3 alarmsMade, 4 total, 5 modCount; f k i: field k (its slot) of patron i; r i: the asking of patron i, by its place in the list; b 0 i, b 1 i: data and answer of patron i; a 0, a 1: tape, cells; h k j: field k of asking j; n askings; a list of c places, sK: which asking each place of it holds; g 6: its size -/
abbrev Sg : Type := (Nat → Int32) × (Nat → Nat → Int32) × (Nat → Option Nat) × (Nat → Nat → Nat → Int32) × (Nat → Nat → Int32) × (Nat → Nat → Int32) × Nat × Nat × (Nat → Option Nat)
def up2 {α : Type} (f : Nat → Nat → α) (k i : Nat) (v : α) : Nat → Nat → α := fun a b => if a = k then (if b = i then v else f a b) else f a b
def sG (σ : Sg) (k : Nat) : Int32 := σ.1 k
def sF (σ : Sg) (k i : Nat) : Int32 := σ.2.1 k i
def sR (σ : Sg) (i : Nat) : Option Nat := σ.2.2.1 i
def sB (σ : Sg) (k i : Nat) : Nat → Int32 := σ.2.2.2.1 k i
def sA (σ : Sg) (k : Nat) : Nat → Int32 := σ.2.2.2.2.1 k
def sH (σ : Sg) (k j : Nat) : Int32 := σ.2.2.2.2.2.1 k j
def sN (σ : Sg) : Nat := σ.2.2.2.2.2.2.1
def sC (σ : Sg) : Nat := σ.2.2.2.2.2.2.2.1
def sK (σ : Sg) : Nat → Option Nat := σ.2.2.2.2.2.2.2.2
def uG (k : Nat) (v : Int32) (σ : Sg) : Sg := (upd σ.1 k v, σ.2)
def uF (k i : Nat) (v : Int32) (σ : Sg) : Sg := (σ.1, up2 σ.2.1 k i v, σ.2.2)
def uR (i : Nat) (v : Option Nat) (σ : Sg) : Sg := (σ.1, σ.2.1, va_up σ.2.2.1 i v, σ.2.2.2)
def uB (k i : Nat) (v : Nat → Int32) (σ : Sg) : Sg := (σ.1, σ.2.1, σ.2.2.1, up2 σ.2.2.2.1 k i v, σ.2.2.2.2)
def uA (k : Nat) (v : Nat → Int32) (σ : Sg) : Sg := (σ.1, σ.2.1, σ.2.2.1, σ.2.2.2.1, va_up σ.2.2.2.2.1 k v, σ.2.2.2.2.2)
def uK (v : Nat → Option Nat) (σ : Sg) : Sg := (σ.1, σ.2.1, σ.2.2.1, σ.2.2.2.1, σ.2.2.2.2.1, σ.2.2.2.2.2.1, σ.2.2.2.2.2.2.1, σ.2.2.2.2.2.2.2.1, v)
def uC (v : Nat) (σ : Sg) : Sg := (σ.1, σ.2.1, σ.2.2.1, σ.2.2.2.1, σ.2.2.2.2.1, σ.2.2.2.2.2.1, σ.2.2.2.2.2.2.1, v, σ.2.2.2.2.2.2.2.2)
/-- one asking more, its fields 0 -/
def nQ (σ : Sg) : Sg := (σ.1, σ.2.1, σ.2.2.1, σ.2.2.2.1, σ.2.2.2.2.1, fun k j => if j = σ.2.2.2.2.2.2.1 then 0 else σ.2.2.2.2.2.1 k j, σ.2.2.2.2.2.2.1 + 1, σ.2.2.2.2.2.2.2)
def uH (k j : Nat) (v : Int32) (σ : Sg) : Sg := (σ.1, σ.2.1, σ.2.2.1, σ.2.2.2.1, σ.2.2.2.2.1, up2 σ.2.2.2.2.2.1 k j v, σ.2.2.2.2.2.2)
-- the cells; ad: 0 hall, 1 patrons, 2 list, 3 log, 4 tape, 5 cells, 6 patron i, 7 data i, 8 answer i, 9 the list's array, 10 asking j; ca: 0 int[], 1 byte[], 2 Patron[], 3 Object[]
def fH (ad : Nat → Nat → Nat) (σ : Sg) : List Value := [.ref (ad 1 0), .ref (ad 2 0), .ref (ad 3 0), .ref (ad 4 0), .int (sG σ 0), .int (sG σ 1), .int (sG σ 2), .int (sG σ 3)]
def fL (ad : Nat → Nat → Nat) (σ : Sg) : List Value := [.int (sG σ 5), .ref (ad 9 0), .int (sG σ 6)]
def fG (ad : Nat → Nat → Nat) (σ : Sg) : List Value := [.ref (ad 5 0), .int (sG σ 4)]
def fP (ad : Nat → Nat → Nat) (σ : Sg) (i : Nat) : List Value := [.int (sF σ 0 i), .ref (ad 7 i), .ref (ad 8 i), .int (sF σ 3 i), .int (sF σ 4 i), va_re (ad 10) (sR σ i), .int (sF σ 6 i), .int (sF σ 7 i), .int (sF σ 8 i), .int (sF σ 9 i), .int (sF σ 10 i), .int (sF σ 11 i), .int (sF σ 12 i), .int (sF σ 13 i), .int (sF σ 14 i), .int (sF σ 15 i)]
def fQ (σ : Sg) (j : Nat) : List Value := [.int (sH σ 0 j), .int (sH σ 1 j), .int (sH σ 2 j), .int (sH σ 3 j), .int (sH σ 4 j), .int (sH σ 5 j)]
def eD (ad : Nat → Nat → Nat) (σ : Sg) : Nat → Option Nat := fun j => (sK σ j).map (ad 10)
def w0 (ca : Nat → ClassId) (ad : Nat → Nat → Nat) (σ : Sg) : va_W := [(ad 0 0, .inr (0, fH ad σ)), (ad 1 0, .inl (ca 2, 8, .inr (.inr (.inr (.inr (fun i => some (ad 6 i))))))), (ad 2 0, .inr (4, fL ad σ)), (ad 3 0, .inr (3, fG ad σ)), (ad 4 0, .inl (ca 1, 240, .inl (sA σ 0))), (ad 5 0, .inl (ca 0, 512, .inl (sA σ 1)))]
def w6 (ad : Nat → Nat → Nat) (σ : Sg) : va_W := (List.range 8).map (fun i => (ad 6 i, .inr (1, fP ad σ i)))
def w7 (ca : Nat → ClassId) (ad : Nat → Nat → Nat) (σ : Sg) : va_W := (List.range 8).map (fun i => (ad 7 i, .inl (ca 1, 232, .inl (sB σ 0 i))))
def w8 (ca : Nat → ClassId) (ad : Nat → Nat → Nat) (σ : Sg) : va_W := (List.range 8).map (fun i => (ad 8 i, .inl (ca 1, 134, .inl (sB σ 1 i))))
def wQ (ad : Nat → Nat → Nat) (σ : Sg) : va_W := (List.range (sN σ)).map (fun j => (ad 10 j, .inr (2, fQ σ j)))
def wE (ca : Nat → ClassId) (ad : Nat → Nat → Nat) (σ : Sg) : va_W := if sC σ = 0 then [] else [(ad 9 0, .inl (ca 3, sC σ, .inr (.inr (.inr (.inr (eD ad σ))))))]
def wX (ca : Nat → ClassId) (ad : Nat → Nat → Nat) (σ : Sg) : va_W := w0 ca ad σ ++ (w6 ad σ ++ (w7 ca ad σ ++ (w8 ca ad σ ++ (wQ ad σ ++ wE ca ad σ))))
def tyA (ca : Nat → ClassId) : List (ClassId × FieldType) := [(ca 0, .int), (ca 1, .byte), (ca 2, .object "PatronHall$Patron"), (ca 3, .object "java/lang/Object")]
-- small rows
theorem px_lt {x : Int32} {n : Nat} (h : vp_in x n) : x.toNatClampNeg < n := Nat.lt_of_not_le (fun q => h (Or.inr q))
theorem px_free {A : Nat → Prop} {ws : va_W} {H0 H : Heap} {locs : List Loc} (hD : va_D A ws) (hS : va_S A H0 H locs) (hA : ∀ q, H0.size ≤ q → A q) : ∀ q, va_A ws H.size q → A q := fun q h => by
  rcases h with ⟨k, e, hk⟩ | h
  · exact hD.2 k (q, e) hk
  · exact hA q (Nat.le_trans hS.1 h)
theorem px_mg {α : Type} (g : Nat → α) {n i : Nat} (h : i < n) : ((List.range n).map g)[i]? = some (g i) := by simp [h]
theorem px_ms {α : Type} {g g' : Nat → α} {n i : Nat} (hg : ∀ j, j ≠ i → g' j = g j) : ((List.range n).map g).set i (g' i) = (List.range n).map g' := by
  apply List.ext_getElem?
  intro j
  rw [List.getElem?_set]
  by_cases h : i = j
  · subst h
    by_cases hn : i < n
    · simp [hn]
    · simp [hn]
  · rw [if_neg h]
    by_cases hn : j < n
    · simp [hn, hg j (fun q => h q.symm)]
    · simp [hn]
theorem px_ar {α : Type} {l1 l2 : List α} {k : Nat} (n : Nat) (hn : l1.length = n) : (l1 ++ l2)[n + k]? = l2[k]? := by
  subst hn
  rw [List.getElem?_append_right (Nat.le_add_right _ _), Nat.add_sub_cancel_left]
theorem px_al {α : Type} {l1 l2 : List α} {k : Nat} (h : k < l1.length) : (l1 ++ l2)[k]? = l1[k]? := List.getElem?_append_left h
theorem px_sr {α : Type} {l1 l2 : List α} {k : Nat} {x : α} (n : Nat) (hn : l1.length = n) : (l1 ++ l2).set (n + k) x = l1 ++ l2.set k x := by
  subst hn
  rw [List.set_append_right _ _ (Nat.le_add_right _ _), Nat.add_sub_cancel_left]
theorem px_sl {α : Type} {l1 l2 : List α} {k : Nat} {x : α} (h : k < l1.length) : (l1 ++ l2).set k x = l1.set k x ++ l2 := List.set_append_left _ _ h
theorem up2_s {α : Type} (f : Nat → Nat → α) (k i : Nat) (v : α) : up2 f k i v k i = v := by simp [up2]
section PX
variable {ca : Nat → ClassId} {ad : Nat → Nat → Nat} {σ : Sg}
theorem l0 : (w0 ca ad σ).length = 6 := rfl
theorem l6 : (w6 ad σ).length = 8 := by simp [w6]
theorem l7 : (w7 ca ad σ).length = 8 := by simp [w7]
theorem l8 : (w8 ca ad σ).length = 8 := by simp [w8]
theorem lQ : (wQ ad σ).length = sN σ := by simp [wQ]
-- reading
theorem gX_0 : (wX ca ad σ)[0]? = some (ad 0 0, .inr (0, fH ad σ)) := rfl
theorem gX_1 : (wX ca ad σ)[1]? = some (ad 1 0, .inl (ca 2, 8, .inr (.inr (.inr (.inr (fun i => some (ad 6 i))))))) := rfl
theorem gX_2 : (wX ca ad σ)[2]? = some (ad 2 0, .inr (4, fL ad σ)) := rfl
theorem gX_3 : (wX ca ad σ)[3]? = some (ad 3 0, .inr (3, fG ad σ)) := rfl
theorem gX_4 : (wX ca ad σ)[4]? = some (ad 4 0, .inl (ca 1, 240, .inl (sA σ 0))) := rfl
theorem gX_5 : (wX ca ad σ)[5]? = some (ad 5 0, .inl (ca 0, 512, .inl (sA σ 1))) := rfl
theorem gX_6 {i : Nat} (h : i < 8) : (wX ca ad σ)[6 + i]? = some (ad 6 i, .inr (1, fP ad σ i)) := by
  rw [wX, px_ar 6 l0, px_al (by rw [l6]; exact h)]; exact px_mg _ h
theorem gX_7 {i : Nat} (h : i < 8) : (wX ca ad σ)[6 + (8 + i)]? = some (ad 7 i, .inl (ca 1, 232, .inl (sB σ 0 i))) := by
  rw [wX, px_ar 6 l0, px_ar 8 l6, px_al (by rw [l7]; exact h)]; exact px_mg _ h
theorem gX_8 {i : Nat} (h : i < 8) : (wX ca ad σ)[6 + (8 + (8 + i))]? = some (ad 8 i, .inl (ca 1, 134, .inl (sB σ 1 i))) := by
  rw [wX, px_ar 6 l0, px_ar 8 l6, px_ar 8 l7, px_al (by rw [l8]; exact h)]; exact px_mg _ h
theorem gX_10 {j : Nat} (h : j < sN σ) : (wX ca ad σ)[6 + (8 + (8 + (8 + j)))]? = some (ad 10 j, .inr (2, fQ σ j)) := by
  rw [wX, px_ar 6 l0, px_ar 8 l6, px_ar 8 l7, px_ar 8 l8, px_al (by rw [lQ]; exact h)]; exact px_mg _ h
theorem gX_9 (h : sC σ ≠ 0) : (wX ca ad σ)[6 + (8 + (8 + (8 + (sN σ + 0))))]? = some (ad 9 0, .inl (ca 3, sC σ, .inr (.inr (.inr (.inr (eD ad σ)))))) := by
  rw [wX, px_ar 6 l0, px_ar 8 l6, px_ar 8 l7, px_ar 8 l8, px_ar (sN σ) lQ, wE, if_neg h]; rfl
-- writing
theorem sX_0_4 {v : Int32} : (wX ca ad σ).set 0 (ad 0 0, .inr (0, (fH ad σ).set 4 (.int v))) = wX ca ad (uG 0 v σ) := rfl
theorem sX_0_5 {v : Int32} : (wX ca ad σ).set 0 (ad 0 0, .inr (0, (fH ad σ).set 5 (.int v))) = wX ca ad (uG 1 v σ) := rfl
theorem sX_0_6 {v : Int32} : (wX ca ad σ).set 0 (ad 0 0, .inr (0, (fH ad σ).set 6 (.int v))) = wX ca ad (uG 2 v σ) := rfl
theorem sX_0_7 {v : Int32} : (wX ca ad σ).set 0 (ad 0 0, .inr (0, (fH ad σ).set 7 (.int v))) = wX ca ad (uG 3 v σ) := rfl
theorem sX_2_0 {v : Int32} : (wX ca ad σ).set 2 (ad 2 0, .inr (4, (fL ad σ).set 0 (.int v))) = wX ca ad (uG 5 v σ) := rfl
theorem sX_2_2 {v : Int32} : (wX ca ad σ).set 2 (ad 2 0, .inr (4, (fL ad σ).set 2 (.int v))) = wX ca ad (uG 6 v σ) := rfl
theorem sX_3_1 {v : Int32} : (wX ca ad σ).set 3 (ad 3 0, .inr (3, (fG ad σ).set 1 (.int v))) = wX ca ad (uG 4 v σ) := rfl
theorem sX_6_0 {i : Nat} {v : Int32} (h : i < 8) : (wX ca ad σ).set (6 + i) (ad 6 i, .inr (1, (fP ad σ i).set 0 (.int v))) = wX ca ad (uF 0 i v σ) := by
  rw [wX, px_sr 6 l0, px_sl (by rw [l6]; exact h)]
  have e : (w6 ad σ).set i (ad 6 i, .inr (1, (fP ad σ i).set 0 (.int v))) = w6 ad (uF 0 i v σ) := by
    have q : (fP ad σ i).set 0 (.int v) = fP ad (uF 0 i v σ) i := by simp [fP, sF, sR, uF, up2]
    rw [q]
    exact px_ms (g' := fun j => (ad 6 j, Sum.inr (1, fP ad (uF 0 i v σ) j))) (fun j hj => by simp [fP, sF, sR, uF, up2, hj])
  rw [e]; rfl
theorem sX_6_3 {i : Nat} {v : Int32} (h : i < 8) : (wX ca ad σ).set (6 + i) (ad 6 i, .inr (1, (fP ad σ i).set 3 (.int v))) = wX ca ad (uF 3 i v σ) := by
  rw [wX, px_sr 6 l0, px_sl (by rw [l6]; exact h)]
  have e : (w6 ad σ).set i (ad 6 i, .inr (1, (fP ad σ i).set 3 (.int v))) = w6 ad (uF 3 i v σ) := by
    have q : (fP ad σ i).set 3 (.int v) = fP ad (uF 3 i v σ) i := by simp [fP, sF, sR, uF, up2]
    rw [q]
    exact px_ms (g' := fun j => (ad 6 j, Sum.inr (1, fP ad (uF 3 i v σ) j))) (fun j hj => by simp [fP, sF, sR, uF, up2, hj])
  rw [e]; rfl
theorem sX_6_4 {i : Nat} {v : Int32} (h : i < 8) : (wX ca ad σ).set (6 + i) (ad 6 i, .inr (1, (fP ad σ i).set 4 (.int v))) = wX ca ad (uF 4 i v σ) := by
  rw [wX, px_sr 6 l0, px_sl (by rw [l6]; exact h)]
  have e : (w6 ad σ).set i (ad 6 i, .inr (1, (fP ad σ i).set 4 (.int v))) = w6 ad (uF 4 i v σ) := by
    have q : (fP ad σ i).set 4 (.int v) = fP ad (uF 4 i v σ) i := by simp [fP, sF, sR, uF, up2]
    rw [q]
    exact px_ms (g' := fun j => (ad 6 j, Sum.inr (1, fP ad (uF 4 i v σ) j))) (fun j hj => by simp [fP, sF, sR, uF, up2, hj])
  rw [e]; rfl
theorem sX_6_ask {i : Nat} {v : Nat} (h : i < 8) : (wX ca ad σ).set (6 + i) (ad 6 i, .inr (1, (fP ad σ i).set 5 (.ref (ad 10 v)))) = wX ca ad (uR i (some v) σ) := by
  rw [wX, px_sr 6 l0, px_sl (by rw [l6]; exact h)]
  have e : (w6 ad σ).set i (ad 6 i, .inr (1, (fP ad σ i).set 5 (.ref (ad 10 v)))) = w6 ad (uR i (some v) σ) := by
    have q : (fP ad σ i).set 5 (.ref (ad 10 v)) = fP ad (uR i (some v) σ) i := by simp [fP, sF, sR, uR, va_up, va_re, va_rf]
    rw [q]
    exact px_ms (g' := fun j => (ad 6 j, Sum.inr (1, fP ad (uR i (some v) σ) j))) (fun j hj => by simp [fP, sF, sR, uR, va_up, hj])
  rw [e]; rfl
theorem sX_6_askN {i : Nat} (h : i < 8) : (wX ca ad σ).set (6 + i) (ad 6 i, .inr (1, (fP ad σ i).set 5 (.null))) = wX ca ad (uR i (none) σ) := by
  rw [wX, px_sr 6 l0, px_sl (by rw [l6]; exact h)]
  have e : (w6 ad σ).set i (ad 6 i, .inr (1, (fP ad σ i).set 5 (.null))) = w6 ad (uR i (none) σ) := by
    have q : (fP ad σ i).set 5 (.null) = fP ad (uR i (none) σ) i := by simp [fP, sF, sR, uR, va_up, va_re, va_rf]
    rw [q]
    exact px_ms (g' := fun j => (ad 6 j, Sum.inr (1, fP ad (uR i (none) σ) j))) (fun j hj => by simp [fP, sF, sR, uR, va_up, hj])
  rw [e]; rfl
theorem sX_6_6 {i : Nat} {v : Int32} (h : i < 8) : (wX ca ad σ).set (6 + i) (ad 6 i, .inr (1, (fP ad σ i).set 6 (.int v))) = wX ca ad (uF 6 i v σ) := by
  rw [wX, px_sr 6 l0, px_sl (by rw [l6]; exact h)]
  have e : (w6 ad σ).set i (ad 6 i, .inr (1, (fP ad σ i).set 6 (.int v))) = w6 ad (uF 6 i v σ) := by
    have q : (fP ad σ i).set 6 (.int v) = fP ad (uF 6 i v σ) i := by simp [fP, sF, sR, uF, up2]
    rw [q]
    exact px_ms (g' := fun j => (ad 6 j, Sum.inr (1, fP ad (uF 6 i v σ) j))) (fun j hj => by simp [fP, sF, sR, uF, up2, hj])
  rw [e]; rfl
theorem sX_6_7 {i : Nat} {v : Int32} (h : i < 8) : (wX ca ad σ).set (6 + i) (ad 6 i, .inr (1, (fP ad σ i).set 7 (.int v))) = wX ca ad (uF 7 i v σ) := by
  rw [wX, px_sr 6 l0, px_sl (by rw [l6]; exact h)]
  have e : (w6 ad σ).set i (ad 6 i, .inr (1, (fP ad σ i).set 7 (.int v))) = w6 ad (uF 7 i v σ) := by
    have q : (fP ad σ i).set 7 (.int v) = fP ad (uF 7 i v σ) i := by simp [fP, sF, sR, uF, up2]
    rw [q]
    exact px_ms (g' := fun j => (ad 6 j, Sum.inr (1, fP ad (uF 7 i v σ) j))) (fun j hj => by simp [fP, sF, sR, uF, up2, hj])
  rw [e]; rfl
theorem sX_6_8 {i : Nat} {v : Int32} (h : i < 8) : (wX ca ad σ).set (6 + i) (ad 6 i, .inr (1, (fP ad σ i).set 8 (.int v))) = wX ca ad (uF 8 i v σ) := by
  rw [wX, px_sr 6 l0, px_sl (by rw [l6]; exact h)]
  have e : (w6 ad σ).set i (ad 6 i, .inr (1, (fP ad σ i).set 8 (.int v))) = w6 ad (uF 8 i v σ) := by
    have q : (fP ad σ i).set 8 (.int v) = fP ad (uF 8 i v σ) i := by simp [fP, sF, sR, uF, up2]
    rw [q]
    exact px_ms (g' := fun j => (ad 6 j, Sum.inr (1, fP ad (uF 8 i v σ) j))) (fun j hj => by simp [fP, sF, sR, uF, up2, hj])
  rw [e]; rfl
theorem sX_6_9 {i : Nat} {v : Int32} (h : i < 8) : (wX ca ad σ).set (6 + i) (ad 6 i, .inr (1, (fP ad σ i).set 9 (.int v))) = wX ca ad (uF 9 i v σ) := by
  rw [wX, px_sr 6 l0, px_sl (by rw [l6]; exact h)]
  have e : (w6 ad σ).set i (ad 6 i, .inr (1, (fP ad σ i).set 9 (.int v))) = w6 ad (uF 9 i v σ) := by
    have q : (fP ad σ i).set 9 (.int v) = fP ad (uF 9 i v σ) i := by simp [fP, sF, sR, uF, up2]
    rw [q]
    exact px_ms (g' := fun j => (ad 6 j, Sum.inr (1, fP ad (uF 9 i v σ) j))) (fun j hj => by simp [fP, sF, sR, uF, up2, hj])
  rw [e]; rfl
theorem sX_6_10 {i : Nat} {v : Int32} (h : i < 8) : (wX ca ad σ).set (6 + i) (ad 6 i, .inr (1, (fP ad σ i).set 10 (.int v))) = wX ca ad (uF 10 i v σ) := by
  rw [wX, px_sr 6 l0, px_sl (by rw [l6]; exact h)]
  have e : (w6 ad σ).set i (ad 6 i, .inr (1, (fP ad σ i).set 10 (.int v))) = w6 ad (uF 10 i v σ) := by
    have q : (fP ad σ i).set 10 (.int v) = fP ad (uF 10 i v σ) i := by simp [fP, sF, sR, uF, up2]
    rw [q]
    exact px_ms (g' := fun j => (ad 6 j, Sum.inr (1, fP ad (uF 10 i v σ) j))) (fun j hj => by simp [fP, sF, sR, uF, up2, hj])
  rw [e]; rfl
theorem sX_6_11 {i : Nat} {v : Int32} (h : i < 8) : (wX ca ad σ).set (6 + i) (ad 6 i, .inr (1, (fP ad σ i).set 11 (.int v))) = wX ca ad (uF 11 i v σ) := by
  rw [wX, px_sr 6 l0, px_sl (by rw [l6]; exact h)]
  have e : (w6 ad σ).set i (ad 6 i, .inr (1, (fP ad σ i).set 11 (.int v))) = w6 ad (uF 11 i v σ) := by
    have q : (fP ad σ i).set 11 (.int v) = fP ad (uF 11 i v σ) i := by simp [fP, sF, sR, uF, up2]
    rw [q]
    exact px_ms (g' := fun j => (ad 6 j, Sum.inr (1, fP ad (uF 11 i v σ) j))) (fun j hj => by simp [fP, sF, sR, uF, up2, hj])
  rw [e]; rfl
theorem sX_6_12 {i : Nat} {v : Int32} (h : i < 8) : (wX ca ad σ).set (6 + i) (ad 6 i, .inr (1, (fP ad σ i).set 12 (.int v))) = wX ca ad (uF 12 i v σ) := by
  rw [wX, px_sr 6 l0, px_sl (by rw [l6]; exact h)]
  have e : (w6 ad σ).set i (ad 6 i, .inr (1, (fP ad σ i).set 12 (.int v))) = w6 ad (uF 12 i v σ) := by
    have q : (fP ad σ i).set 12 (.int v) = fP ad (uF 12 i v σ) i := by simp [fP, sF, sR, uF, up2]
    rw [q]
    exact px_ms (g' := fun j => (ad 6 j, Sum.inr (1, fP ad (uF 12 i v σ) j))) (fun j hj => by simp [fP, sF, sR, uF, up2, hj])
  rw [e]; rfl
theorem sX_6_13 {i : Nat} {v : Int32} (h : i < 8) : (wX ca ad σ).set (6 + i) (ad 6 i, .inr (1, (fP ad σ i).set 13 (.int v))) = wX ca ad (uF 13 i v σ) := by
  rw [wX, px_sr 6 l0, px_sl (by rw [l6]; exact h)]
  have e : (w6 ad σ).set i (ad 6 i, .inr (1, (fP ad σ i).set 13 (.int v))) = w6 ad (uF 13 i v σ) := by
    have q : (fP ad σ i).set 13 (.int v) = fP ad (uF 13 i v σ) i := by simp [fP, sF, sR, uF, up2]
    rw [q]
    exact px_ms (g' := fun j => (ad 6 j, Sum.inr (1, fP ad (uF 13 i v σ) j))) (fun j hj => by simp [fP, sF, sR, uF, up2, hj])
  rw [e]; rfl
theorem sX_6_14 {i : Nat} {v : Int32} (h : i < 8) : (wX ca ad σ).set (6 + i) (ad 6 i, .inr (1, (fP ad σ i).set 14 (.int v))) = wX ca ad (uF 14 i v σ) := by
  rw [wX, px_sr 6 l0, px_sl (by rw [l6]; exact h)]
  have e : (w6 ad σ).set i (ad 6 i, .inr (1, (fP ad σ i).set 14 (.int v))) = w6 ad (uF 14 i v σ) := by
    have q : (fP ad σ i).set 14 (.int v) = fP ad (uF 14 i v σ) i := by simp [fP, sF, sR, uF, up2]
    rw [q]
    exact px_ms (g' := fun j => (ad 6 j, Sum.inr (1, fP ad (uF 14 i v σ) j))) (fun j hj => by simp [fP, sF, sR, uF, up2, hj])
  rw [e]; rfl
theorem sX_6_15 {i : Nat} {v : Int32} (h : i < 8) : (wX ca ad σ).set (6 + i) (ad 6 i, .inr (1, (fP ad σ i).set 15 (.int v))) = wX ca ad (uF 15 i v σ) := by
  rw [wX, px_sr 6 l0, px_sl (by rw [l6]; exact h)]
  have e : (w6 ad σ).set i (ad 6 i, .inr (1, (fP ad σ i).set 15 (.int v))) = w6 ad (uF 15 i v σ) := by
    have q : (fP ad σ i).set 15 (.int v) = fP ad (uF 15 i v σ) i := by simp [fP, sF, sR, uF, up2]
    rw [q]
    exact px_ms (g' := fun j => (ad 6 j, Sum.inr (1, fP ad (uF 15 i v σ) j))) (fun j hj => by simp [fP, sF, sR, uF, up2, hj])
  rw [e]; rfl
theorem sX_10_0 {j : Nat} {v : Int32} (h : j < sN σ) : (wX ca ad σ).set (6 + (8 + (8 + (8 + j)))) (ad 10 j, .inr (2, (fQ σ j).set 0 (.int v))) = wX ca ad (uH 0 j v σ) := by
  rw [wX, px_sr 6 l0, px_sr 8 l6, px_sr 8 l7, px_sr 8 l8, px_sl (by rw [lQ]; exact h)]
  have e : (wQ ad σ).set j (ad 10 j, .inr (2, (fQ σ j).set 0 (.int v))) = wQ ad (uH 0 j v σ) := by
    have q : (fQ σ j).set 0 (.int v) = fQ (uH 0 j v σ) j := by simp [fQ, sH, uH, up2]
    rw [q]
    exact px_ms (g' := fun i => (ad 10 i, Sum.inr (2, fQ (uH 0 j v σ) i))) (fun i hj => by simp [fQ, sH, uH, up2, hj])
  rw [e]; rfl
theorem sX_10_1 {j : Nat} {v : Int32} (h : j < sN σ) : (wX ca ad σ).set (6 + (8 + (8 + (8 + j)))) (ad 10 j, .inr (2, (fQ σ j).set 1 (.int v))) = wX ca ad (uH 1 j v σ) := by
  rw [wX, px_sr 6 l0, px_sr 8 l6, px_sr 8 l7, px_sr 8 l8, px_sl (by rw [lQ]; exact h)]
  have e : (wQ ad σ).set j (ad 10 j, .inr (2, (fQ σ j).set 1 (.int v))) = wQ ad (uH 1 j v σ) := by
    have q : (fQ σ j).set 1 (.int v) = fQ (uH 1 j v σ) j := by simp [fQ, sH, uH, up2]
    rw [q]
    exact px_ms (g' := fun i => (ad 10 i, Sum.inr (2, fQ (uH 1 j v σ) i))) (fun i hj => by simp [fQ, sH, uH, up2, hj])
  rw [e]; rfl
theorem sX_10_2 {j : Nat} {v : Int32} (h : j < sN σ) : (wX ca ad σ).set (6 + (8 + (8 + (8 + j)))) (ad 10 j, .inr (2, (fQ σ j).set 2 (.int v))) = wX ca ad (uH 2 j v σ) := by
  rw [wX, px_sr 6 l0, px_sr 8 l6, px_sr 8 l7, px_sr 8 l8, px_sl (by rw [lQ]; exact h)]
  have e : (wQ ad σ).set j (ad 10 j, .inr (2, (fQ σ j).set 2 (.int v))) = wQ ad (uH 2 j v σ) := by
    have q : (fQ σ j).set 2 (.int v) = fQ (uH 2 j v σ) j := by simp [fQ, sH, uH, up2]
    rw [q]
    exact px_ms (g' := fun i => (ad 10 i, Sum.inr (2, fQ (uH 2 j v σ) i))) (fun i hj => by simp [fQ, sH, uH, up2, hj])
  rw [e]; rfl
theorem sX_10_3 {j : Nat} {v : Int32} (h : j < sN σ) : (wX ca ad σ).set (6 + (8 + (8 + (8 + j)))) (ad 10 j, .inr (2, (fQ σ j).set 3 (.int v))) = wX ca ad (uH 3 j v σ) := by
  rw [wX, px_sr 6 l0, px_sr 8 l6, px_sr 8 l7, px_sr 8 l8, px_sl (by rw [lQ]; exact h)]
  have e : (wQ ad σ).set j (ad 10 j, .inr (2, (fQ σ j).set 3 (.int v))) = wQ ad (uH 3 j v σ) := by
    have q : (fQ σ j).set 3 (.int v) = fQ (uH 3 j v σ) j := by simp [fQ, sH, uH, up2]
    rw [q]
    exact px_ms (g' := fun i => (ad 10 i, Sum.inr (2, fQ (uH 3 j v σ) i))) (fun i hj => by simp [fQ, sH, uH, up2, hj])
  rw [e]; rfl
theorem sX_10_4 {j : Nat} {v : Int32} (h : j < sN σ) : (wX ca ad σ).set (6 + (8 + (8 + (8 + j)))) (ad 10 j, .inr (2, (fQ σ j).set 4 (.int v))) = wX ca ad (uH 4 j v σ) := by
  rw [wX, px_sr 6 l0, px_sr 8 l6, px_sr 8 l7, px_sr 8 l8, px_sl (by rw [lQ]; exact h)]
  have e : (wQ ad σ).set j (ad 10 j, .inr (2, (fQ σ j).set 4 (.int v))) = wQ ad (uH 4 j v σ) := by
    have q : (fQ σ j).set 4 (.int v) = fQ (uH 4 j v σ) j := by simp [fQ, sH, uH, up2]
    rw [q]
    exact px_ms (g' := fun i => (ad 10 i, Sum.inr (2, fQ (uH 4 j v σ) i))) (fun i hj => by simp [fQ, sH, uH, up2, hj])
  rw [e]; rfl
theorem sX_10_5 {j : Nat} {v : Int32} (h : j < sN σ) : (wX ca ad σ).set (6 + (8 + (8 + (8 + j)))) (ad 10 j, .inr (2, (fQ σ j).set 5 (.int v))) = wX ca ad (uH 5 j v σ) := by
  rw [wX, px_sr 6 l0, px_sr 8 l6, px_sr 8 l7, px_sr 8 l8, px_sl (by rw [lQ]; exact h)]
  have e : (wQ ad σ).set j (ad 10 j, .inr (2, (fQ σ j).set 5 (.int v))) = wQ ad (uH 5 j v σ) := by
    have q : (fQ σ j).set 5 (.int v) = fQ (uH 5 j v σ) j := by simp [fQ, sH, uH, up2]
    rw [q]
    exact px_ms (g' := fun i => (ad 10 i, Sum.inr (2, fQ (uH 5 j v σ) i))) (fun i hj => by simp [fQ, sH, uH, up2, hj])
  rw [e]; rfl
theorem sX_7 {i : Nat} {v : Nat → Int32} (h : i < 8) : (wX ca ad σ).set (6 + (8 + i)) (ad 7 i, .inl (ca 1, 232, .inl v)) = wX ca ad (uB 0 i v σ) := by
  rw [wX, px_sr 6 l0, px_sr 8 l6, px_sl (by rw [l7]; exact h)]
  have e : (w7 ca ad σ).set i (ad 7 i, .inl (ca 1, 232, .inl v)) = w7 ca ad (uB 0 i v σ) := by
    have q : v = sB (uB 0 i v σ) 0 i := by simp [sB, uB, up2]
    have k := px_ms (n := 8) (i := i) (g := fun j => ((ad 7 j, .inl (ca 1, 232, .inl (sB σ 0 j))) : Nat × va_E)) (g' := fun j => (ad 7 j, .inl (ca 1, 232, .inl (sB (uB 0 i v σ) 0 j)))) (fun j hj => by simp [sB, uB, up2, hj])
    rw [← q] at k
    exact k
  rw [e]; rfl
theorem sX_8 {i : Nat} {v : Nat → Int32} (h : i < 8) : (wX ca ad σ).set (6 + (8 + (8 + i))) (ad 8 i, .inl (ca 1, 134, .inl v)) = wX ca ad (uB 1 i v σ) := by
  rw [wX, px_sr 6 l0, px_sr 8 l6, px_sr 8 l7, px_sl (by rw [l8]; exact h)]
  have e : (w8 ca ad σ).set i (ad 8 i, .inl (ca 1, 134, .inl v)) = w8 ca ad (uB 1 i v σ) := by
    have q : v = sB (uB 1 i v σ) 1 i := by simp [sB, uB, up2]
    have k := px_ms (n := 8) (i := i) (g := fun j => ((ad 8 j, .inl (ca 1, 134, .inl (sB σ 1 j))) : Nat × va_E)) (g' := fun j => (ad 8 j, .inl (ca 1, 134, .inl (sB (uB 1 i v σ) 1 j)))) (fun j hj => by simp [sB, uB, up2, hj])
    rw [← q] at k
    exact k
  rw [e]; rfl
theorem sX_4 {v : Nat → Int32} : (wX ca ad σ).set 4 (ad 4 0, .inl (ca 1, 240, .inl v)) = wX ca ad (uA 0 v σ) := rfl
theorem sX_5 {v : Nat → Int32} : (wX ca ad σ).set 5 (ad 5 0, .inl (ca 0, 512, .inl v)) = wX ca ad (uA 1 v σ) := rfl
end PX
/-- what a contract asks of the cells outside: the statics of a throw, the texts, words that aren't among the good ones -/
def strX : List (String × Nat × String) := [("PatronHall", 51, "n is not 1 .. 8"), ("PatronHall", 58, "the tape would have more than 240 bytes"), ("PatronHall", 229, "there is no such client"), ("PatronHall", 73, "kind, k, v or the tape are not so"), ("PatronHall", 82, "the client waits, or 1024 were asked"), ("PatronHall", 121, "code, value or the tape are not so"), ("PatronHall", 141, "n is not 1 .. 1000"), ("PatronHall", 174, "a client has no such what"), ("PatronHall", 184, "no such byte was asked"), ("PatronHall", 192, "the answer has no such byte"), ("PatronHall", 197, "there is no such asking"), ("PatronHall", 221, "an asking has no such what")]
def badX : List Cond := [.declares ⟨"java/lang/RuntimeException", "<init>", "(Ljava/lang/String;)V"⟩, .declares ⟨"java/lang/Exception", "<init>", "(Ljava/lang/String;)V"⟩, .declares ⟨"java/lang/Throwable", "<init>", "(Ljava/lang/String;)V"⟩, .castable "java/lang/IllegalArgumentException" "java/lang/IllegalArgumentException", .castable "java/lang/IllegalStateException" "java/lang/IllegalStateException", .castable "java/lang/IndexOutOfBoundsException" "java/lang/IndexOutOfBoundsException", .castable "PatronHall$Asking" "java/lang/Object", .methodLinkNest "PatronHall$RequestLog" 28 ⟨"PatronHall", "isCommand", "(I)Z"⟩ "PatronHall"]
def eX (A : Nat → Prop) (U : State) : Prop := vx_Zq Bundle.tN "UNASSIGNED_STACK" Bundle.steD A U U.heap ∧ vx_Zq Bundle.tN "SUPPRESSED_SENTINEL" Bundle.listD A U U.heap ∧ (∀ (k : Nat) (q : String × Nat × String), strX[k]? = some q → ∃ sa : Nat, vk_R q.1 q.2.1 q.2.2 sa U) ∧ ∀ w ∈ badX, va_Nw w U
theorem eX.str {A : Nat → Prop} {U : State} (h : eX A U) (k : Nat) (q : String × Nat × String) (e : strX[k]? = some q) : ∃ sa : Nat, vk_R q.1 q.2.1 q.2.2 sa U := h.2.2.1 k q e
theorem eX.bad {A : Nat → Prop} {U : State} (h : eX A U) (w : Cond) (hw : w ∈ badX) : va_Nw w U := h.2.2.2 w hw
theorem bad_warm {s U : State} (hW : s.WarmedH U.vm) : ∀ w ∈ badX, va_Nw w s → va_Nw w U := by
  intro w hw h
  simp only [badX, List.mem_cons, List.not_mem_nil, or_false] at hw
  rcases hw with rfl | rfl | rfl | rfl | rfl | rfl | rfl | rfl
  all_goals first | exact va_Nw.warmD hW h | exact va_Nw.warmC hW h | exact va_Nw.warmM hW h
theorem eX.nest28 {A : Nat → Prop} {U : State} (h : eX A U) : va_Nw (.methodLinkNest RG 28 yH_isCommand "PatronHall") U := h.bad _ (by decide +kernel)
theorem hg_176 : ∀ w ∈ (vx_atS RH 176 "java/lang/IndexOutOfBoundsException" ["java/lang/RuntimeException", "java/lang/Exception"]).filter goodWord, w ∈ tbG := fun w h => List.mem_filter.mpr ⟨(by decide +kernel : ∀ w ∈ (vx_atS RH 176 "java/lang/IndexOutOfBoundsException" ["java/lang/RuntimeException", "java/lang/Exception"]).filter goodWord, w ∈ lw_tbl) w h, (List.mem_filter.mp h).2⟩
theorem gd_176 {ik : Nat} : ∀ w ∈ Cond.classLink RH ik "java/lang/IndexOutOfBoundsException" :: Cond.initialized "java/lang/IndexOutOfBoundsException" :: vx_atS RH 176 "java/lang/IndexOutOfBoundsException" ["java/lang/RuntimeException", "java/lang/Exception"], vx_ot w = true := fun w h => (List.mem_cons.mp h).elim (fun e => e ▸ rfl) (fun h => (by decide +kernel : ∀ w ∈ Cond.initialized "java/lang/IndexOutOfBoundsException" :: vx_atS RH 176 "java/lang/IndexOutOfBoundsException" ["java/lang/RuntimeException", "java/lang/Exception"], vx_ot w = true) w h)
theorem eX.hat176 {A : Nat → Prop} {args : Array Value} {s : State} (h : eX A s) (hts : ∀ w ∈ tbG, w.before args s = true) : ∀ w ∈ vx_atS RH 176 "java/lang/IndexOutOfBoundsException" ["java/lang/RuntimeException", "java/lang/Exception"], w.before args s = true := vx_hat (B := badX) (fun w hw => hts w (hg_176 w hw)) (by decide +kernel) (fun w hw => va_Nw.use (List.all_eq_true.mp (by decide +kernel : badX.all (fun w => w.onTables) = true) w hw) (h.bad w hw))
theorem hg_53 : ∀ w ∈ (vx_atS RH 53 "java/lang/IllegalArgumentException" ["java/lang/RuntimeException", "java/lang/Exception"]).filter goodWord, w ∈ tbG := fun w h => List.mem_filter.mpr ⟨(by decide +kernel : ∀ w ∈ (vx_atS RH 53 "java/lang/IllegalArgumentException" ["java/lang/RuntimeException", "java/lang/Exception"]).filter goodWord, w ∈ lw_tbl) w h, (List.mem_filter.mp h).2⟩
theorem gd_53 {ik : Nat} : ∀ w ∈ Cond.classLink RH ik "java/lang/IllegalArgumentException" :: Cond.initialized "java/lang/IllegalArgumentException" :: vx_atS RH 53 "java/lang/IllegalArgumentException" ["java/lang/RuntimeException", "java/lang/Exception"], vx_ot w = true := fun w h => (List.mem_cons.mp h).elim (fun e => e ▸ rfl) (fun h => (by decide +kernel : ∀ w ∈ Cond.initialized "java/lang/IllegalArgumentException" :: vx_atS RH 53 "java/lang/IllegalArgumentException" ["java/lang/RuntimeException", "java/lang/Exception"], vx_ot w = true) w h)
theorem eX.hat53 {A : Nat → Prop} {args : Array Value} {s : State} (h : eX A s) (hts : ∀ w ∈ tbG, w.before args s = true) : ∀ w ∈ vx_atS RH 53 "java/lang/IllegalArgumentException" ["java/lang/RuntimeException", "java/lang/Exception"], w.before args s = true := vx_hat (B := badX) (fun w hw => hts w (hg_53 w hw)) (by decide +kernel) (fun w hw => va_Nw.use (List.all_eq_true.mp (by decide +kernel : badX.all (fun w => w.onTables) = true) w hw) (h.bad w hw))
theorem hg_60 : ∀ w ∈ (vx_atS RH 60 "java/lang/IllegalStateException" ["java/lang/RuntimeException", "java/lang/Exception"]).filter goodWord, w ∈ tbG := fun w h => List.mem_filter.mpr ⟨(by decide +kernel : ∀ w ∈ (vx_atS RH 60 "java/lang/IllegalStateException" ["java/lang/RuntimeException", "java/lang/Exception"]).filter goodWord, w ∈ lw_tbl) w h, (List.mem_filter.mp h).2⟩
theorem gd_60 {ik : Nat} : ∀ w ∈ Cond.classLink RH ik "java/lang/IllegalStateException" :: Cond.initialized "java/lang/IllegalStateException" :: vx_atS RH 60 "java/lang/IllegalStateException" ["java/lang/RuntimeException", "java/lang/Exception"], vx_ot w = true := fun w h => (List.mem_cons.mp h).elim (fun e => e ▸ rfl) (fun h => (by decide +kernel : ∀ w ∈ Cond.initialized "java/lang/IllegalStateException" :: vx_atS RH 60 "java/lang/IllegalStateException" ["java/lang/RuntimeException", "java/lang/Exception"], vx_ot w = true) w h)
theorem eX.hat60 {A : Nat → Prop} {args : Array Value} {s : State} (h : eX A s) (hts : ∀ w ∈ tbG, w.before args s = true) : ∀ w ∈ vx_atS RH 60 "java/lang/IllegalStateException" ["java/lang/RuntimeException", "java/lang/Exception"], w.before args s = true := vx_hat (B := badX) (fun w hw => hts w (hg_60 w hw)) (by decide +kernel) (fun w hw => va_Nw.use (List.all_eq_true.mp (by decide +kernel : badX.all (fun w => w.onTables) = true) w hw) (h.bad w hw))
abbrev preX (D : va_G) (ca : Nat → ClassId) (ad : Nat → Nat → Nat) (σ : Sg) (sz : Nat) (U : State) : Prop := U.heap.size = sz ∧ va_P D clX (wX ca ad σ) U.heap ∧ va_K D clX (tyA ca) U ∧ va_D (fun _ => True) (wX ca ad σ) ∧ eX (va_A (wX ca ad σ) sz) U
abbrev atX (D : va_G) (ca : Nat → ClassId) (ad : Nat → Nat → Nat) (A : Nat → Prop) (σ : Sg) (t : State) : Prop := va_P D clX (wX ca ad σ) t.heap ∧ va_K D clX (tyA ca) t ∧ va_D A (wX ca ad σ)
abbrev atXx (D : va_G) (ca : Nat → ClassId) (ad : Nat → Nat → Nat) (A : Nat → Prop) (E : String) (u : String × Sg) (t : State) : Prop := E = u.1 ∧ va_P D clX (wX ca ad u.2) t.heap ∧ va_K D clX (tyA ca) t ∧ va_D A (wX ca ad u.2)
theorem eX.to {A B : Nat → Prop} {s U : State} {H : Heap} {locs : List Loc} (h : eX A s) (hS : va_S A s.heap H locs) (hB : ∀ q, B q → A q) (hU : U.heap = H) (hW : s.WarmedH U.vm) : eX B U := by
  have hk : ∀ a : Nat, a < s.heap.size → ¬ A a → U.heap[a]? = s.heap[a]? := fun a h1 h2 => by rw [hU]; exact hS.2.1 a h1 h2
  exact ⟨((h.1.kept hk).moved hW.alike).narrow hB, ((h.2.1.kept hk).moved hW.alike).narrow hB, fun k q e => by obtain ⟨sa, z⟩ := h.2.2.1 k q e; exact ⟨sa, vk_R.warm hW z⟩, fun w hw => bad_warm hW w hw (h.2.2.2 w hw)⟩
theorem px_pre {D : va_G} {ca : Nat → ClassId} {ad : Nat → Nat → Nat} {σ : Sg} {A : Nat → Prop} {s U : State} {H : Heap} {locs : List Loc} {av : List Value} (hP : va_P D clX (wX ca ad σ) H) (hK : va_K D clX (tyA ca) s) (hD : va_D A (wX ca ad σ)) (hE : eX A s) (hS : va_S A s.heap H locs) (hF : ∀ q, va_A (wX ca ad σ) H.size q → A q) (hU : U.heap = H) (hW : s.WarmedH U.vm) : va_Pc av (preX D ca ad σ H.size) av.toArray U :=
  ⟨rfl, by rw [hU], by rw [hU]; exact hP, va_K.moved hW.alike hK, hD.weaken (fun _ _ _ _ => trivial), hE.to hS hF hU hW⟩
theorem px_blind {D : va_G} {ca : Nat → ClassId} {ad : Nat → Nat → Nat} {σ : Sg} {sz : Nat} {av : List Value} : FrameBlind (va_Pc av (preX D ca ad σ sz)) := fun a U g mk q => by
  obtain ⟨q0, q1, qP, qK, qD, qE⟩ := q
  exact ⟨q0, q1, qP, va_K.moved (u := U) (U := U.calling g mk a) (Vm.Alike.refl U.vm) qK, qD, qE.1.moved (Vm.Alike.refl U.vm), qE.2.1.moved (Vm.Alike.refl U.vm), fun k q e => by obtain ⟨sa, z⟩ := qE.2.2.1 k q e; exact ⟨sa, vk_R.same rfl z⟩, fun w hw => va_Nw.same (u := U) (U := U.calling g mk a) (List.all_eq_true.mp (by decide +kernel : badX.all (fun w => w.onTables) = true) w hw) rfl (qE.2.2.2 w hw)⟩
theorem px_recv {D : va_G} {cl : List vw_C} {s : State} {H : Heap} {tys : List (ClassId × FieldType)} {ws : va_W} {a q0 ci : Nat} {q : vw_C} {fs : List Value} (hK : va_K D cl tys s) (hP : va_P D cl ws H) (he : ws[q0]? = some (a, .inr (ci, fs))) (hc : cl[ci]? = some q) : ∃ cell : Cell, H[a]? = some cell ∧ cell.vm.isStatics = false ∧ s.vm.findClass q.1 = some cell.cls := va_recv hK hP hc he
theorem va_S.F2 {A : Nat → Prop} {s t : State} {H : Heap} {locs : List Loc} (h : va_S A s.heap H locs) (hz : H.size ≤ t.heap.size) (hk : ∀ q : Nat, q < H.size → t.heap[q]? = H[q]?) : va_F A s t := ⟨Nat.le_trans h.1 hz, fun q h1 h2 => by rw [hk q (Nat.lt_of_lt_of_le h1 h.1)]; exact h.2.1 q h1 h2⟩
theorem px_out3 {x : Int32} (h0 : ¬ x = 0) (h1 : ¬ x = 1) (h2 : ¬ x = 2) : x.toInt < 0 ∨ 2 < x.toInt := by
  have a0 := lv_neT h0 (a := 0) rfl
  have a1 := lv_neT h1 (a := 1) rfl
  have a2 := lv_neT h2 (a := 2) rfl
  omega
theorem px_out4 {x : Int32} (h0 : ¬ x = 0) (h1 : ¬ x = 1) (h2 : ¬ x = 2) (h3 : ¬ x = 3) : x.toInt < 0 ∨ 3 < x.toInt := by
  have a0 := lv_neT h0 (a := 0) rfl
  have a1 := lv_neT h1 (a := 1) rfl
  have a2 := lv_neT h2 (a := 2) rfl
  have a3 := lv_neT h3 (a := 3) rfl
  omega
theorem px_out6 {x : Int32} (h0 : ¬ x = 0) (h1 : ¬ x = 1) (h2 : ¬ x = 2) (h3 : ¬ x = 3) (h4 : ¬ x = 4) (h5 : ¬ x = 5) : x.toInt < 0 ∨ 5 < x.toInt := by
  have a0 := lv_neT h0 (a := 0) rfl
  have a1 := lv_neT h1 (a := 1) rfl
  have a2 := lv_neT h2 (a := 2) rfl
  have a3 := lv_neT h3 (a := 3) rfl
  have a4 := lv_neT h4 (a := 4) rfl
  have a5 := lv_neT h5 (a := 5) rfl
  omega
theorem px_out9 {x : Int32} (h0 : ¬ x = 0) (h1 : ¬ x = 1) (h2 : ¬ x = 2) (h3 : ¬ x = 3) (h4 : ¬ x = 4) (h5 : ¬ x = 5) (h6 : ¬ x = 6) (h7 : ¬ x = 7) (h8 : ¬ x = 8) : x.toInt < 0 ∨ 8 < x.toInt := by
  have a0 := lv_neT h0 (a := 0) rfl
  have a1 := lv_neT h1 (a := 1) rfl
  have a2 := lv_neT h2 (a := 2) rfl
  have a3 := lv_neT h3 (a := 3) rfl
  have a4 := lv_neT h4 (a := 4) rfl
  have a5 := lv_neT h5 (a := 5) rfl
  have a6 := lv_neT h6 (a := 6) rfl
  have a7 := lv_neT h7 (a := 7) rfl
  have a8 := lv_neT h8 (a := 8) rfl
  omega

