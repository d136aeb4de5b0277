section
/-! ===== BEGIN words of one list among another's, by their places ===== -/
theorem goodIn_r {big : List Cond} (ws : List Cond) (ps : List Nat) (hp : ws = ps.filterMap (fun i => big[i]?)) (h : ws.all goodWord = true) : GoodIn big ws := by
  intro w hw
  have h1 := List.all_eq_true.mp h w hw
  rw [hp] at hw
  obtain ⟨i, -, hi⟩ := List.mem_filterMap.mp hw
  have hm : w ∈ big := by first | exact List.mem_of_getElem? hi | exact List.getElem?_mem hi
  exact ⟨hm, good_of_word h1⟩
theorem goodIn_app {big a b : List Cond} (ha : GoodIn big a) (hb : GoodIn big b) : GoodIn big (a ++ b) := fun w h => (List.mem_append.mp h).elim (ha w) (hb w)
theorem goodIn_ca {big a b : List Cond} {c : Cond} (ha : GoodIn big (c :: a)) (hb : GoodIn big b) : GoodIn big (c :: (a ++ b)) := fun w h => (List.mem_cons.mp h).elim (fun e => ha w (List.mem_cons.mpr (Or.inl e))) (fun h => (List.mem_append.mp h).elim (fun h => ha w (List.mem_cons.mpr (Or.inr h))) (hb w))
theorem goodIn_sub {big ws : List Cond} (hm : ∀ w ∈ ws, w ∈ big) (h : ws.all goodWord = true) : GoodIn big ws := fun w hw => ⟨hm w hw, good_of_word (List.all_eq_true.mp h w hw)⟩
/-! ===== END ===== -/

/-! ===== BEGIN exceptions that leave a method, and their catching by the caller (launches without stack traces) ===== -/
section VXA
/-! The laws vx_back, vx_callV, vx_callS, vx_callSW, vx_throw0, vx_throwS follow proofs of the library, with one case more: JvmDerived/Free/Laws.lean (Back.of_free), Shelf42/LK1.lean (callV, callS), Shelf/KitTraced.lean (throwNew0V, throwNewS). -/
/-- where a method has thrown q: the class by its name, the cell, what was written, the world -/
def vx_T (XC : String → State → State → Prop) (st : State) (q : Addr) (t : State) (mc ms : Nat) (free : Addr → Prop) : Prop :=
  ∃ (E : String) (ce : Cell) (L : List Loc), XC E st t ∧ t.heap[q]? = some ce ∧ ce.vm = .none ∧ st.vm.findClass E = some ce.cls ∧ st.WarmedH t.vm ∧ st.sameButNew ({ t with vm := st.vm } : State) L mc ms ∧ ∀ z ∈ L, free z.base
def vx_Q (Qc : Array Value → State → Outcome → State → Prop) (XC : String → State → State → Prop) (mc ms : Nat) (free : Addr → Prop) : Array Value → State → Outcome → State → Prop := fun a st o t =>
  (Qc a st o t ∧ ∃ L, FrameEnd st o t L mc ms ∧ ∀ q ∈ L, free q.base) ∨ ∃ q, o = .threw q ∧ vx_T XC st q t mc ms free
/-- a callee that returns or throws -/
def vx_Met (l : Launch) (y : MethodName) (ws : List Cond) (rm : Room) (Pc : Array Value → State → Prop) (Qc : Array Value → State → Outcome → State → Prop) (XC : String → State → State → Prop) (mc ms : Nat) (free : Addr → Prop) : Prop :=
  MetFree l y (headSpec ws rm) Pc (fun _ _ _ _ _ => True) (vx_Q Qc XC mc ms free)
def vx_Post (XC : String → State → State → Prop) (mc ms : Nat) (free : Addr → Prop) : Pt → Array Value → Addr → Pt → Prop := fun A a q B =>
  ∃ (g : JFrame) (mk : MethodId) (t : State) (L : List Loc) (E : String) (ce : Cell), B.U.heap = t.heap ∧ B.U.vm = t.vm ∧ XC E (A.U.calling g mk a) t ∧ t.heap[q]? = some ce ∧ ce.vm = .none ∧ A.U.vm.findClass E = some ce.cls ∧ B.locs = A.locs ++ L ∧ (∀ z ∈ L, free z.base) ∧ B.cells = A.cells + mc ∧ B.slots = A.slots + ms
def vx_Back (l : Launch) (R : Room) (p : Program) (e : Env) (below : List Frame) (s : State) (sargs : Array Value) (y : MethodName) (len W9 : Nat)
    (Pre : Pt → Array Value → Prop) (Post : Pt → Array Value → Option Value → Pt → Prop) (PostX : Pt → Array Value → Addr → Pt → Prop) : Prop :=
  ∀ (m : MethodId) (meth : Method) (c : Code) (A : Pt) (g : JFrame) (ig : Instr) (mk : MethodId) (a : Array Value),
    Stand p l e R s m sargs below meth c A.U A.locs A.cells A.slots → g.method = m → g.locals.size = c.maxLocals → decode c.code g.pc = .ok (ig, len) →
    2 * g.monitorRoom + (g.stack.map fun v => v.category).sum ≤ W9 → A.U.methodNamed? y = some mk → Pre A a →
    (∃ (v : Option Value) (B : Pt), Stand p l e R s m sargs below meth c B.U B.locs B.cells B.slots ∧ Post A a v B ∧
      Steps p.tables e below (doInvoke e (A.U.setTop g) [] mk a).1 (B.U.setTop { g with pc := g.pc + len, stack := v.toList ++ g.stack })) ∨
    (∃ (q : Addr) (B : Pt), Stand p l e R s m sargs below meth c B.U B.locs B.cells B.slots ∧ PostX A a q B ∧
      Steps p.tables e below (doInvoke e (A.U.setTop g) [] mk a).1 ((B.U.setTop g).pushFrame (.throwing q)))
section Payer
variable {l : Launch} {R : Room} {p : Program} {e : Env} {below : List Frame} {s : State} {sargs : Array Value} {y : MethodName} {len W9 : Nat}
theorem vx_back {ws : List Cond} {rm : Room} {Pc : Array Value → State → Prop} {Qc : Array Value → State → Outcome → State → Prop} {XC : String → State → State → Prop} {mc ms : Nat} {free : Addr → Prop} {bytes : ByteArray} {maxL : Nat} {ret : Option FieldType}
    (hM : vx_Met l y ws rm Pc Qc XC mc ms free) (hblind : FrameBlind Pc) (hrc : rm.cells = mc) (hrs : rm.slots = ms)
    (hframes : rm.frames + 1 ≤ R.frames) (hlocals : W9 + (maxL + 11) + rm.locals ≤ R.locals)
    (hws : ∀ w ∈ ws, ∀ a' U, s.WarmedH U.vm → w.before a' U = true) (hcode : Cond.code y bytes maxL ret ∈ ws) (hinit : ∀ a' U, s.WarmedH U.vm → (Cond.initialized y.cls).before a' U = true) :
    vx_Back l R p e below s sargs y len W9 (PreOf R mc ms Pc) (PostOf Qc mc ms free) (vx_Post XC mc ms free) := by
  intro m meth c A g ig mk a X hg hsize hdg hW hn hp
  have h1 : (headSpec ws rm).pre.before a A.U = true := atoms_intro fun w hw => hws w hw _ _ X.warmed
  have h2 : (Cond.code y bytes maxL ret).before a A.U = true := hws _ hcode _ _ X.warmed
  have h3 : (Cond.initialized y.cls).before a A.U = true := hinit _ _ X.warmed
  have h4 : A.cells + (headSpec ws rm).room.cells ≤ R.cells := by rw [show (headSpec ws rm).room.cells = mc from hrc]; exact hp.1
  have h5 : A.slots + (headSpec ws rm).room.slots ≤ R.slots := by rw [show (headSpec ws rm).room.slots = ms from hrs]; exact hp.2.1
  have hPc : Pc a (A.U.calling g mk a) := hblind _ _ _ _ hp.2.2
  obtain ⟨U, Ls, c0, s0⟩ := A
  dsimp only [Pt.U, Pt.locs, Pt.cells, Pt.slots] at h1 h2 h3 h4 h5 X hn hPc ⊢
  obtain ⟨methY, cY, hmY, hcY, -, hlY, -, -, -, -⟩ := Cond.code_spec hn h2
  obtain ⟨kY, hkY, -⟩ := className_of_methodNamed hn
  have hinitY : kY.init = .initialized := Cond.initialized_spec (findClass_of_methodNamed hn) hkY h3
  have h : At U g.method c below := by rw [hg]; exact X.here
  have hlocals9 : W9 + (maxL + 11) + (headSpec ws rm).room.locals ≤ R.locals := hlocals
  have happ : (headSpec ws rm).appliesLoose y e.platform (U.calling g mk a) = true :=
    Spec.appliesLoose_calling (g := g) h hdg hn hkY hinitY
      (X.room_calling (g := g) (R' := (headSpec ws rm).room) hsize hmY hcY hframes (by rw [hlY]; omega) h4 h5) h1
  obtain ⟨mid, hmid⟩ := h.above
  have hfr : (U.setTop g).frames = (.java g :: mid) ++ below := by rw [State.frames_setTop' g h.top, hmid]; rfl
  obtain ⟨o, s₂, hsteps, -, hend, hq⟩ := Steps.callFree hM p X.admits X.cas X.clock (acts := []) hfr happ hPc trivial
  have hq' : vx_Q Qc XC mc ms free a (U.calling g mk a) o s₂ := hq
  rw [State.frames_setTop' g h.top] at hend
  obtain ⟨g₀, hg0⟩ := Option.isSome_iff_exists.mp h.top
  obtain ⟨r, hr⟩ := State.topJava?_eq_some.mp hg0
  have hr' : (({ U with heap := s₂.heap, slotsUsed := s₂.slotsUsed } : State).setVm s₂.vm).frames = .java g₀ :: r := hr
  rcases hq' with ⟨hqc, L, hfe, hL⟩ | ⟨q, rfl, E, ce, L, hx, hce, hcv, hcl, hW₂, hsm, hL⟩
  · obtain ⟨⟨v, rfl⟩, hW₂, e2, q2, q3, q4, q5, q6⟩ := id hfe
    have e3 : s₂ = ({ (U.calling g mk a).setFrames s₂.frames with heap := s₂.heap, slotsUsed := s₂.slotsUsed } : State).setVm s₂.vm := by
      have : s₂ = ({ s₂ with vm := (U.calling g mk a).vm } : State).setVm s₂.vm := rfl
      rw [e2] at this
      exact this
    obtain ⟨c₂, i₂, len₂, hc₂, hd₂, hf₂⟩ := hend
    have hW' : U.WarmedH s₂.vm := hW₂
    have hcc : c₂ = c := by
      have h1 : s₂.code? g.method = U.code? g.method := by
        rw [State.code?_eq, State.code?_eq, hW'.alike.method?]
      exact Option.some.inj (hc₂.symm.trans (h1.trans h.code))
    subst hcc
    have hlen : len₂ = len := by rw [hdg] at hd₂; cases hd₂; rfl
    subst hlen
    have hs₂ : s₂ = (({ U with heap := s₂.heap, slotsUsed := s₂.slotsUsed } : State).setVm s₂.vm).setTop { g with pc := g.pc + len₂, stack := v.toList ++ g.stack } := by
      refine e3.trans ?_
      rw [hf₂, State.calling_eq h.top, State.setFrames_setFrames, State.setTop_of_frames _ hr', hr]
      rfl
    have hsame : U.sameButNew ({ U with heap := s₂.heap, slotsUsed := s₂.slotsUsed } : State) L mc ms := by
      refine ⟨?_, q2, q3, q4, q5, q6⟩
      obtain ⟨t, ht, -⟩ := State.frames_cons hr
      show ({ U with heap := s₂.heap, slotsUsed := s₂.slotsUsed } : State) = { U.setFrames U.frames with heap := s₂.heap, slotsUsed := s₂.slotsUsed }
      rw [State.setFrames_self ht]
    subst hg
    refine Or.inl ⟨v, ⟨(({ U with heap := s₂.heap, slotsUsed := s₂.slotsUsed } : State).setVm s₂.vm), Ls ++ L, c0 + mc, s0 + ms⟩,
      ⟨X.admits, X.cas, X.clock, X.frames, X.room, X.hears, X.method, X.code, (X.here.setHeapUsed s₂.heap s₂.slotsUsed).setVm hW'.alike, X.tail, State.WarmedH.trans X.warmed hW', X.limits, X.bytes, X.same.trans (hsame.setVm s.vm)⟩,
      ⟨g, mk, s₂, L, rfl, rfl, hqc, rfl, hL, rfl, rfl⟩, ?_⟩
    show Steps p.tables e below _ ((({ U with heap := s₂.heap, slotsUsed := s₂.slotsUsed } : State).setVm s₂.vm).setTop { g with pc := g.pc + len₂, stack := v.toList ++ g.stack })
    rw [← hs₂]
    exact hsteps
  · obtain ⟨e2, q2, q3, q4, q5, q6⟩ := id hsm
    have e3 : s₂ = ({ (U.calling g mk a).setFrames s₂.frames with heap := s₂.heap, slotsUsed := s₂.slotsUsed } : State).setVm s₂.vm := by
      have : s₂ = ({ s₂ with vm := (U.calling g mk a).vm } : State).setVm s₂.vm := rfl
      rw [e2] at this
      exact this
    have hf₂ : s₂.frames = .throwing q :: .java g :: U.frames.tail := hend
    have hW' : U.WarmedH s₂.vm := hW₂
    have hs₂ : s₂ = ((({ U with heap := s₂.heap, slotsUsed := s₂.slotsUsed } : State).setVm s₂.vm).setTop g).pushFrame (.throwing q) := by
      refine e3.trans ?_
      rw [hf₂, State.calling_eq h.top, State.setFrames_setFrames, State.pushFrame, State.frames_setTop _ hr', State.setTop_of_frames _ hr', State.setFrames_setFrames, hr]
      rfl
    have hsame : U.sameButNew ({ U with heap := s₂.heap, slotsUsed := s₂.slotsUsed } : State) L mc ms := by
      refine ⟨?_, q2, q3, q4, q5, q6⟩
      obtain ⟨t, ht, -⟩ := State.frames_cons hr
      show ({ U with heap := s₂.heap, slotsUsed := s₂.slotsUsed } : State) = { U.setFrames U.frames with heap := s₂.heap, slotsUsed := s₂.slotsUsed }
      rw [State.setFrames_self ht]
    subst hg
    refine Or.inr ⟨q, ⟨(({ U with heap := s₂.heap, slotsUsed := s₂.slotsUsed } : State).setVm s₂.vm), Ls ++ L, c0 + mc, s0 + ms⟩,
      ⟨X.admits, X.cas, X.clock, X.frames, X.room, X.hears, X.method, X.code, (X.here.setHeapUsed s₂.heap s₂.slotsUsed).setVm hW'.alike, X.tail, State.WarmedH.trans X.warmed hW', X.limits, X.bytes, X.same.trans (hsame.setVm s.vm)⟩,
      ⟨g, mk, s₂, L, E, ce, rfl, rfl, hx, hce, hcv, hcl, rfl, hL, rfl, rfl⟩, ?_⟩
    show Steps p.tables e below _ (((({ U with heap := s₂.heap, slotsUsed := s₂.slotsUsed } : State).setVm s₂.vm).setTop g).pushFrame (.throwing q))
    rw [← hs₂]
    exact hsteps
end Payer
section Calls
variable {p : Program} {l : Launch} {e : Env} {R : Room} {s : State} {m : MethodId} {args : Array Value} {below : List Frame} {meth : Method} {c : Code} {T : State} {locs : List Loc} {cells slots : Nat}
theorem vx_callV (X : Stand p l e R s m args below meth c T locs cells slots) (hexec : p.tables.exec = Jvm.exec) {own C : String} {index : Nat} {y : MethodName} {bytes : ByteArray} {maxL : Nat} {ret : Option FieldType}
    (hown : s.vm.findClass own = some m.cls) (hlink : (Cond.methodLink own index y).before args s = true) (hinst : (Cond.instanceMethod y).before args s = true) (hsel : (Cond.selects C y y).before args s = true)
    (hcode : (Cond.code y bytes maxL ret).before args s = true) (hy : y.cls ≠ "java/lang/invoke/MethodHandle" ∧ y.cls ≠ "java/lang/invoke/VarHandle")
    {W9 : Nat} {Pre : Pt → Array Value → Prop} {Post : Pt → Array Value → Option Value → Pt → Prop} {PostX : Pt → Array Value → Addr → Pt → Prop} (hK : vx_Back l R p e below s args y 3 W9 Pre Post PostX)
    {b : Addr} {cellB : Cell} (hcell : T.heap[b]? = some cellB) (hobj : cellB.vm.isStatics = false) (hcls : s.vm.findClass C = some cellB.cls)
    {g : JFrame} (hg : g.method = m) (hsize : g.locals.size = c.maxLocals) {argsL rest : List Value} (hlen : ∀ sig, parseMethodDescriptor y.desc = some sig → argsL.length = sig.parameters.length)
    (hstack : g.stack = argsL.reverse ++ .ref b :: rest) (hW : 2 * g.monitorRoom + (rest.map fun v => v.category).sum ≤ W9) (hdg : decode c.code g.pc = .ok (.invokevirtual index, 3))
    (hpre : ∀ vm₁, s.WarmedH vm₁ → Pre ⟨T.setVm vm₁, locs, cells, slots⟩ (Value.ref b :: argsL).toArray) :
    (∃ (v : Option Value) (vm₁ : Vm) (B : Pt), s.WarmedH vm₁ ∧ Stand p l e R s m args below meth c B.U B.locs B.cells B.slots ∧ Post ⟨T.setVm vm₁, locs, cells, slots⟩ (Value.ref b :: argsL).toArray v B ∧
      ∀ target, Steps p.tables e below (B.U.setTop { g with pc := g.pc + 3, stack := v.toList ++ rest }) target → Steps p.tables e below (T.setTop g) target) ∨
    (∃ (q : Addr) (vm₁ : Vm) (B : Pt), s.WarmedH vm₁ ∧ Stand p l e R s m args below meth c B.U B.locs B.cells B.slots ∧ PostX ⟨T.setVm vm₁, locs, cells, slots⟩ (Value.ref b :: argsL).toArray q B ∧
      Steps p.tables e below (T.setTop g) ((B.U.setTop { g with stack := rest }).pushFrame (.throwing q))) := by
  obtain ⟨mk, methM, hnamed, hmethM, hstM, habM⟩ := Cond.instanceMethod_spec hinst
  obtain ⟨methM', cM, hmethM', -, -, -, -, -, -, hsigM⟩ := Cond.code_spec hnamed hcode
  cases hmethM.symm.trans hmethM'
  obtain ⟨c2, r2, m2, q1, q2, q3, q4, kP, hkP, hkPi⟩ := Cond.selects_spec hsel
  cases hcls.symm.trans q1
  cases (State.methodFound?_of_named hnamed hy).symm.trans q2
  cases hnamed.symm.trans q3
  have hselP : selectMethod e.platform s.vm cellB.cls mk = .method mk := by rw [Launch.admits_selectMethod X.admits]; exact q4
  obtain ⟨vm₁, X₁, hstep₁⟩ := X.invokevirtual hexec hown hlink hnamed hmethM hstM hkP hkPi hy (a := b) (cell := cellB) hcell
    (fun z h => by rw [h] at hobj; cases hobj) hselP hmethM habM hkP hkPi (g := g) hg (argsL := argsL) (rest := rest) (hlen _ hsigM) hstack hdg
  rcases hK m meth c ⟨T.setVm vm₁, locs, cells, slots⟩ { g with stack := rest } (.invokevirtual index) mk (Value.ref b :: argsL).toArray X₁ hg hsize hdg hW (X₁.named hnamed) (hpre vm₁ X₁.warmed) with ⟨v, B, X', hpost, hsteps⟩ | ⟨q, B, X', hpost, hsteps⟩
  · exact Or.inl ⟨v, vm₁, B, X₁.warmed, X', hpost, fun target h => hstep₁ _ fun acts => by rw [doInvoke_state]; exact hsteps.trans h⟩
  · exact Or.inr ⟨q, vm₁, B, X₁.warmed, X', hpost, hstep₁ _ fun acts => by rw [doInvoke_state]; exact hsteps⟩
theorem vx_callS (X : Stand p l e R s m args below meth c T locs cells slots) (hexec : p.tables.exec = Jvm.exec) {own : String} {index : Nat} {y : MethodName} {bytes : ByteArray} {maxL : Nat} {ret : Option FieldType}
    (hown : s.vm.findClass own = some m.cls) (hlink : (Cond.methodLink own index y).before args s = true) (hstat : (Cond.static y).before args s = true) (hinit : (Cond.initialized y.cls).before args s = true)
    (hcode : (Cond.code y bytes maxL ret).before args s = true) (hy : y.cls ≠ "java/lang/invoke/MethodHandle" ∧ y.cls ≠ "java/lang/invoke/VarHandle")
    {W9 : Nat} {Pre : Pt → Array Value → Prop} {Post : Pt → Array Value → Option Value → Pt → Prop} {PostX : Pt → Array Value → Addr → Pt → Prop} (hK : vx_Back l R p e below s args y 3 W9 Pre Post PostX)
    {g : JFrame} (hg : g.method = m) (hsize : g.locals.size = c.maxLocals) {argsL rest : List Value} (hlen : ∀ sig, parseMethodDescriptor y.desc = some sig → argsL.length = sig.parameters.length)
    (hstack : g.stack = argsL.reverse ++ rest) (hW : 2 * g.monitorRoom + (rest.map fun v => v.category).sum ≤ W9) (hdg : decode c.code g.pc = .ok (.invokestatic index, 3))
    (hpre : ∀ vm₁, s.WarmedH vm₁ → Pre ⟨T.setVm vm₁, locs, cells, slots⟩ argsL.toArray) :
    (∃ (v : Option Value) (vm₁ : Vm) (B : Pt), s.WarmedH vm₁ ∧ Stand p l e R s m args below meth c B.U B.locs B.cells B.slots ∧ Post ⟨T.setVm vm₁, locs, cells, slots⟩ argsL.toArray v B ∧
      ∀ target, Steps p.tables e below (B.U.setTop { g with pc := g.pc + 3, stack := v.toList ++ rest }) target → Steps p.tables e below (T.setTop g) target) ∨
    (∃ (q : Addr) (vm₁ : Vm) (B : Pt), s.WarmedH vm₁ ∧ Stand p l e R s m args below meth c B.U B.locs B.cells B.slots ∧ PostX ⟨T.setVm vm₁, locs, cells, slots⟩ argsL.toArray q B ∧
      Steps p.tables e below (T.setTop g) ((B.U.setTop { g with stack := rest }).pushFrame (.throwing q))) := by
  obtain ⟨mk, hnamed⟩ := Cond.code_named hcode
  obtain ⟨methM, cM, hmethM, -, -, -, -, -, -, hsigM⟩ := Cond.code_spec hnamed hcode
  have hstatic : methM.isStatic = true := Cond.static_spec hnamed hmethM hstat
  obtain ⟨kP, hkP, -⟩ := className_of_methodNamed hnamed
  have hinitP : kP.init = .initialized := Cond.initialized_spec (findClass_of_methodNamed hnamed) hkP hinit
  obtain ⟨vm₁, X₁, hstep₁⟩ := X.invokestatic hexec hown hlink hnamed hmethM hstatic hkP hinitP hy (g := g) hg (argsL := argsL) (rest := rest) (hlen _ hsigM) hstack hdg
  rcases hK m meth c ⟨T.setVm vm₁, locs, cells, slots⟩ { g with stack := rest } (.invokestatic index) mk argsL.toArray X₁ hg hsize hdg hW (X₁.named hnamed) (hpre vm₁ X₁.warmed) with ⟨v, B, X', hpost, hsteps⟩ | ⟨q, B, X', hpost, hsteps⟩
  · exact Or.inl ⟨v, vm₁, B, X₁.warmed, X', hpost, fun target h => hstep₁ _ fun acts => by rw [doInvoke_state]; exact hsteps.trans h⟩
  · exact Or.inr ⟨q, vm₁, B, X₁.warmed, X', hpost, hstep₁ _ fun acts => by rw [doInvoke_state]; exact hsteps⟩
end Calls
theorem vx_cls {s : State} {T : State} {vm₁ : Vm} {E : String} {k : ClassId} (hW : s.WarmedH vm₁) (h : (T.setVm vm₁).vm.findClass E = some k) : s.vm.findClass E = some k := by
  have h1 : vm₁.findClass E = some k := h
  rw [hW.alike.findClass] at h1
  exact h1
/-- the method's frame g, with q thrown over it -/
def vx_W (p : Program) (l : Launch) (e : Env) (R : Room) (s : State) (m : MethodId) (args : Array Value) (below : List Frame) (meth : Method) (c : Code) (H : Heap) (locs : List Loc) (cells slots : Nat) (Q : State → Prop) (g : JFrame) (q : Addr) : Prop :=
  ∀ T : State, T.heap = H → Stand p l e R s m args below meth c T locs cells slots → ∃ t, Steps p.tables e below ((T.setTop g).pushFrame (.throwing q)) t ∧ Q t
def vx_Run (p : Program) (l : Launch) (e : Env) (R : Room) (s : State) (m : MethodId) (args : Array Value) (below : List Frame) (meth : Method) (c : Code) (H : Heap) (locs : List Loc) (cells slots mc ms : Nat) (g : JFrame) (rest : List Value) (Qa : State → Outcome → State → Prop) (XC : String → State → State → Prop) (free : Addr → Prop) : Prop :=
  ∀ T : State, T.heap = H → Stand p l e R s m args below meth c T locs cells slots →
    (∃ (v : Option Value) (st₀ t T' : State) (L : List Loc), st₀.heap = H ∧ Stand p l e R s m args below meth c T' (locs ++ L) (cells + mc) (slots + ms) ∧ (∀ q ∈ L, free q.base) ∧ T'.heap = t.heap ∧ T'.vm = t.vm ∧ Qa st₀ (.returned v) t ∧
      Goes p e below T g T' { g with pc := g.pc + 3, stack := v.toList ++ rest }) ∨
    (∃ (q : Addr) (st₀ t T' : State) (L : List Loc) (E : String) (ce : Cell), st₀.heap = H ∧ Stand p l e R s m args below meth c T' (locs ++ L) (cells + mc) (slots + ms) ∧ (∀ z ∈ L, free z.base) ∧ T'.heap = t.heap ∧ T'.vm = t.vm ∧ XC E st₀ t ∧ t.heap[q]? = some ce ∧ ce.vm = .none ∧ s.vm.findClass E = some ce.cls ∧
      Steps p.tables e below (T.setTop g) ((T'.setTop { g with stack := rest }).pushFrame (.throwing q)))
def vx_X {S : Type} (px : S → Prop) (B : String → S → State → Prop) (A : Nat → Prop) : String → State → State → Prop := fun E st t => ∃ u : S, px u ∧ B E u t ∧ va_F A st t
section Runs
variable {p : Program} {l : Launch} {e : Env} {R : Room} {s : State} {m : MethodId} {args : Array Value} {below : List Frame} {meth : Method} {c : Code} {H : Heap} {locs : List Loc} {cells slots : Nat}
variable {y : MethodName} {bytes cc : ByteArray} {maxL nL mc ms n index : Nat} {ret : Option FieldType} {ws : List Cond} {rm : Room} {Pc : Array Value → State → Prop} {Qc : Array Value → State → Outcome → State → Prop} {XC : String → State → State → Prop} {free : Addr → Prop} {Ts : List Cond} {own C : String} {b : Addr} {As rest : List Value} {g : JFrame}
theorem vx_callBack (cb : CallB R s args own index y bytes maxL ret ws rm mc ms n) (hM : vx_Met l y ws rm Pc Qc XC mc ms free) (hbl : FrameBlind Pc) : vx_Back l R p e below s args y 3 8 (PreOf R mc ms Pc) (PostOf Qc mc ms free) (vx_Post XC mc ms free) := by
  obtain ⟨hrc, hrs, hfr, hlo, hws, hcw, -, hini, -⟩ := cb
  exact vx_back (bytes := bytes) (maxL := maxL) (ret := ret) hM hbl hrc hrs hfr hlo hws hcw (fun a' U hW => word_at hW (Or.inl (by first | rfl | simp [Cond.onTables, Cond.keeps, Cond.steady])) hini)
theorem vx_runV (S : CallFix p m c cc nL s args Ts own) (hM : vx_Met l y ws rm Pc Qc XC mc ms free) (cw : CallW R s args own C index y bytes maxL ret ws rm mc ms n) (hp : PreV s H C b Pc As)
    (hg : g.method = m) (hn : As.length = n) (hsize : g.locals.size = nL) (hstack : g.stack = As.reverse ++ .ref b :: rest) (hW : 2 * g.monitorRoom + (rest.map fun v => v.category).sum ≤ 8) (hdg : decode cc g.pc = .ok (.invokevirtual index, 3)) (hf : cells + mc ≤ R.cells ∧ slots + ms ≤ R.slots) :
    vx_Run p l e R s m args below meth c H locs cells slots mc ms g rest (Qc (Value.ref b :: As).toArray) XC free := by
  have hK : vx_Back l R p e below s args y 3 8 (PreOf R mc ms Pc) (PostOf Qc mc ms free) (vx_Post XC mc ms free) := vx_callBack cw.1 hM hp.1
  obtain ⟨⟨-, -, -, -, -, -, hcode, -, hy, hlen, hl⟩, hin, hse⟩ := cw
  obtain ⟨hx, hb, hml, ho, -⟩ := S
  obtain ⟨-, ⟨cellB, hcB, hoB, hclB⟩, hPc⟩ := hp
  intro T hT X
  rcases vx_callV X hx (C := C) (bytes := bytes) (maxL := maxL) (ret := ret) ho hl hin hse hcode hy hK (by rw [hT]; exact hcB) hoB hclB hg (hsize.trans hml.symm) (argsL := As) (rest := rest) (fun sig h => hn.trans (hlen sig h)) hstack hW (by rw [hb]; exact hdg)
    (fun vm₁ hW₁ => ⟨hf.1, hf.2, hPc (T.setVm vm₁) hT hW₁⟩) with ⟨v, vm₁, ⟨U', l2, c2, s2⟩, hW₁, X', ⟨g', mk, t, L, e1, e2, hq, h1, hL, h2, h3⟩, st⟩ | ⟨q, vm₁, ⟨U', l2, c2, s2⟩, hW₁, X', ⟨g', mk, t, L, E, ce, e1, e2, hq, hce, hcv, hcl, h1, hL, h2, h3⟩, st⟩
  · dsimp only [Pt.U, Pt.locs, Pt.cells, Pt.slots] at X' e1 e2 h1 h2 h3 st
    subst h1; subst h2; subst h3
    exact Or.inl ⟨v, (T.setVm vm₁).calling g' mk (Value.ref b :: As).toArray, t, U', L, hT, X', hL, e1, e2, hq, st⟩
  · dsimp only [Pt.U, Pt.locs, Pt.cells, Pt.slots] at X' e1 e2 h1 h2 h3 st hcl
    subst h1; subst h2; subst h3
    exact Or.inr ⟨q, (T.setVm vm₁).calling g' mk (Value.ref b :: As).toArray, t, U', L, E, ce, hT, X', hL, e1, e2, hq, hce, hcv, vx_cls hW₁ hcl, st⟩
theorem vx_runS (S : CallFix p m c cc nL s args Ts own) (hM : vx_Met l y ws rm Pc Qc XC mc ms free) (cw : CallB R s args own index y bytes maxL ret ws rm mc ms n ∧ (Cond.static y).before args s = true) (hp : PreS s H Pc As)
    (hg : g.method = m) (hn : As.length = n) (hsize : g.locals.size = nL) (hstack : g.stack = As.reverse ++ rest) (hW : 2 * g.monitorRoom + (rest.map fun v => v.category).sum ≤ 8) (hdg : decode cc g.pc = .ok (.invokestatic index, 3)) (hf : cells + mc ≤ R.cells ∧ slots + ms ≤ R.slots) :
    vx_Run p l e R s m args below meth c H locs cells slots mc ms g rest (Qc As.toArray) XC free := by
  have hK : vx_Back l R p e below s args y 3 8 (PreOf R mc ms Pc) (PostOf Qc mc ms free) (vx_Post XC mc ms free) := vx_callBack cw.1 hM hp.1
  obtain ⟨⟨-, -, -, -, -, -, hcode, hini, hy, hlen, hl⟩, hstt⟩ := cw
  obtain ⟨hx, hb, hml, ho, -⟩ := S
  intro T hT X
  rcases vx_callS X hx (bytes := bytes) (maxL := maxL) (ret := ret) ho hl hstt hini hcode hy hK hg (hsize.trans hml.symm) (argsL := As) (rest := rest) (fun sig h => hn.trans (hlen sig h)) hstack hW (by rw [hb]; exact hdg)
    (fun vm₁ hW₁ => ⟨hf.1, hf.2, hp.2 (T.setVm vm₁) hT hW₁⟩) with ⟨v, vm₁, ⟨U', l2, c2, s2⟩, hW₁, X', ⟨g', mk, t, L, e1, e2, hq, h1, hL, h2, h3⟩, st⟩ | ⟨q, vm₁, ⟨U', l2, c2, s2⟩, hW₁, X', ⟨g', mk, t, L, E, ce, e1, e2, hq, hce, hcv, hcl, h1, hL, h2, h3⟩, st⟩
  · dsimp only [Pt.U, Pt.locs, Pt.cells, Pt.slots] at X' e1 e2 h1 h2 h3 st
    subst h1; subst h2; subst h3
    exact Or.inl ⟨v, (T.setVm vm₁).calling g' mk As.toArray, t, U', L, hT, X', hL, e1, e2, hq, st⟩
  · dsimp only [Pt.U, Pt.locs, Pt.cells, Pt.slots] at X' e1 e2 h1 h2 h3 st hcl
    subst h1; subst h2; subst h3
    exact Or.inr ⟨q, (T.setVm vm₁).calling g' mk As.toArray, t, U', L, E, ce, hT, X', hL, e1, e2, hq, hce, hcv, vx_cls hW₁ hcl, st⟩
end Runs
section Rows
variable {p : Program} {l : Launch} {e : Env} {R : Room} {s : State} {m : MethodId} {args : Array Value} {below : List Frame} {meth : Method} {c : Code} {H : Heap} {locs : List Loc} {cells slots : Nat} {Q : State → Prop}
variable {mc ms : Nat} {free : Addr → Prop} {A0 A1 : Nat → Prop} {H0 : Heap} {a : Array Value} {pc : Nat} {ls : Array Slot} {st0 rest : List Value}
theorem vx_keep {st₀ t T' : State} {L : List Loc} (h0 : st₀.heap = H) (e1 : T'.heap = t.heap) (hS : va_S A0 H0 H locs) (hA : ∀ q, q < H.size → A1 q → A0 q) (hf : ∀ q, free q → A0 q) (hL : ∀ q ∈ L, free q.base) (hF : va_F A1 st₀ t) :
    H.size ≤ T'.heap.size ∧ (∀ q : Nat, q < H.size → ¬ A1 q → T'.heap[q]? = H[q]?) ∧ va_S A0 H0 T'.heap (locs ++ L) := by
  obtain ⟨hz, hk⟩ := hF
  rw [h0] at hz hk
  exact ⟨by rw [e1]; exact hz, fun q h1 h2 => by rw [e1]; exact hk q h1 h2,
    ⟨Nat.le_trans hS.1 (by rw [e1]; exact hz), fun q h1 h2 => by rw [e1, hk q (Nat.lt_of_lt_of_le h1 hS.1) (fun z => h2 (hA q (Nat.lt_of_lt_of_le h1 hS.1) z))]; exact hS.2.1 q h1 h2, fun q hq => by
      rcases List.mem_append.mp hq with h | h
      · exact hS.2.2 q h
      · exact hf _ (hL q h)⟩⟩
theorem vx_calli {S SX : Type} {post : Int32 → S → Prop} {px : SX → Prop} {B : S → State → Prop} {BX : String → SX → State → Prop} {AX : Nat → Prop} (hr : vx_Run p l e R s m args below meth c H locs cells slots mc ms (F0 m pc ls st0) rest (va_Qi post B A1 a) (vx_X px BX AX) free) (hS : va_S A0 H0 H locs) (hA : ∀ q, q < H.size → A1 q → A0 q) (hf : ∀ q, free q → A0 q) (hAX : ∀ q, q < H.size → AX q → A0 q)
    (kx : ∀ (E : String) (ce : Cell) (q9 : Addr) (u : SX) (t : State) (H1 : Heap) (locs1 : List Loc), t.heap = H1 → s.vm.Alike t.vm → px u → BX E u t → H.size ≤ H1.size → (∀ q : Nat, q < H.size → ¬ AX q → H1[q]? = H[q]?) → va_S A0 H0 H1 locs1 → H1[q9]? = some ce → ce.vm = .none → s.vm.findClass E = some ce.cls → vx_W p l e R s m args below meth c H1 locs1 (cells + mc) (slots + ms) Q (F0 m pc ls rest) q9)
    (kk : ∀ (r : Int32) (u : S) (t : State) (H1 : Heap) (locs1 : List Loc), t.heap = H1 → s.vm.Alike t.vm → post r u → B u t → H.size ≤ H1.size → (∀ q : Nat, q < H.size → ¬ A1 q → H1[q]? = H[q]?) → va_S A0 H0 H1 locs1 → W p l e R s m args below meth c H1 locs1 (cells + mc) (slots + ms) Q (F0 m (pc + 3) ls (.int r :: rest))) : W p l e R s m args below meth c H locs cells slots Q (F0 m pc ls st0) := by
  intro T hT X
  rcases hr T hT X with ⟨v, st₀, t, T', L, h0, X', hL, e1, e2, ⟨⟨r, u, hv, hp, hb⟩, hF⟩, st⟩ | ⟨q, st₀, t, T', L, E, ce, h0, X', hL, e1, e2, ⟨u, hp, hb, hF⟩, hce, hcv, hcl, st⟩
  · cases hv
    obtain ⟨k1, k2, k3⟩ := vx_keep h0 e1 hS hA hf hL hF
    obtain ⟨t2, a1, b1⟩ := kk r u t T'.heap (locs ++ L) e1.symm (by rw [← e2]; exact X'.warmed.alike) hp hb k1 k2 k3 T' rfl X'
    exact ⟨t2, st t2 a1, b1⟩
  · obtain ⟨k1, k2, k3⟩ := vx_keep h0 e1 hS hAX hf hL hF
    obtain ⟨t2, a1, b1⟩ := kx E ce q u t T'.heap (locs ++ L) e1.symm (by rw [← e2]; exact X'.warmed.alike) hp hb k1 k2 k3 (by rw [e1]; exact hce) hcv hcl T' rfl X'
    exact ⟨t2, st.trans a1, b1⟩
theorem vx_calll {S SX : Type} {post : Int64 → S → Prop} {px : SX → Prop} {B : S → State → Prop} {BX : String → SX → State → Prop} {AX : Nat → Prop} (hr : vx_Run p l e R s m args below meth c H locs cells slots mc ms (F0 m pc ls st0) rest (va_Ql post B A1 a) (vx_X px BX AX) free) (hS : va_S A0 H0 H locs) (hA : ∀ q, q < H.size → A1 q → A0 q) (hf : ∀ q, free q → A0 q) (hAX : ∀ q, q < H.size → AX q → A0 q)
    (kx : ∀ (E : String) (ce : Cell) (q9 : Addr) (u : SX) (t : State) (H1 : Heap) (locs1 : List Loc), t.heap = H1 → s.vm.Alike t.vm → px u → BX E u t → H.size ≤ H1.size → (∀ q : Nat, q < H.size → ¬ AX q → H1[q]? = H[q]?) → va_S A0 H0 H1 locs1 → H1[q9]? = some ce → ce.vm = .none → s.vm.findClass E = some ce.cls → vx_W p l e R s m args below meth c H1 locs1 (cells + mc) (slots + ms) Q (F0 m pc ls rest) q9)
    (kk : ∀ (r : Int64) (u : S) (t : State) (H1 : Heap) (locs1 : List Loc), t.heap = H1 → s.vm.Alike t.vm → post r u → B u t → H.size ≤ H1.size → (∀ q : Nat, q < H.size → ¬ A1 q → H1[q]? = H[q]?) → va_S A0 H0 H1 locs1 → W p l e R s m args below meth c H1 locs1 (cells + mc) (slots + ms) Q (F0 m (pc + 3) ls (.long r :: rest))) : W p l e R s m args below meth c H locs cells slots Q (F0 m pc ls st0) := by
  intro T hT X
  rcases hr T hT X with ⟨v, st₀, t, T', L, h0, X', hL, e1, e2, ⟨⟨r, u, hv, hp, hb⟩, hF⟩, st⟩ | ⟨q, st₀, t, T', L, E, ce, h0, X', hL, e1, e2, ⟨u, hp, hb, hF⟩, hce, hcv, hcl, st⟩
  · cases hv
    obtain ⟨k1, k2, k3⟩ := vx_keep h0 e1 hS hA hf hL hF
    obtain ⟨t2, a1, b1⟩ := kk r u t T'.heap (locs ++ L) e1.symm (by rw [← e2]; exact X'.warmed.alike) hp hb k1 k2 k3 T' rfl X'
    exact ⟨t2, st t2 a1, b1⟩
  · obtain ⟨k1, k2, k3⟩ := vx_keep h0 e1 hS hAX hf hL hF
    obtain ⟨t2, a1, b1⟩ := kx E ce q u t T'.heap (locs ++ L) e1.symm (by rw [← e2]; exact X'.warmed.alike) hp hb k1 k2 k3 (by rw [e1]; exact hce) hcv hcl T' rfl X'
    exact ⟨t2, st.trans a1, b1⟩
theorem vx_callf {S SX : Type} {post : UInt32 → S → Prop} {px : SX → Prop} {B : S → State → Prop} {BX : String → SX → State → Prop} {AX : Nat → Prop} (hr : vx_Run p l e R s m args below meth c H locs cells slots mc ms (F0 m pc ls st0) rest (va_Qf post B A1 a) (vx_X px BX AX) free) (hS : va_S A0 H0 H locs) (hA : ∀ q, q < H.size → A1 q → A0 q) (hf : ∀ q, free q → A0 q) (hAX : ∀ q, q < H.size → AX q → A0 q)
    (kx : ∀ (E : String) (ce : Cell) (q9 : Addr) (u : SX) (t : State) (H1 : Heap) (locs1 : List Loc), t.heap = H1 → s.vm.Alike t.vm → px u → BX E u t → H.size ≤ H1.size → (∀ q : Nat, q < H.size → ¬ AX q → H1[q]? = H[q]?) → va_S A0 H0 H1 locs1 → H1[q9]? = some ce → ce.vm = .none → s.vm.findClass E = some ce.cls → vx_W p l e R s m args below meth c H1 locs1 (cells + mc) (slots + ms) Q (F0 m pc ls rest) q9)
    (kk : ∀ (r : UInt32) (u : S) (t : State) (H1 : Heap) (locs1 : List Loc), t.heap = H1 → s.vm.Alike t.vm → post r u → B u t → H.size ≤ H1.size → (∀ q : Nat, q < H.size → ¬ A1 q → H1[q]? = H[q]?) → va_S A0 H0 H1 locs1 → W p l e R s m args below meth c H1 locs1 (cells + mc) (slots + ms) Q (F0 m (pc + 3) ls (.float r :: rest))) : W p l e R s m args below meth c H locs cells slots Q (F0 m pc ls st0) := by
  intro T hT X
  rcases hr T hT X with ⟨v, st₀, t, T', L, h0, X', hL, e1, e2, ⟨⟨r, u, hv, hp, hb⟩, hF⟩, st⟩ | ⟨q, st₀, t, T', L, E, ce, h0, X', hL, e1, e2, ⟨u, hp, hb, hF⟩, hce, hcv, hcl, st⟩
  · cases hv
    obtain ⟨k1, k2, k3⟩ := vx_keep h0 e1 hS hA hf hL hF
    obtain ⟨t2, a1, b1⟩ := kk r u t T'.heap (locs ++ L) e1.symm (by rw [← e2]; exact X'.warmed.alike) hp hb k1 k2 k3 T' rfl X'
    exact ⟨t2, st t2 a1, b1⟩
  · obtain ⟨k1, k2, k3⟩ := vx_keep h0 e1 hS hAX hf hL hF
    obtain ⟨t2, a1, b1⟩ := kx E ce q u t T'.heap (locs ++ L) e1.symm (by rw [← e2]; exact X'.warmed.alike) hp hb k1 k2 k3 (by rw [e1]; exact hce) hcv hcl T' rfl X'
    exact ⟨t2, st.trans a1, b1⟩
theorem vx_calld {S SX : Type} {post : UInt64 → S → Prop} {px : SX → Prop} {B : S → State → Prop} {BX : String → SX → State → Prop} {AX : Nat → Prop} (hr : vx_Run p l e R s m args below meth c H locs cells slots mc ms (F0 m pc ls st0) rest (va_Qd post B A1 a) (vx_X px BX AX) free) (hS : va_S A0 H0 H locs) (hA : ∀ q, q < H.size → A1 q → A0 q) (hf : ∀ q, free q → A0 q) (hAX : ∀ q, q < H.size → AX q → A0 q)
    (kx : ∀ (E : String) (ce : Cell) (q9 : Addr) (u : SX) (t : State) (H1 : Heap) (locs1 : List Loc), t.heap = H1 → s.vm.Alike t.vm → px u → BX E u t → H.size ≤ H1.size → (∀ q : Nat, q < H.size → ¬ AX q → H1[q]? = H[q]?) → va_S A0 H0 H1 locs1 → H1[q9]? = some ce → ce.vm = .none → s.vm.findClass E = some ce.cls → vx_W p l e R s m args below meth c H1 locs1 (cells + mc) (slots + ms) Q (F0 m pc ls rest) q9)
    (kk : ∀ (r : UInt64) (u : S) (t : State) (H1 : Heap) (locs1 : List Loc), t.heap = H1 → s.vm.Alike t.vm → post r u → B u t → H.size ≤ H1.size → (∀ q : Nat, q < H.size → ¬ A1 q → H1[q]? = H[q]?) → va_S A0 H0 H1 locs1 → W p l e R s m args below meth c H1 locs1 (cells + mc) (slots + ms) Q (F0 m (pc + 3) ls (.double r :: rest))) : W p l e R s m args below meth c H locs cells slots Q (F0 m pc ls st0) := by
  intro T hT X
  rcases hr T hT X with ⟨v, st₀, t, T', L, h0, X', hL, e1, e2, ⟨⟨r, u, hv, hp, hb⟩, hF⟩, st⟩ | ⟨q, st₀, t, T', L, E, ce, h0, X', hL, e1, e2, ⟨u, hp, hb, hF⟩, hce, hcv, hcl, st⟩
  · cases hv
    obtain ⟨k1, k2, k3⟩ := vx_keep h0 e1 hS hA hf hL hF
    obtain ⟨t2, a1, b1⟩ := kk r u t T'.heap (locs ++ L) e1.symm (by rw [← e2]; exact X'.warmed.alike) hp hb k1 k2 k3 T' rfl X'
    exact ⟨t2, st t2 a1, b1⟩
  · obtain ⟨k1, k2, k3⟩ := vx_keep h0 e1 hS hAX hf hL hF
    obtain ⟨t2, a1, b1⟩ := kx E ce q u t T'.heap (locs ++ L) e1.symm (by rw [← e2]; exact X'.warmed.alike) hp hb k1 k2 k3 (by rw [e1]; exact hce) hcv hcl T' rfl X'
    exact ⟨t2, st.trans a1, b1⟩
theorem vx_callv {S SX : Type} {post : S → Prop} {px : SX → Prop} {B : S → State → Prop} {BX : String → SX → State → Prop} {AX : Nat → Prop} (hr : vx_Run p l e R s m args below meth c H locs cells slots mc ms (F0 m pc ls st0) rest (va_Qv post B A1 a) (vx_X px BX AX) free) (hS : va_S A0 H0 H locs) (hA : ∀ q, q < H.size → A1 q → A0 q) (hf : ∀ q, free q → A0 q) (hAX : ∀ q, q < H.size → AX q → A0 q)
    (kx : ∀ (E : String) (ce : Cell) (q9 : Addr) (u : SX) (t : State) (H1 : Heap) (locs1 : List Loc), t.heap = H1 → s.vm.Alike t.vm → px u → BX E u t → H.size ≤ H1.size → (∀ q : Nat, q < H.size → ¬ AX q → H1[q]? = H[q]?) → va_S A0 H0 H1 locs1 → H1[q9]? = some ce → ce.vm = .none → s.vm.findClass E = some ce.cls → vx_W p l e R s m args below meth c H1 locs1 (cells + mc) (slots + ms) Q (F0 m pc ls rest) q9)
    (kk : ∀ (u : S) (t : State) (H1 : Heap) (locs1 : List Loc), t.heap = H1 → s.vm.Alike t.vm → post u → B u t → H.size ≤ H1.size → (∀ q : Nat, q < H.size → ¬ A1 q → H1[q]? = H[q]?) → va_S A0 H0 H1 locs1 → W p l e R s m args below meth c H1 locs1 (cells + mc) (slots + ms) Q (F0 m (pc + 3) ls (rest))) : W p l e R s m args below meth c H locs cells slots Q (F0 m pc ls st0) := by
  intro T hT X
  rcases hr T hT X with ⟨v, st₀, t, T', L, h0, X', hL, e1, e2, ⟨⟨u, hv, hp, hb⟩, hF⟩, st⟩ | ⟨q, st₀, t, T', L, E, ce, h0, X', hL, e1, e2, ⟨u, hp, hb, hF⟩, hce, hcv, hcl, st⟩
  · cases hv
    obtain ⟨k1, k2, k3⟩ := vx_keep h0 e1 hS hA hf hL hF
    obtain ⟨t2, a1, b1⟩ := kk u t T'.heap (locs ++ L) e1.symm (by rw [← e2]; exact X'.warmed.alike) hp hb k1 k2 k3 T' rfl X'
    exact ⟨t2, st t2 a1, b1⟩
  · obtain ⟨k1, k2, k3⟩ := vx_keep h0 e1 hS hAX hf hL hF
    obtain ⟨t2, a1, b1⟩ := kx E ce q u t T'.heap (locs ++ L) e1.symm (by rw [← e2]; exact X'.warmed.alike) hp hb k1 k2 k3 (by rw [e1]; exact hce) hcv hcl T' rfl X'
    exact ⟨t2, st.trans a1, b1⟩
/-- caught by the row x of this method's table; the rows ahead don't take it -/
theorem vx_catch {own name : String} {E : String} {ce : Cell} {q : Addr} (hown : s.vm.findClass own = some m.cls) (pre : List ExceptionTableEntry) (x : ExceptionTableEntry) (suf : List ExceptionTableEntry) (hsplit : c.exceptionTable.toList = pre ++ x :: suf)
    (hpass : ∀ z ∈ pre, covers z pc = false ∨ (z.catchType ≠ 0 ∧ ∃ nm : String, (Cond.classLink own z.catchType nm).before args s = true ∧ va_Nc E nm s)) (hx : covers x pc = true) (h0 : x.catchType ≠ 0)
    (hlink : (Cond.classLink own x.catchType name).before args s = true) (hcast : (Cond.castable E name).before args s = true) (hcell : H[q]? = some ce) (hv : ce.vm = .none) (hcl : s.vm.findClass E = some ce.cls)
    (kk : W p l e R s m args below meth c H locs cells slots Q (F0 m x.handlerPc ls [.ref q])) : vx_W p l e R s m args below meth c H locs cells slots Q (F0 m pc ls rest) q := by
  intro T hT X
  have hpl : e.platform.magicAccessors = ({} : Platform).magicAccessors := by rw [X.admits.platform]
  obtain ⟨c3, c4, hc3, hc4, hasg⟩ := Cond.castable_spec hcast
  cases Option.some.inj (hc3.symm.trans hcl)
  obtain ⟨c5, hc5, hcl5⟩ := Cond.classLink_spec hown hlink e.platform hpl
  cases Option.some.inj (hc4.symm.trans hc5)
  obtain ⟨vm', X', st⟩ := X.thenCaughtThrough q (g := F0 m pc ls rest) rfl (Steps.refl _) (by rw [hT]; exact hcell) (by rw [hv]; rfl) (by obtain ⟨k9, h9, -⟩ := Vm.findClass_spec hcl; exact ⟨k9, h9⟩) pre x suf hsplit
    (fun z hz => by
      rcases hpass z hz with h | ⟨hz0, nm, hl1, hn1⟩
      · exact Or.inl h
      · obtain ⟨c6, hc6, hcl6⟩ := Cond.classLink_spec hown hl1 e.platform hpl
        obtain ⟨a8, b8, h1, h2, h3⟩ := hn1
        cases Option.some.inj (h1.symm.trans hcl)
        cases Option.some.inj (h2.symm.trans hc6)
        exact Or.inr ⟨hz0, _, hcl6, h3⟩) hx (Or.inr ⟨h0, c4, hcl5, hasg⟩)
  obtain ⟨t, a1, b1⟩ := kk (T.setVm vm') hT X'
  exact ⟨t, st.trans a1, b1⟩
end Rows
section Ends
variable {p : Program} {l : Launch} {e : Env} {R : Room} {s : State} {m : MethodId} {args : Array Value} {below : List Frame} {meth : Method} {c : Code} {H : Heap} {locs : List Loc} {cells slots : Nat} {Q : State → Prop}
variable {mc ms : Nat} {free : Addr → Prop} {A0 A1 : Nat → Prop} {H0 : Heap} {a : Array Value} {ls : Array Slot} {st0 rest : List Value}
variable {Qc : Array Value → State → Outcome → State → Prop} {XC : String → State → State → Prop}
/-- what a body that may throw owes at its end -/
def vx_MQ (below : List Frame) (Qc : Array Value → State → Outcome → State → Prop) (XC : String → State → State → Prop) (a : Array Value) (s : State) (mc ms : Nat) (free : Addr → Prop) : State → Prop := fun t =>
  ∃ o, t.status = .running ∧ Ended t below o ∧ vx_Q Qc XC mc ms free a s o t
theorem vx_ret {g : JFrame} {mc ms : Nat} (k : W p l e R s m args below meth c H locs cells slots (MQ below Qc args s mc ms free) g) : W p l e R s m args below meth c H locs cells slots (vx_MQ below Qc XC args s mc ms free) g := by
  intro T hT X
  obtain ⟨t, a1, o, b1, b2, b3, b4⟩ := k T hT X
  exact ⟨t, a1, o, b1, b2, Or.inl ⟨b3, b4⟩⟩
/-- not caught here: it goes on to the caller -/
theorem vx_widen {g : JFrame} {q : Addr} {k n : Nat} (h1 : cells ≤ k) (h2 : slots ≤ n) (kk : vx_W p l e R s m args below meth c H locs k n Q g q) : vx_W p l e R s m args below meth c H locs cells slots Q g q := fun T hT X => kk T hT (stand_widen X h1 h2)
theorem vx_out {pc : Nat} {E : String} {ce : Cell} {q : Addr} {mc ms : Nat} (hout : ∀ x ∈ c.exceptionTable.toList, covers x pc = false) (hlocks : meth.locks = false) (hcell : H[q]? = some ce) (hv : ce.vm = .none) (hcl : s.vm.findClass E = some ce.cls)
    (hx : ∀ t : State, t.heap = H → s.vm.Alike t.vm → XC E s t) (hf : ∀ z ∈ locs, free z.base) (hc : cells ≤ mc) (hs : slots ≤ ms) :
    vx_W p l e R s m args below meth c H locs cells slots (vx_MQ below Qc XC args s mc ms free) (F0 m pc ls rest) q := by
  intro T hT X
  obtain ⟨st1, hrun, hend, hW, hsm⟩ := X.leaveThrown q (g := F0 m pc ls rest) rfl rfl rfl hout hlocks
  have hcell9 : (T.setFrames (.throwing q :: below)).heap[q]? = some ce := by
    show T.heap[q]? = some ce
    rw [hT]; exact hcell
  exact ⟨_, st1, .threw q, hrun, hend, Or.inr ⟨q, rfl, E, ce, locs, hx _ hT hW.alike, hcell9, hv, hcl, hW, hsm.mono hc hs, hf⟩⟩
theorem vx_frame {U : State} {k n : Nat} (h : s.sameButNew ({ U with vm := s.vm } : State) locs k n) : s.heap.size ≤ U.heap.size ∧ ∀ q : Nat, q < s.heap.size → (∀ z ∈ locs, z.base ≠ q) → U.heap[q]? = s.heap[q]? := by
  obtain ⟨-, h2, -, -, -, h6⟩ := h
  refine ⟨h2, fun q hq hz => ?_⟩
  obtain ⟨c9, e1, e2, e3, e4⟩ := h6 q _ (Array.getElem?_eq_getElem hq)
  have hs : c9.slots = (s.heap[q]).slots := Array.ext_getElem? fun i => e4 i fun hm => hz _ hm rfl
  have h9 : c9 = s.heap[q] := by
    rw [hs] at e2
    exact e2
  have e5 : U.heap[q]? = some c9 := e1
  rw [e5, h9, Array.getElem?_eq_getElem hq]
/-- the words of a throw but the four that speak of the heap -/
def vx_no (w : Cond) : Bool := decide (w ≠ .isRef (.static Bundle.tN "UNASSIGNED_STACK" Bundle.steD)) && decide (w ≠ .isRef (.static Bundle.tN "SUPPRESSED_SENTINEL" Bundle.listD)) && decide (w ≠ .laysStatic Bundle.tN "UNASSIGNED_STACK" Bundle.steD) && decide (w ≠ .laysStatic Bundle.tN "SUPPRESSED_SENTINEL" Bundle.listD)
def vx_at0 (own : String) (ic : Nat) (X : String) (names : List String) : List Cond := (Bundle.ownAtoms0 own ic X names).filter vx_no
def vx_atS (own : String) (ic : Nat) (X : String) (names : List String) : List Cond := (Bundle.ownAtoms own ic X names).filter vx_no
/-- a word that the tables alone decide, or a good one -/
def vx_ot (w : Cond) : Bool := w.onTables || goodWord w
theorem vx_ot_at {args a' : Array Value} {s U : State} {w : Cond} (hW : s.WarmedH U.vm) (hvm : s.vm = U.vm) (hg : vx_ot w = true) (h : w.before args s = true) : w.before a' U = true := by
  simp only [vx_ot, Bool.or_eq_true] at hg
  rcases hg with hg | hg
  · exact va_tabs hg hvm h
  · exact word_at hW (good_of_word hg) h
/-- a list's words: the good ones out of the method's own list, the others by premises of their own -/
theorem vx_hat {args : Array Value} {s : State} {L B : List Cond} (h1 : ∀ w ∈ L.filter goodWord, w.before args s = true) (h2 : ∀ w ∈ L.filter (fun w => !goodWord w), w ∈ B) (h3 : ∀ w ∈ B, w.before args s = true) : ∀ w ∈ L, w.before args s = true := by
  intro w hw
  by_cases g : goodWord w = true
  · exact h1 w (List.mem_filter.mpr ⟨hw, g⟩)
  · refine h3 w (h2 w (List.mem_filter.mpr ⟨hw, ?_⟩))
    show (!goodWord w) = true
    cases hgw : goodWord w
    · rfl
    · exact absurd hgw g
theorem vx_c {args : Array Value} {s : State} {w : Cond} {B : List Cond} (h : w.before args s = true) (t : ∀ w ∈ B, w.before args s = true) : ∀ w' ∈ w :: B, w'.before args s = true := fun w' h' => (List.mem_cons.mp h').elim (fun e => by rw [e]; exact h) (t w')
theorem vx_n {args : Array Value} {s : State} : ∀ w ∈ ([] : List Cond), w.before args s = true := fun _ h => nomatch h
theorem vx_own {args : Array Value} {s : State} {L : List Cond} (h1 : ∀ w ∈ L.filter vx_no, w.before args s = true)
    (hU : (Cond.isRef (.static Bundle.tN "UNASSIGNED_STACK" Bundle.steD)).before args s = true) (hN : (Cond.isRef (.static Bundle.tN "SUPPRESSED_SENTINEL" Bundle.listD)).before args s = true)
    (lU : (Cond.laysStatic Bundle.tN "UNASSIGNED_STACK" Bundle.steD).before args s = true) (lN : (Cond.laysStatic Bundle.tN "SUPPRESSED_SENTINEL" Bundle.listD).before args s = true) : ∀ w ∈ L, w.before args s = true := by
  intro w hw
  by_cases e1 : w = .isRef (.static Bundle.tN "UNASSIGNED_STACK" Bundle.steD)
  · rw [e1]; exact hU
  · by_cases e2 : w = .isRef (.static Bundle.tN "SUPPRESSED_SENTINEL" Bundle.listD)
    · rw [e2]; exact hN
    · by_cases e3 : w = .laysStatic Bundle.tN "UNASSIGNED_STACK" Bundle.steD
      · rw [e3]; exact lU
      · by_cases e4 : w = .laysStatic Bundle.tN "SUPPRESSED_SENTINEL" Bundle.listD
        · rw [e4]; exact lN
        · exact h1 w (List.mem_filter.mpr ⟨hw, by unfold vx_no; rw [decide_eq_true e1, decide_eq_true e2, decide_eq_true e3, decide_eq_true e4]; rfl⟩)
/-- where a static field lies, its class's statics cell in H -/
def vx_L (C n d : String) (A : Nat → Prop) (U : State) (H : Heap) : Prop := ∃ (c : ClassId) (k : Class) (i : Nat) (f : Field) (a : Nat) (cell : Cell), U.vm.findClass C = some c ∧ U.fieldFound? C n d = some (c, k, i, f) ∧ f.isStatic = true ∧ k.statics = some a ∧ H[a]? = some cell ∧ cell.vm.isStatics = true ∧ cell.cls = c ∧ f.slot < cell.slots.size ∧ k.staticTypes[f.slot]? = some f.type ∧ ¬ A a
theorem vx_L.moved {C n d : String} {A : Nat → Prop} {u U : State} {H : Heap} (hvm : u.vm.Alike U.vm) (h : vx_L C n d A u H) : vx_L C n d A U H := by
  obtain ⟨c, k, i, f, a, cell, h1, h2, h3, h4, h5, h6, h7, h8, h9, h10⟩ := h
  obtain ⟨k', hi', he⟩ := State.fieldFound?_setVm hvm h2
  exact ⟨c, k', i, f, a, cell, by rw [hvm.findClass]; exact h1, hi', h3, by rw [he]; exact h4, h5, h6, h7, h8, by rw [he]; exact h9, h10⟩
theorem vx_L.kept {C n d : String} {A : Nat → Prop} {U : State} {H H1 : Heap} (h : vx_L C n d A U H) (hq : ∀ a : Nat, a < H.size → ¬ A a → H1[a]? = H[a]?) : vx_L C n d A U H1 := by
  obtain ⟨c, k, i, f, a, cell, h1, h2, h3, h4, h5, h6, h7, h8, h9, h10⟩ := h
  exact ⟨c, k, i, f, a, cell, h1, h2, h3, h4, by rw [hq a (Array.getElem?_eq_some_iff.mp h5).1 h10]; exact h5, h6, h7, h8, h9, h10⟩
theorem vx_L.narrow {C n d : String} {A B : Nat → Prop} {U : State} {H : Heap} (h : vx_L C n d A U H) (hAB : ∀ q, B q → A q) : vx_L C n d B U H := by
  obtain ⟨c, k, i, f, a, cell, h1, h2, h3, h4, h5, h6, h7, h8, h9, h10⟩ := h
  exact ⟨c, k, i, f, a, cell, h1, h2, h3, h4, h5, h6, h7, h8, h9, fun z => h10 (hAB _ z)⟩
theorem vx_L.word {C n d : String} {A : Nat → Prop} {s : State} {args : Array Value} (h : vx_L C n d A s s.heap) : (Cond.laysStatic C n d).before args s = true := by
  obtain ⟨c, k, i, f, a, cell, h1, h2, h3, h4, h5, h6, h7, h8, h9, -⟩ := h
  show (Cond.laysStatic C n d).holds args s none s [] = true
  exact Cond.laysStatic_of h1 h2 h3 h4 h5 h6 h7 h8 h9
/-- .. and what it holds: null or some reference -/
def vx_Zq (C n d : String) (A : Nat → Prop) (U : State) (H : Heap) : Prop := va_Zq C n d A U H ∧ vx_L C n d A U H
theorem vx_Zq.moved {C n d : String} {A : Nat → Prop} {u U : State} {H : Heap} (hvm : u.vm.Alike U.vm) (h : vx_Zq C n d A u H) : vx_Zq C n d A U H := ⟨va_Zq.moved hvm h.1, vx_L.moved hvm h.2⟩
theorem vx_Zq.kept {C n d : String} {A : Nat → Prop} {U : State} {H H1 : Heap} (h : vx_Zq C n d A U H) (hq : ∀ a : Nat, a < H.size → ¬ A a → H1[a]? = H[a]?) : vx_Zq C n d A U H1 := ⟨va_Zq.kept h.1 hq, vx_L.kept h.2 hq⟩
theorem vx_Zq.narrow {C n d : String} {A B : Nat → Prop} {U : State} {H : Heap} (h : vx_Zq C n d A U H) (hAB : ∀ q, B q → A q) : vx_Zq C n d B U H := ⟨va_Zq.narrow h.1 hAB, vx_L.narrow h.2 hAB⟩
theorem vx_Zqof {args : Array Value} {s : State} {C n d : String} {A : Nat → Prop} (hl : (Cond.laysStatic C n d).before args s = true) (hini : (Cond.initialized C).before args s = true) (h : (Cond.isRef (.static C n d)).before args s = true) (hA : ∀ a : Nat, a < s.heap.size → ¬ A a) : vx_Zq C n d A s s.heap := by
  refine ⟨va_Zqof hl hini h hA, ?_⟩
  obtain ⟨c, k, i, f, a, cell, h1, h2, h3, h4, h5, h6, h7, h8, h9⟩ := Cond.laysStatic_spec hl
  exact ⟨c, k, i, f, a, cell, h1, h2, h3, h4, h5, h6, h7, h8, h9, hA a (Array.getElem?_eq_some_iff.mp h5).1⟩
theorem vx_isRef {C n d : String} {v : Value} {A : Nat → Prop} {s : State} {args : Array Value} (h : va_Z C n d v A s s.heap) (hv : v.isRef = true) : (Cond.isRef (.static C n d)).before args s = true := by
  obtain ⟨cf, kf, fi, f, a, cell, h1, h2, h3, h4, h5, h6, h7, -⟩ := h
  have he : (Term.static C n d).eval args s none [] s = some v := by
    simp [Term.eval, State.fieldNamed?, h1, h2, h4, h5, h6, h7]
  simp only [Cond.before, Cond.holds, Cond.value, he]
  cases v <;> simp_all [Value.isRef]
theorem vx_isRefq {C n d : String} {A : Nat → Prop} {s : State} {args : Array Value} (h : va_Zq C n d A s s.heap) : (Cond.isRef (.static C n d)).before args s = true := by
  rcases h with h | ⟨t, h⟩
  · exact vx_isRef h rfl
  · exact vx_isRef h rfl
/-- the same frame, seen from here: as if the method were called anew in this heap -/
theorem vx_rebase {T : State} (X : Stand p l e R s m args below meth c T locs cells slots) {R' : Room} (hf : R'.frames ≤ R.frames) (hl : R'.locals ≤ R.locals) (hc : cells + R'.cells ≤ R.cells) (hs : slots + R'.slots ≤ R.slots) :
    Stand p l e R' ((T.setVm s.vm).setFrames (.invoking m args :: below)) m args below meth c T [] 0 0 := by
  have htop : (T.setVm s.vm).topJava?.isSome := X.here.top
  have hF : ((T.setVm s.vm).setFrames (.invoking m args :: below)).frames = .invoking m args :: below := State.frames_setFrames _ (State.cur_lt_of_top htop)
  obtain ⟨g₀, hg0⟩ := Option.isSome_iff_exists.mp htop
  obtain ⟨r, hr⟩ := State.topJava?_eq_some.mp hg0
  have hl9 : e.platform.stackLimits (T.setVm s.vm).me = e.platform.stackLimits s.me := X.limits
  have hb9 : (T.setVm s.vm).me.stackBytes = s.me.stackBytes := X.bytes
  refine ⟨X.admits, X.cas, X.clock, hF, ?_, X.hears, X.method, X.code, X.here, X.tail, X.warmed, ?_, ?_, ?_⟩
  · have h := X.room
    have hU : ((T.setVm s.vm).setFrames (.invoking m args :: below)).localsInUse = s.localsInUse := by
      rw [State.localsInUse_invoking hF (meth := meth) (c := c) X.method X.code, State.localsInUse_invoking X.frames X.method X.code]
    simp only [State.hasRoom, Bool.and_eq_true, decide_eq_true_eq] at h ⊢
    obtain ⟨⟨⟨⟨h1, h2, h3, h4, h5, h6⟩, h7⟩, h8⟩, h9⟩ := h
    rw [X.frames, List.length_cons] at h2 h3
    have q1 := X.heapSize
    have q2 := X.used
    simp only [hF, hU, List.length_cons, State.stackLimits_setFrames, State.stackBytes_setFrames, hl9, hb9]
    refine ⟨⟨⟨⟨by omega, by omega, by omega, by omega, by omega, h6⟩, ?_⟩, ?_⟩, X.book⟩
    · show T.heap.size + R'.cells ≤ e.platform.maxCells
      omega
    · show T.slotsUsed + R'.slots ≤ e.platform.maxSlots
      omega
  · rw [State.stackLimits_setFrames]; rfl
  · rw [State.stackBytes_setFrames]; rfl
  · refine ⟨?_, Nat.le_refl _, Nat.le_refl _, ?_, ?_, fun a c9 h9 => ⟨c9, h9, rfl, rfl, fun _ _ => rfl⟩⟩
    · obtain ⟨t, ht, -⟩ := State.frames_cons hr
      show T.setVm s.vm = { ((T.setVm s.vm).setFrames (.invoking m args :: below)).setFrames (T.setVm s.vm).frames with heap := T.heap, slotsUsed := T.slotsUsed }
      rw [State.setFrames_setFrames, State.setFrames_self ht]
      rfl
    · show T.slotsUsed = T.slotsUsed + ((T.heap.toList.drop T.heap.size).map (·.slots.size)).sum
      rw [List.drop_eq_nil_of_le (Nat.le_of_eq Array.length_toList)]
      rfl
    · show ((T.heap.toList.drop T.heap.size).map (·.slots.size)).sum ≤ 0
      rw [List.drop_eq_nil_of_le (Nat.le_of_eq Array.length_toList)]
      exact Nat.le_refl _
/-- 'throw new E()': new; dup; invokespecial; athrow -/
theorem vx_throw0 {cc : ByteArray} {pc : Nat} (hexec : p.tables.exec = Jvm.exec) (hb : c.code = cc) (hl : l.stackTraces = false) {own cls : String} {names : List String} {ik ic mc ms : Nat} {A : Nat → Prop}
    (hown : s.vm.findClass own = some m.cls) (hcls : Bundle.fit cls = true) (hnames : ∀ n ∈ names, Bundle.fit n = true)
    (hk : (Cond.classLink own ik cls).before args s = true) (hini : (Cond.initialized cls).before args s = true) (hat : ∀ w ∈ vx_at0 own ic cls names, w.before args s = true)
    (hgood : ∀ w ∈ Cond.classLink own ik cls :: Cond.initialized cls :: vx_at0 own ic cls names, vx_ot w = true)
    (hU : vx_Zq Bundle.tN "UNASSIGNED_STACK" Bundle.steD A s s.heap) (hN : vx_Zq Bundle.tN "SUPPRESSED_SENTINEL" Bundle.listD A s s.heap) (hS : va_S A s.heap H locs) (hsize : ls.size = c.maxLocals)
    (d0 : decode cc pc = .ok (.new ik, 3)) (d3 : decode cc (pc + 3) = .ok (.dup, 1)) (d4 : decode cc (pc + 4) = .ok (.invokespecial ic, 3)) (d7 : decode cc (pc + 7) = .ok (.athrow, 1))
    (hout : ∀ x ∈ c.exceptionTable.toList, covers x (pc + 7) = false)
    (hRframes : names.length + 3 < R.frames) (hRlocals : (rest.map fun v => v.category).sum + (13 * (names.length + 1) + 42) ≤ R.locals) (hRcells : cells + 1 ≤ R.cells) (hRslots : slots + 6 ≤ R.slots) (hlocks : meth.locks = false)
    (hx : ∀ t : State, s.vm.Alike t.vm → H.size ≤ t.heap.size → (∀ q : Nat, q < H.size → t.heap[q]? = H[q]?) → XC cls s t)
    (hf : ∀ z ∈ locs, free z.base) (hc : cells + 1 ≤ mc) (hs : slots + 6 ≤ ms) :
    W p l e R s m args below meth c H locs cells slots (vx_MQ below Qc XC args s mc ms free) (F0 m pc ls rest) := by
  intro T hT X
  have htr : e.platform.stackTraces = false := (show e.platform.stackTraces = l.stackTraces by rw [X.admits.platform]).trans hl
  have Y := vx_rebase X (R' := { frames := R.frames, locals := R.locals, cells := 1, slots := 6 }) (Nat.le_refl _) (Nat.le_refl _) hRcells hRslots
  obtain ⟨s', hA⟩ : ∃ z, z = (T.setVm s.vm).setFrames (.invoking m args :: below) := ⟨_, rfl⟩
  rw [← hA] at Y
  have hvm : s'.vm = s.vm := by rw [hA]; rfl
  have hhp : s'.heap = H := by rw [hA]; exact hT
  have hW0 : s.WarmedH s'.vm := by rw [hvm]; exact State.WarmedH.refl s
  have hat' : ∀ w ∈ vx_at0 own ic cls names, w.before args s' = true := fun w hw => vx_ot_at hW0 hvm.symm (hgood w (List.mem_cons_of_mem _ (List.mem_cons_of_mem _ hw))) (hat w hw)
  have hk' : (Cond.classLink own ik cls).before args s' = true := vx_ot_at hW0 hvm.symm (hgood _ List.mem_cons_self) hk
  have hini' : (Cond.initialized cls).before args s' = true := vx_ot_at hW0 hvm.symm (hgood _ (List.mem_cons_of_mem _ List.mem_cons_self)) hini
  have hU' : vx_Zq Bundle.tN "UNASSIGNED_STACK" Bundle.steD A s' s'.heap := by rw [hhp]; exact vx_Zq.moved hW0.alike (hU.kept hS.2.1)
  have hN' : vx_Zq Bundle.tN "SUPPRESSED_SENTINEL" Bundle.listD A s' s'.heap := by rw [hhp]; exact vx_Zq.moved hW0.alike (hN.kept hS.2.1)
  have h : ∀ w ∈ Bundle.ownAtoms0 own ic cls names, w.before args s' = true := vx_own hat' (vx_isRefq hU'.1) (vx_isRefq hN'.1) hU'.2.word hN'.2.word
  have hown' : s'.vm.findClass own = some m.cls := by rw [hvm]; exact hown
  have hins : (Cond.instantiable cls 6).before args s' = true := h _ (by simp [Bundle.ownAtoms0])
  obtain ⟨vm₁, cX, kX, hfX, hkX, -, -, X₁, st1⟩ := Y.newCold hexec (own := own) (C := cls) (index := ik) (n := 6) hown' hk' hins hini'
    (g := F0 m pc ls rest) rfl (by rw [hb]; exact d0) (Nat.le_refl _) (Nat.le_refl _)
  generalize hT1 : (T.setVm vm₁).pushCell { cls := cX, slots := kX.instanceTypes.map defaultValue, vm := .none } = T1 at X₁ st1
  have hcat : (Value.ref T.heap.size).category = 1 := rfl
  have hcellA : T1.heap[T.heap.size]? = some (freshCell cX kX) := by rw [← hT1]; exact State.heap_pushCell_size _ _
  have d3' : decode c.code (pc + 3) = .ok (.dup, 1) := by rw [hb]; exact d3
  obtain ⟨U, hsteps, hrun, hend, hW, hsame, ce, hce, hO⟩ := X₁.ctorThrow0 hexec htr (own := own) (cls := cls) (names := names) (ic := ic) hown' hcls hnames h (fun x hx => nomatch hx) hfX hkX hcellA (by rw [hhp, hT]; exact Nat.le_refl _)
    (g := { method := m, pc := pc + 4, locals := ls, stack := .ref T.heap.size :: .ref T.heap.size :: rest, locked := none }) rfl hsize rfl rfl (rest := rest) rfl
    (by rw [hb]; exact d4) (by rw [hb]; exact d7) hout hRframes (by simp only [List.map_cons, List.sum_cons, hcat]; omega) hlocks
  obtain ⟨f1, f2⟩ := vx_frame hsame
  rw [hhp] at f1 f2
  have hWs : s.WarmedH U.vm := State.WarmedH.trans hW0 hW
  have hcl : s.vm.findClass cls = some ce.cls := by
    have h9 := hO.cls
    rw [hvm] at h9
    exact h9
  have hall : s.sameButNew ({ U with vm := s.vm } : State) locs mc ms := by
    subst hA
    obtain ⟨e1, e2⟩ := hsame
    rw [State.setFrames_setFrames] at e1
    have h2 : (T.setVm s.vm).sameButNew ({ U with vm := s.vm } : State) [] (0 + 1) (0 + 6) := ⟨e1, e2⟩
    have h3 := X.same.trans h2
    rw [List.append_nil] at h3
    exact h3.mono hc hs
  refine ⟨U, ?_, .threw T.heap.size, hrun, hend, Or.inr ⟨T.heap.size, rfl, cls, ce, locs, hx U hWs.alike f1 (fun q hq => f2 q hq (fun z hz => nomatch hz)), hce, hO.vm, hcl, hWs, hall, hf⟩⟩
  refine st1 _ ?_
  show Steps p.tables e below (T1.setTop { method := m, pc := pc + 3, locals := ls, stack := .ref T.heap.size :: rest, locked := none }) _
  jvm_step X₁.here [X₁.here.top, hexec, d3', Value.category]
  exact hsteps
/-- 'throw new E("text")': new; dup; ldc; invokespecial; athrow -/
theorem vx_throwS {cc : ByteArray} {pc : Nat} (hexec : p.tables.exec = Jvm.exec) (hb : c.code = cc) (hl : l.stackTraces = false) {own cls text : String} {names : List String} {ik is ic mc ms sa : Nat} {A : Nat → Prop}
    (hown : s.vm.findClass own = some m.cls) (hcls : Bundle.fit cls = true) (hnames : ∀ n ∈ names, Bundle.fit n = true)
    (hk : (Cond.classLink own ik cls).before args s = true) (hini : (Cond.initialized cls).before args s = true) (hstr : vk_R own is text sa s) (hat : ∀ w ∈ vx_atS own ic cls names, w.before args s = true)
    (hgood : ∀ w ∈ Cond.classLink own ik cls :: Cond.initialized cls :: vx_atS own ic cls names, vx_ot w = true)
    (hU : vx_Zq Bundle.tN "UNASSIGNED_STACK" Bundle.steD A s s.heap) (hN : vx_Zq Bundle.tN "SUPPRESSED_SENTINEL" Bundle.listD A s s.heap) (hS : va_S A s.heap H locs) (hsize : ls.size = c.maxLocals)
    (d0 : decode cc pc = .ok (.new ik, 3)) (d3 : decode cc (pc + 3) = .ok (.dup, 1)) (d4 : decode cc (pc + 4) = .ok (.ldc is, 2)) (d6 : decode cc (pc + 6) = .ok (.invokespecial ic, 3)) (d9 : decode cc (pc + 9) = .ok (.athrow, 1))
    (hout : ∀ x ∈ c.exceptionTable.toList, covers x (pc + 9) = false)
    (hRframes : names.length + 3 < R.frames) (hRlocals : (rest.map fun v => v.category).sum + (13 * (names.length + 1) + 43) ≤ R.locals) (hRcells : cells + 1 ≤ R.cells) (hRslots : slots + 6 ≤ R.slots) (hlocks : meth.locks = false)
    (hx : ∀ t : State, s.vm.Alike t.vm → H.size ≤ t.heap.size → (∀ q : Nat, q < H.size → t.heap[q]? = H[q]?) → XC cls s t)
    (hf : ∀ z ∈ locs, free z.base) (hc : cells + 1 ≤ mc) (hs : slots + 6 ≤ ms) :
    W p l e R s m args below meth c H locs cells slots (vx_MQ below Qc XC args s mc ms free) (F0 m pc ls rest) := by
  intro T hT X
  have htr : e.platform.stackTraces = false := (show e.platform.stackTraces = l.stackTraces by rw [X.admits.platform]).trans hl
  have Y := vx_rebase X (R' := { frames := R.frames, locals := R.locals, cells := 1, slots := 6 }) (Nat.le_refl _) (Nat.le_refl _) hRcells hRslots
  obtain ⟨s', hA⟩ : ∃ z, z = (T.setVm s.vm).setFrames (.invoking m args :: below) := ⟨_, rfl⟩
  rw [← hA] at Y
  have hvm : s'.vm = s.vm := by rw [hA]; rfl
  have hhp : s'.heap = H := by rw [hA]; exact hT
  have hW0 : s.WarmedH s'.vm := by rw [hvm]; exact State.WarmedH.refl s
  have hat' : ∀ w ∈ vx_atS own ic cls names, w.before args s' = true := fun w hw => vx_ot_at hW0 hvm.symm (hgood w (List.mem_cons_of_mem _ (List.mem_cons_of_mem _ hw))) (hat w hw)
  have hk' : (Cond.classLink own ik cls).before args s' = true := vx_ot_at hW0 hvm.symm (hgood _ List.mem_cons_self) hk
  have hini' : (Cond.initialized cls).before args s' = true := vx_ot_at hW0 hvm.symm (hgood _ (List.mem_cons_of_mem _ List.mem_cons_self)) hini
  have hU' : vx_Zq Bundle.tN "UNASSIGNED_STACK" Bundle.steD A s' s'.heap := by rw [hhp]; exact vx_Zq.moved hW0.alike (hU.kept hS.2.1)
  have hN' : vx_Zq Bundle.tN "SUPPRESSED_SENTINEL" Bundle.listD A s' s'.heap := by rw [hhp]; exact vx_Zq.moved hW0.alike (hN.kept hS.2.1)
  have h : ∀ w ∈ Bundle.ownAtoms own ic cls names, w.before args s' = true := vx_own hat' (vx_isRefq hU'.1) (vx_isRefq hN'.1) hU'.2.word hN'.2.word
  have hown' : s'.vm.findClass own = some m.cls := by rw [hvm]; exact hown
  have hins : (Cond.instantiable cls 6).before args s' = true := h _ (by simp [Bundle.ownAtoms])
  obtain ⟨vm₁, cX, kX, hfX, hkX, -, -, X₁, st1⟩ := Y.newCold hexec (own := own) (C := cls) (index := ik) (n := 6) hown' hk' hins hini'
    (g := F0 m pc ls rest) rfl (by rw [hb]; exact d0) (Nat.le_refl _) (Nat.le_refl _)
  generalize hT1 : (T.setVm vm₁).pushCell { cls := cX, slots := kX.instanceTypes.map defaultValue, vm := .none } = T1 at X₁ st1
  have hcat : (Value.ref T.heap.size).category = 1 := rfl
  have hcellA : T1.heap[T.heap.size]? = some (freshCell cX kX) := by rw [← hT1]; exact State.heap_pushCell_size _ _
  have d3' : decode c.code (pc + 3) = .ok (.dup, 1) := by rw [hb]; exact d3
  have d4' : decode c.code (pc + 4) = .ok (.ldc is, 2) := by rw [hb]; exact d4
  have hstr' : vk_R own is text sa s' := vk_R.warm hW0 hstr
  obtain ⟨U, hsteps, hrun, hend, hW, hsame, ce, hce, hO⟩ := X₁.ctorThrowS hexec htr (own := own) (cls := cls) (names := names) (ic := ic) hown' hcls hnames h (fun x hx => nomatch hx) hfX hkX hcellA (by rw [hhp, hT]; exact Nat.le_refl _) (msg := .ref sa) rfl
    (g := { method := m, pc := pc + 6, locals := ls, stack := .ref sa :: .ref T.heap.size :: .ref T.heap.size :: rest, locked := none }) rfl hsize rfl rfl (rest := rest) rfl
    (by rw [hb]; exact d6) (by rw [hb]; exact d9) hout hRframes (by simp only [List.map_cons, List.sum_cons, hcat]; omega) hlocks
  obtain ⟨f1, f2⟩ := vx_frame hsame
  rw [hhp] at f1 f2
  have hWs : s.WarmedH U.vm := State.WarmedH.trans hW0 hW
  have hcl : s.vm.findClass cls = some ce.cls := by
    have h9 := hO.cls
    rw [hvm] at h9
    exact h9
  have hall : s.sameButNew ({ U with vm := s.vm } : State) locs mc ms := by
    subst hA
    obtain ⟨e1, e2⟩ := hsame
    rw [State.setFrames_setFrames] at e1
    have h2 : (T.setVm s.vm).sameButNew ({ U with vm := s.vm } : State) [] (0 + 1) (0 + 6) := ⟨e1, e2⟩
    have h3 := X.same.trans h2
    rw [List.append_nil] at h3
    exact h3.mono hc hs
  refine ⟨U, ?_, .threw T.heap.size, hrun, hend, Or.inr ⟨T.heap.size, rfl, cls, ce, locs, hx U hWs.alike f1 (fun q hq => f2 q hq (fun z hz => nomatch hz)), hce, hO.vm, hcl, hWs, hall, hf⟩⟩
  refine st1 _ ?_
  show Steps p.tables e below (T1.setTop { method := m, pc := pc + 3, locals := ls, stack := .ref T.heap.size :: rest, locked := none }) _
  jvm_step X₁.here [X₁.here.top, hexec, d3', Value.category]
  exact X₁.ldcString hexec (own := own) (text := text) (index := is) (a := sa) hown' hstr'.1 hstr'.2
    (g := { method := m, pc := pc + 4, locals := ls, stack := .ref T.heap.size :: .ref T.heap.size :: rest, locked := none }) rfl d4' _ hsteps
/-- 'throw new E("text")', the text by a wide index -/
theorem vx_throwSW {cc : ByteArray} {pc : Nat} (hexec : p.tables.exec = Jvm.exec) (hb : c.code = cc) (hl : l.stackTraces = false) {own cls text : String} {names : List String} {ik is ic mc ms sa : Nat} {A : Nat → Prop}
    (hown : s.vm.findClass own = some m.cls) (hcls : Bundle.fit cls = true) (hnames : ∀ n ∈ names, Bundle.fit n = true)
    (hk : (Cond.classLink own ik cls).before args s = true) (hini : (Cond.initialized cls).before args s = true) (hstr : vk_R own is text sa s) (hat : ∀ w ∈ vx_atS own ic cls names, w.before args s = true)
    (hgood : ∀ w ∈ Cond.classLink own ik cls :: Cond.initialized cls :: vx_atS own ic cls names, vx_ot w = true)
    (hU : vx_Zq Bundle.tN "UNASSIGNED_STACK" Bundle.steD A s s.heap) (hN : vx_Zq Bundle.tN "SUPPRESSED_SENTINEL" Bundle.listD A s s.heap) (hS : va_S A s.heap H locs) (hsize : ls.size = c.maxLocals)
    (d0 : decode cc pc = .ok (.new ik, 3)) (d3 : decode cc (pc + 3) = .ok (.dup, 1)) (d4 : decode cc (pc + 4) = .ok (.ldc_w is, 3)) (d7 : decode cc (pc + 7) = .ok (.invokespecial ic, 3)) (d10 : decode cc (pc + 10) = .ok (.athrow, 1))
    (hout : ∀ x ∈ c.exceptionTable.toList, covers x (pc + 10) = false)
    (hRframes : names.length + 3 < R.frames) (hRlocals : (rest.map fun v => v.category).sum + (13 * (names.length + 1) + 43) ≤ R.locals) (hRcells : cells + 1 ≤ R.cells) (hRslots : slots + 6 ≤ R.slots) (hlocks : meth.locks = false)
    (hx : ∀ t : State, s.vm.Alike t.vm → H.size ≤ t.heap.size → (∀ q : Nat, q < H.size → t.heap[q]? = H[q]?) → XC cls s t)
    (hf : ∀ z ∈ locs, free z.base) (hc : cells + 1 ≤ mc) (hs : slots + 6 ≤ ms) :
    W p l e R s m args below meth c H locs cells slots (vx_MQ below Qc XC args s mc ms free) (F0 m pc ls rest) := by
  intro T hT X
  have htr : e.platform.stackTraces = false := (show e.platform.stackTraces = l.stackTraces by rw [X.admits.platform]).trans hl
  have Y := vx_rebase X (R' := { frames := R.frames, locals := R.locals, cells := 1, slots := 6 }) (Nat.le_refl _) (Nat.le_refl _) hRcells hRslots
  obtain ⟨s', hA⟩ : ∃ z, z = (T.setVm s.vm).setFrames (.invoking m args :: below) := ⟨_, rfl⟩
  rw [← hA] at Y
  have hvm : s'.vm = s.vm := by rw [hA]; rfl
  have hhp : s'.heap = H := by rw [hA]; exact hT
  have hW0 : s.WarmedH s'.vm := by rw [hvm]; exact State.WarmedH.refl s
  have hat' : ∀ w ∈ vx_atS own ic cls names, w.before args s' = true := fun w hw => vx_ot_at hW0 hvm.symm (hgood w (List.mem_cons_of_mem _ (List.mem_cons_of_mem _ hw))) (hat w hw)
  have hk' : (Cond.classLink own ik cls).before args s' = true := vx_ot_at hW0 hvm.symm (hgood _ List.mem_cons_self) hk
  have hini' : (Cond.initialized cls).before args s' = true := vx_ot_at hW0 hvm.symm (hgood _ (List.mem_cons_of_mem _ List.mem_cons_self)) hini
  have hU' : vx_Zq Bundle.tN "UNASSIGNED_STACK" Bundle.steD A s' s'.heap := by rw [hhp]; exact vx_Zq.moved hW0.alike (hU.kept hS.2.1)
  have hN' : vx_Zq Bundle.tN "SUPPRESSED_SENTINEL" Bundle.listD A s' s'.heap := by rw [hhp]; exact vx_Zq.moved hW0.alike (hN.kept hS.2.1)
  have h : ∀ w ∈ Bundle.ownAtoms own ic cls names, w.before args s' = true := vx_own hat' (vx_isRefq hU'.1) (vx_isRefq hN'.1) hU'.2.word hN'.2.word
  have hown' : s'.vm.findClass own = some m.cls := by rw [hvm]; exact hown
  have hins : (Cond.instantiable cls 6).before args s' = true := h _ (by simp [Bundle.ownAtoms])
  obtain ⟨vm₁, cX, kX, hfX, hkX, -, -, X₁, st1⟩ := Y.newCold hexec (own := own) (C := cls) (index := ik) (n := 6) hown' hk' hins hini'
    (g := F0 m pc ls rest) rfl (by rw [hb]; exact d0) (Nat.le_refl _) (Nat.le_refl _)
  generalize hT1 : (T.setVm vm₁).pushCell { cls := cX, slots := kX.instanceTypes.map defaultValue, vm := .none } = T1 at X₁ st1
  have hcat : (Value.ref T.heap.size).category = 1 := rfl
  have hcellA : T1.heap[T.heap.size]? = some (freshCell cX kX) := by rw [← hT1]; exact State.heap_pushCell_size _ _
  have d3' : decode c.code (pc + 3) = .ok (.dup, 1) := by rw [hb]; exact d3
  have d4' : decode c.code (pc + 4) = .ok (.ldc_w is, 3) := by rw [hb]; exact d4
  have hstr' : vk_R own is text sa s' := vk_R.warm hW0 hstr
  obtain ⟨U, hsteps, hrun, hend, hW, hsame, ce, hce, hO⟩ := X₁.ctorThrowS hexec htr (own := own) (cls := cls) (names := names) (ic := ic) hown' hcls hnames h (fun x hx => nomatch hx) hfX hkX hcellA (by rw [hhp, hT]; exact Nat.le_refl _) (msg := .ref sa) rfl
    (g := { method := m, pc := pc + 7, locals := ls, stack := .ref sa :: .ref T.heap.size :: .ref T.heap.size :: rest, locked := none }) rfl hsize rfl rfl (rest := rest) rfl
    (by rw [hb]; exact d7) (by rw [hb]; exact d10) hout hRframes (by simp only [List.map_cons, List.sum_cons, hcat]; omega) hlocks
  obtain ⟨f1, f2⟩ := vx_frame hsame
  rw [hhp] at f1 f2
  have hWs : s.WarmedH U.vm := State.WarmedH.trans hW0 hW
  have hcl : s.vm.findClass cls = some ce.cls := by
    have h9 := hO.cls
    rw [hvm] at h9
    exact h9
  have hall : s.sameButNew ({ U with vm := s.vm } : State) locs mc ms := by
    subst hA
    obtain ⟨e1, e2⟩ := hsame
    rw [State.setFrames_setFrames] at e1
    have h2 : (T.setVm s.vm).sameButNew ({ U with vm := s.vm } : State) [] (0 + 1) (0 + 6) := ⟨e1, e2⟩
    have h3 := X.same.trans h2
    rw [List.append_nil] at h3
    exact h3.mono hc hs
  refine ⟨U, ?_, .threw T.heap.size, hrun, hend, Or.inr ⟨T.heap.size, rfl, cls, ce, locs, hx U hWs.alike f1 (fun q hq => f2 q hq (fun z hz => nomatch hz)), hce, hO.vm, hcl, hWs, hall, hf⟩⟩
  refine st1 _ ?_
  show Steps p.tables e below (T1.setTop { method := m, pc := pc + 3, locals := ls, stack := .ref T.heap.size :: rest, locked := none }) _
  jvm_step X₁.here [X₁.here.top, hexec, d3', Value.category]
  exact X₁.ldcStringW hexec (own := own) (text := text) (index := is) (a := sa) hown' hstr'.1 hstr'.2
    (g := { method := m, pc := pc + 4, locals := ls, stack := .ref T.heap.size :: .ref T.heap.size :: rest, locked := none }) rfl d4' _ hsteps
end Ends
section Bodies
variable {l : Launch}
theorem vx_ofW {y : MethodName} {ws ws' : List Cond} {rm : Room} {Pc : Array Value → State → Prop} {Qc : Array Value → State → Outcome → State → Prop} {XC : String → State → State → Prop} {mc ms : Nat} {free : Addr → Prop} {cc : ByteArray} {maxL : Nat} {ret : Option FieldType}
    (hy : plainName y.cls = true) (hw : ws = Cond.code y cc maxL ret :: ws')
    (body : ∀ p e s m args below meth c s₁, BodyLoose p l y (headSpec ws rm) cc maxL ret e s m args below meth c s₁ → c.maxLocals = maxL → (∀ x ∈ c.exceptionTable.toList, False) → Pc args s →
      W p l e (headSpec ws rm).room s m args below meth c s.heap [] 0 0 (vx_MQ below Qc XC args s mc ms free) (entryFrame m args maxL)) : vx_Met l y ws rm Pc Qc XC mc ms free := by
  refine MetFree.of_bodyS (code := cc) (maxLocals := maxL) (ret := ret) hy ?_ ?_
  · intro args s m h hn
    obtain ⟨meth, c, h1, h2, h3, h4, h5, h6, -, -⟩ := Cond.code_spec hn (atoms_spec (ws := ws) h _ (by rw [hw]; exact List.mem_cons_self))
    exact ⟨meth, c, h1, h2, h3, h4, h5, h6⟩
  · intro p e s m args below meth c s₁ B hml hP _
    have hh0 : s₁.heap = s.heap := by rw [B.state]; rfl
    have ht : ∀ x ∈ c.exceptionTable.toList, False := by
      obtain ⟨meth9, c9, h1, h2, -, -, -, -, h7, -⟩ := Cond.code_spec B.named (atoms_spec (ws := ws) B.pre _ (by rw [hw]; exact List.mem_cons_self))
      cases Option.some.inj (h1.symm.trans B.method)
      cases Option.some.inj (h2.symm.trans (Stand.of_body B).code)
      intro x hx
      rw [Array.isEmpty_iff.mp h7] at hx
      cases hx
    obtain ⟨t, a1, o, b1, b2, b3⟩ := body p e s m args below meth c s₁ B hml ht hP s₁ hh0 (Stand.of_body B)
    exact ⟨t, o, a1, b1, b2, b3⟩
/-- the table of a body with handlers -/
theorem vx_table {p : Program} {x y : MethodName} {S : Spec} {cc bytes : ByteArray} {maxL maxL' : Nat} {ret ret' : Option FieldType} {e : Env} {s s₁ : State} {m : MethodId} {args : Array Value} {below : List Frame} {meth : Method} {c : Code} {hh : List (Nat × Nat × Nat × Nat)}
    (B : BodyLoose p l y S cc maxL ret e s m args below meth c s₁) (h : (Cond.codeWith y bytes maxL' ret' hh).before args s = true) : c.exceptionTable.toList = tableOf hh := by
  obtain ⟨m9, meth9, c9, hn9, h1, h2, -, -, h6, -⟩ := Cond.codeWith_spec h
  cases Option.some.inj (hn9.symm.trans B.named)
  cases Option.some.inj (h1.symm.trans B.method)
  cases Option.some.inj (h2.symm.trans (Stand.of_body B).code)
  rw [← h6, table_eq]
end Bodies
end VXA
/-! ===== END ===== -/
/-! ===== BEGIN a static call of a method with an exception table ===== -/
section VXS
variable {p : Program} {l : Launch} {e : Env} {R : Room} {s : State} {m : MethodId} {args : Array Value} {below : List Frame} {meth : Method} {c : Code} {T : State} {H : Heap} {locs : List Loc} {cells slots : Nat}
abbrev vx_CSW (R : Room) (s : State) (args : Array Value) (own : String) (index : Nat) (y : MethodName) (bytes : ByteArray) (maxL : Nat) (ret : Option FieldType) (hh : List (Nat × Nat × Nat × Nat)) (ws : List Cond) (rm : Room) (mc ms n : Nat) : Prop :=
  (rm.cells = mc ∧ rm.slots = ms ∧ rm.frames + 1 ≤ R.frames ∧ 8 + (maxL + 11) + rm.locals ≤ R.locals ∧ (∀ w ∈ ws, ∀ (a' : Array Value) (U : State), s.WarmedH U.vm → w.before a' U = true) ∧ Cond.codeWith y bytes maxL ret hh ∈ ws) ∧
  (Cond.codeWith y bytes maxL ret hh).before args s = true ∧ (Cond.initialized y.cls).before args s = true ∧ (y.cls ≠ "java/lang/invoke/MethodHandle" ∧ y.cls ≠ "java/lang/invoke/VarHandle") ∧
  (∀ sig, parseMethodDescriptor y.desc = some sig → n = sig.parameters.length) ∧ (Cond.methodLink own index y).before args s = true ∧ (Cond.static y).before args s = true
theorem vx_cwSW {own : String} {index maxL mc ms : Nat} {y : MethodName} {bytes : ByteArray} {ret : Option FieldType} {hh : List (Nat × Nat × Nat × Nat)} {Ts ws ws' : List Cond} {rm : Room} (n : Nat) (ht : ∀ w ∈ Ts, w.before args s = true) (hT : GoodIn Ts (va_wsS own index y ws)) (hw : ws = Cond.codeWith y bytes maxL ret hh :: ws') (hrc : rm.cells = mc) (hrs : rm.slots = ms)
    (hd : y.cls ≠ "java/lang/invoke/MethodHandle" ∧ y.cls ≠ "java/lang/invoke/VarHandle" ∧ (parseMethodDescriptor y.desc).map (fun d => d.parameters.length) = some n) (hR : rm.frames + 1 ≤ R.frames ∧ 8 + (maxL + 11) + rm.locals ≤ R.locals) :
    vx_CSW R s args own index y bytes maxL ret hh ws rm mc ms n := by
  have ok : ∀ w ∈ va_wsS own index y ws, w.before args s = true := fun w h => ht w (hT w h).1
  have hG : GoodIn Ts ws := fun w h => hT w (by unfold va_wsS; exact List.mem_append_right _ h)
  have hc : Cond.codeWith y bytes maxL ret hh ∈ ws := by rw [hw]; exact List.mem_cons_self
  refine ⟨⟨hrc, hrs, hR.1, hR.2, pay_in ht hG, hc⟩, ht _ (hG _ hc).1, ok _ (by simp [va_wsS]), ⟨hd.1, hd.2.1⟩, fun sig h => ?_, ok _ (by simp [va_wsS]), ok _ (by simp [va_wsS])⟩
  have h2 := hd.2.2
  rw [h] at h2
  exact (Option.some.inj h2).symm
theorem vx_callSW (X : Stand p l e R s m args below meth c T locs cells slots) (hexec : p.tables.exec = Jvm.exec) {own : String} {index : Nat} {y : MethodName} {bytes : ByteArray} {maxL : Nat} {ret : Option FieldType} {hh : List (Nat × Nat × Nat × Nat)}
    (hown : s.vm.findClass own = some m.cls) (hlink : (Cond.methodLink own index y).before args s = true) (hstat : (Cond.static y).before args s = true) (hinit : (Cond.initialized y.cls).before args s = true)
    (hcode : (Cond.codeWith y bytes maxL ret hh).before args s = true) (hy : y.cls ≠ "java/lang/invoke/MethodHandle" ∧ y.cls ≠ "java/lang/invoke/VarHandle")
    {W9 : Nat} {Pre : Pt → Array Value → Prop} {Post : Pt → Array Value → Option Value → Pt → Prop} (hK : Back l R p e below s args y 3 W9 Pre Post)
    {g : JFrame} (hg : g.method = m) (hsize : g.locals.size = c.maxLocals) {argsL rest : List Value} (hlen : ∀ sig, parseMethodDescriptor y.desc = some sig → argsL.length = sig.parameters.length)
    (hstack : g.stack = argsL.reverse ++ rest) (hW : 2 * g.monitorRoom + (rest.map fun v => v.category).sum ≤ W9) (hdg : decode c.code g.pc = .ok (.invokestatic index, 3))
    (hpre : ∀ vm₁, s.WarmedH vm₁ → Pre ⟨T.setVm vm₁, locs, cells, slots⟩ argsL.toArray) :
    ∃ (v : Option Value) (vm₁ : Vm) (B : Pt), s.WarmedH vm₁ ∧ Stand p l e R s m args below meth c B.U B.locs B.cells B.slots ∧ Post ⟨T.setVm vm₁, locs, cells, slots⟩ argsL.toArray v B ∧
      ∀ target, Steps p.tables e below (B.U.setTop { g with pc := g.pc + 3, stack := v.toList ++ rest }) target → Steps p.tables e below (T.setTop g) target := by
  obtain ⟨mk, methM, cM, hnamed, hmethM, -, -, -, -, -, -, hsigM⟩ := Cond.codeWith_spec hcode
  have hstatic : methM.isStatic = true := Cond.static_spec hnamed hmethM hstat
  obtain ⟨kP, hkP, -⟩ := className_of_methodNamed hnamed
  have hinitP : kP.init = .initialized := Cond.initialized_spec (findClass_of_methodNamed hnamed) hkP hinit
  obtain ⟨vm₁, X₁, hstep₁⟩ := X.invokestatic hexec hown hlink hnamed hmethM hstatic hkP hinitP hy (g := g) hg (argsL := argsL) (rest := rest) (hlen _ hsigM) hstack hdg
  obtain ⟨v, B, X', hpost, hsteps⟩ := hK m meth c ⟨T.setVm vm₁, locs, cells, slots⟩ { g with stack := rest } (.invokestatic index) mk argsL.toArray X₁ hg hsize hdg hW (X₁.named hnamed) (hpre vm₁ X₁.warmed)
  exact ⟨v, vm₁, B, X₁.warmed, X', hpost, fun target h => hstep₁ _ fun acts => by rw [doInvoke_state]; exact hsteps.trans h⟩
theorem vx_runSW {y : MethodName} {bytes cc : ByteArray} {maxL nL mc ms n index : Nat} {ret : Option FieldType} {hh : List (Nat × Nat × Nat × Nat)} {ws : List Cond} {rm : Room} {Pc : Array Value → State → Prop} {Qc : Array Value → State → Outcome → State → Prop} {free : Addr → Prop} {Ts : List Cond} {own : String} {As rest : List Value} {g : JFrame}
    (S : CallFix p m c cc nL s args Ts own) (hM : Met l y ws rm Pc Qc mc ms free) (cw : vx_CSW R s args own index y bytes maxL ret hh ws rm mc ms n) (hp : PreS s H Pc As)
    (hg : g.method = m) (hn : As.length = n) (hsize : g.locals.size = nL) (hstack : g.stack = As.reverse ++ rest) (hW : 2 * g.monitorRoom + (rest.map fun v => v.category).sum ≤ 8) (hdg : decode cc g.pc = .ok (.invokestatic index, 3)) (hf : cells + mc ≤ R.cells ∧ slots + ms ≤ R.slots) :
    va_Run p l e R s m args below meth c H locs cells slots mc ms g rest (Qc As.toArray) (free) := by
  obtain ⟨⟨hrc, hrs, hfr, hlo, hws, hcw⟩, hcode, hini, hy, hlen, hl, hstt⟩ := cw
  have hK : Back l R p e below s args y 3 8 (PreOf R mc ms Pc) (PostOf Qc mc ms free) := va_backW (hh := hh) (bytes := bytes) (maxL := maxL) (ret := ret) hM hp.1 hrc hrs hfr hlo hws hcw (fun a' U hW => word_at hW (Or.inl (by first | rfl | simp [Cond.onTables, Cond.keeps, Cond.steady])) hini)
  obtain ⟨hx, hb, hml, ho, -⟩ := S
  intro T hT X
  obtain ⟨v, vm₁, ⟨U', l2, c2, s2⟩, hW₁, X', ⟨g', mk, t, L, e1, e2, hq, h1, hL, h2, h3⟩, st⟩ := vx_callSW X hx (hh := hh) (bytes := bytes) (maxL := maxL) (ret := ret) ho hl hstt hini hcode hy hK hg (hsize.trans hml.symm) (argsL := As) (rest := rest) (fun sig h => hn.trans (hlen sig h)) hstack hW (by rw [hb]; exact hdg)
    (fun vm₁ hW₁ => ⟨hf.1, hf.2, hp.2 (T.setVm vm₁) hT hW₁⟩)
  dsimp only [Pt.U, Pt.locs, Pt.cells, Pt.slots] at X' e1 e2 h1 h2 h3 st
  subst h1; subst h2; subst h3
  exact ⟨v, (T.setVm vm₁).calling g' mk As.toArray, t, U', L, hT, X', hL, e1, e2, hq, st⟩
/-- not caught here, past rows that name other classes: it goes on to the caller -/
theorem vx_outP {p : Program} {l : Launch} {e : Env} {R : Room} {s : State} {m : MethodId} {args : Array Value} {below : List Frame} {meth : Method} {c : Code} {H : Heap} {locs : List Loc} {cells slots : Nat} {free : Addr → Prop} {ls : Array Slot} {rest : List Value} {Qc : Array Value → State → Outcome → State → Prop} {XC : String → State → State → Prop}
    {pc : Nat} {own E : String} {ce : Cell} {q : Addr} {mc ms : Nat} (hown : s.vm.findClass own = some m.cls) (hlocks : meth.locks = false)
    (hpass : ∀ z ∈ c.exceptionTable.toList, covers z pc = false ∨ (z.catchType ≠ 0 ∧ ∃ nm : String, (Cond.classLink own z.catchType nm).before args s = true ∧ va_Nc E nm s)) (hcell : H[q]? = some ce) (hv : ce.vm = .none) (hcl : s.vm.findClass E = some ce.cls)
    (hx : ∀ t : State, t.heap = H → s.vm.Alike t.vm → XC E s t) (hf : ∀ z ∈ locs, free z.base) (hc : cells ≤ mc) (hs : slots ≤ ms) :
    vx_W p l e R s m args below meth c H locs cells slots (vx_MQ below Qc XC args s mc ms free) (F0 m pc ls rest) q := by
  intro T hT X
  have hpl : e.platform.magicAccessors = ({} : Platform).magicAccessors := by rw [X.admits.platform]
  obtain ⟨vm', hW', X', st⟩ := X.outThrough hlocks q (g := F0 m pc ls rest) rfl rfl rfl (cell := ce) (by rw [hT]; exact hcell) (by rw [hv]; rfl)
    (by obtain ⟨k9, h9, -⟩ := Vm.findClass_spec hcl; exact ⟨k9, h9⟩) (fun z hz => by
      rcases hpass z hz with h | ⟨hz0, nm, hl1, hn1⟩
      · exact Or.inl h
      · obtain ⟨c6, hc6, hcl6⟩ := Cond.classLink_spec hown hl1 e.platform hpl
        obtain ⟨a8, b8, h1, h2, h3⟩ := hn1
        cases Option.some.inj (h1.symm.trans hcl)
        cases Option.some.inj (h2.symm.trans hc6)
        exact Or.inr ⟨hz0, _, hcl6, h3⟩)
  obtain ⟨g₀, hfr⟩ := X'.frames_eq
  have hcell9 : ((T.setVm vm').setFrames (.throwing q :: below)).heap[q]? = some ce := by
    show T.heap[q]? = some ce
    rw [hT]; exact hcell
  have hend : Ended ((T.setVm vm').setFrames (.throwing q :: below)) below (.threw q) := State.frames_setFrames _ (State.cur_lt_of_frames hfr)
  refine ⟨(T.setVm vm').setFrames (.throwing q :: below), ?_, .threw q, X'.here.running, hend, Or.inr ⟨q, rfl, E, ce, locs, hx _ hT (X'.ends _).1.alike, hcell9, hv, hcl, (X'.ends _).1, (X'.ends _).2.mono hc hs, hf⟩⟩
  rw [X.pushThrowing_eq]
  exact st
/-- a thing of a world lies in the heap -/
theorem vx_lt {D : va_G} {cl : List vw_C} {ws : va_W} {H1 : Heap} (h : va_P D cl ws H1) {k : Nat} {q : Nat × va_E} (hk : ws[k]? = some q) : q.1 < H1.size := (h k q hk).lt
end VXS
/-! ===== END ===== -/
/-! ===== BEGIN methods with a table of their own: called by a name, returning or throwing ===== -/
section VXH
/-! vx_backW, vx_callVX, vx_callSX, vx_callVW, vx_runVW, vx_runVX, vx_runSX, vx_ofWH follow the same proofs as their sisters above (Free/Laws.lean, Shelf42/LK1.lean); vx_outP calls Shelf42/NT130.lean (outThrough). -/
section
variable {l : Launch} {R : Room} {p : Program} {e : Env} {below : List Frame} {s : State} {sargs : Array Value} {y : MethodName} {len W9 : Nat}
theorem vx_backW {ws : List Cond} {rm : Room} {Pc : Array Value → State → Prop} {Qc : Array Value → State → Outcome → State → Prop} {XC : String → State → State → Prop} {mc ms : Nat} {free : Addr → Prop} {bytes : ByteArray} {maxL : Nat} {ret : Option FieldType} {hh : List (Nat × Nat × Nat × Nat)}
    (hM : vx_Met l y ws rm Pc Qc XC mc ms free) (hblind : FrameBlind Pc) (hrc : rm.cells = mc) (hrs : rm.slots = ms)
    (hframes : rm.frames + 1 ≤ R.frames) (hlocals : W9 + (maxL + 11) + rm.locals ≤ R.locals)
    (hws : ∀ w ∈ ws, ∀ a' U, s.WarmedH U.vm → w.before a' U = true) (hcode : Cond.codeWith y bytes maxL ret hh ∈ ws) (hinit : ∀ a' U, s.WarmedH U.vm → (Cond.initialized y.cls).before a' U = true) :
    vx_Back l R p e below s sargs y len W9 (PreOf R mc ms Pc) (PostOf Qc mc ms free) (vx_Post XC mc ms free) := by
  intro m meth c A g ig mk a X hg hsize hdg hW hn hp
  have h1 : (headSpec ws rm).pre.before a A.U = true := atoms_intro fun w hw => hws w hw _ _ X.warmed
  have h2 : (Cond.codeWith y bytes maxL ret hh).before a A.U = true := hws _ hcode _ _ X.warmed
  have h3 : (Cond.initialized y.cls).before a A.U = true := hinit _ _ X.warmed
  have h4 : A.cells + (headSpec ws rm).room.cells ≤ R.cells := by rw [show (headSpec ws rm).room.cells = mc from hrc]; exact hp.1
  have h5 : A.slots + (headSpec ws rm).room.slots ≤ R.slots := by rw [show (headSpec ws rm).room.slots = ms from hrs]; exact hp.2.1
  have hPc : Pc a (A.U.calling g mk a) := hblind _ _ _ _ hp.2.2
  obtain ⟨U, Ls, c0, s0⟩ := A
  dsimp only [Pt.U, Pt.locs, Pt.cells, Pt.slots] at h1 h2 h3 h4 h5 X hn hPc ⊢
  obtain ⟨m9, methY, cY, hn9, hmY, hcY, -, hlY, -⟩ := Cond.codeWith_spec h2
  cases Option.some.inj (hn9.symm.trans hn)
  obtain ⟨kY, hkY, -⟩ := className_of_methodNamed hn
  have hinitY : kY.init = .initialized := Cond.initialized_spec (findClass_of_methodNamed hn) hkY h3
  have h : At U g.method c below := by rw [hg]; exact X.here
  have hlocals9 : W9 + (maxL + 11) + (headSpec ws rm).room.locals ≤ R.locals := hlocals
  have happ : (headSpec ws rm).appliesLoose y e.platform (U.calling g mk a) = true :=
    Spec.appliesLoose_calling (g := g) h hdg hn hkY hinitY
      (X.room_calling (g := g) (R' := (headSpec ws rm).room) hsize hmY hcY hframes (by rw [hlY]; omega) h4 h5) h1
  obtain ⟨mid, hmid⟩ := h.above
  have hfr : (U.setTop g).frames = (.java g :: mid) ++ below := by rw [State.frames_setTop' g h.top, hmid]; rfl
  obtain ⟨o, s₂, hsteps, -, hend, hq⟩ := Steps.callFree hM p X.admits X.cas X.clock (acts := []) hfr happ hPc trivial
  have hq' : vx_Q Qc XC mc ms free a (U.calling g mk a) o s₂ := hq
  rw [State.frames_setTop' g h.top] at hend
  obtain ⟨g₀, hg0⟩ := Option.isSome_iff_exists.mp h.top
  obtain ⟨r, hr⟩ := State.topJava?_eq_some.mp hg0
  have hr' : (({ U with heap := s₂.heap, slotsUsed := s₂.slotsUsed } : State).setVm s₂.vm).frames = .java g₀ :: r := hr
  rcases hq' with ⟨hqc, L, hfe, hL⟩ | ⟨q, rfl, E, ce, L, hx, hce, hcv, hcl, hW₂, hsm, hL⟩
  · obtain ⟨⟨v, rfl⟩, hW₂, e2, q2, q3, q4, q5, q6⟩ := id hfe
    have e3 : s₂ = ({ (U.calling g mk a).setFrames s₂.frames with heap := s₂.heap, slotsUsed := s₂.slotsUsed } : State).setVm s₂.vm := by
      have : s₂ = ({ s₂ with vm := (U.calling g mk a).vm } : State).setVm s₂.vm := rfl
      rw [e2] at this
      exact this
    obtain ⟨c₂, i₂, len₂, hc₂, hd₂, hf₂⟩ := hend
    have hW' : U.WarmedH s₂.vm := hW₂
    have hcc : c₂ = c := by
      have h1 : s₂.code? g.method = U.code? g.method := by
        rw [State.code?_eq, State.code?_eq, hW'.alike.method?]
      exact Option.some.inj (hc₂.symm.trans (h1.trans h.code))
    subst hcc
    have hlen : len₂ = len := by rw [hdg] at hd₂; cases hd₂; rfl
    subst hlen
    have hs₂ : s₂ = (({ U with heap := s₂.heap, slotsUsed := s₂.slotsUsed } : State).setVm s₂.vm).setTop { g with pc := g.pc + len₂, stack := v.toList ++ g.stack } := by
      refine e3.trans ?_
      rw [hf₂, State.calling_eq h.top, State.setFrames_setFrames, State.setTop_of_frames _ hr', hr]
      rfl
    have hsame : U.sameButNew ({ U with heap := s₂.heap, slotsUsed := s₂.slotsUsed } : State) L mc ms := by
      refine ⟨?_, q2, q3, q4, q5, q6⟩
      obtain ⟨t, ht, -⟩ := State.frames_cons hr
      show ({ U with heap := s₂.heap, slotsUsed := s₂.slotsUsed } : State) = { U.setFrames U.frames with heap := s₂.heap, slotsUsed := s₂.slotsUsed }
      rw [State.setFrames_self ht]
    subst hg
    refine Or.inl ⟨v, ⟨(({ U with heap := s₂.heap, slotsUsed := s₂.slotsUsed } : State).setVm s₂.vm), Ls ++ L, c0 + mc, s0 + ms⟩,
      ⟨X.admits, X.cas, X.clock, X.frames, X.room, X.hears, X.method, X.code, (X.here.setHeapUsed s₂.heap s₂.slotsUsed).setVm hW'.alike, X.tail, State.WarmedH.trans X.warmed hW', X.limits, X.bytes, X.same.trans (hsame.setVm s.vm)⟩,
      ⟨g, mk, s₂, L, rfl, rfl, hqc, rfl, hL, rfl, rfl⟩, ?_⟩
    show Steps p.tables e below _ ((({ U with heap := s₂.heap, slotsUsed := s₂.slotsUsed } : State).setVm s₂.vm).setTop { g with pc := g.pc + len₂, stack := v.toList ++ g.stack })
    rw [← hs₂]
    exact hsteps
  · obtain ⟨e2, q2, q3, q4, q5, q6⟩ := id hsm
    have e3 : s₂ = ({ (U.calling g mk a).setFrames s₂.frames with heap := s₂.heap, slotsUsed := s₂.slotsUsed } : State).setVm s₂.vm := by
      have : s₂ = ({ s₂ with vm := (U.calling g mk a).vm } : State).setVm s₂.vm := rfl
      rw [e2] at this
      exact this
    have hf₂ : s₂.frames = .throwing q :: .java g :: U.frames.tail := hend
    have hW' : U.WarmedH s₂.vm := hW₂
    have hs₂ : s₂ = ((({ U with heap := s₂.heap, slotsUsed := s₂.slotsUsed } : State).setVm s₂.vm).setTop g).pushFrame (.throwing q) := by
      refine e3.trans ?_
      rw [hf₂, State.calling_eq h.top, State.setFrames_setFrames, State.pushFrame, State.frames_setTop _ hr', State.setTop_of_frames _ hr', State.setFrames_setFrames, hr]
      rfl
    have hsame : U.sameButNew ({ U with heap := s₂.heap, slotsUsed := s₂.slotsUsed } : State) L mc ms := by
      refine ⟨?_, q2, q3, q4, q5, q6⟩
      obtain ⟨t, ht, -⟩ := State.frames_cons hr
      show ({ U with heap := s₂.heap, slotsUsed := s₂.slotsUsed } : State) = { U.setFrames U.frames with heap := s₂.heap, slotsUsed := s₂.slotsUsed }
      rw [State.setFrames_self ht]
    subst hg
    refine Or.inr ⟨q, ⟨(({ U with heap := s₂.heap, slotsUsed := s₂.slotsUsed } : State).setVm s₂.vm), Ls ++ L, c0 + mc, s0 + ms⟩,
      ⟨X.admits, X.cas, X.clock, X.frames, X.room, X.hears, X.method, X.code, (X.here.setHeapUsed s₂.heap s₂.slotsUsed).setVm hW'.alike, X.tail, State.WarmedH.trans X.warmed hW', X.limits, X.bytes, X.same.trans (hsame.setVm s.vm)⟩,
      ⟨g, mk, s₂, L, E, ce, rfl, rfl, hx, hce, hcv, hcl, rfl, hL, rfl, rfl⟩, ?_⟩
    show Steps p.tables e below _ (((({ U with heap := s₂.heap, slotsUsed := s₂.slotsUsed } : State).setVm s₂.vm).setTop g).pushFrame (.throwing q))
    rw [← hs₂]
    exact hsteps
end
variable {p : Program} {l : Launch} {e : Env} {R : Room} {s : State} {m : MethodId} {args : Array Value} {below : List Frame} {meth : Method} {c : Code} {T : State} {H : Heap} {locs : List Loc} {cells slots : Nat}
theorem vx_callVX (X : Stand p l e R s m args below meth c T locs cells slots) (hexec : p.tables.exec = Jvm.exec) {own C : String} {index : Nat} {y : MethodName} {bytes : ByteArray} {maxL : Nat} {ret : Option FieldType} {hh : List (Nat × Nat × Nat × Nat)}
    (hown : s.vm.findClass own = some m.cls) (hlink : (Cond.methodLink own index y).before args s = true) (hinst : (Cond.instanceMethod y).before args s = true) (hsel : (Cond.selects C y y).before args s = true)
    (hcode : (Cond.codeWith y bytes maxL ret hh).before args s = true) (hy : y.cls ≠ "java/lang/invoke/MethodHandle" ∧ y.cls ≠ "java/lang/invoke/VarHandle")
    {W9 : Nat} {Pre : Pt → Array Value → Prop} {Post : Pt → Array Value → Option Value → Pt → Prop} {PostX : Pt → Array Value → Addr → Pt → Prop} (hK : vx_Back l R p e below s args y 3 W9 Pre Post PostX)
    {b : Addr} {cellB : Cell} (hcell : T.heap[b]? = some cellB) (hobj : cellB.vm.isStatics = false) (hcls : s.vm.findClass C = some cellB.cls)
    {g : JFrame} (hg : g.method = m) (hsize : g.locals.size = c.maxLocals) {argsL rest : List Value} (hlen : ∀ sig, parseMethodDescriptor y.desc = some sig → argsL.length = sig.parameters.length)
    (hstack : g.stack = argsL.reverse ++ .ref b :: rest) (hW : 2 * g.monitorRoom + (rest.map fun v => v.category).sum ≤ W9) (hdg : decode c.code g.pc = .ok (.invokevirtual index, 3))
    (hpre : ∀ vm₁, s.WarmedH vm₁ → Pre ⟨T.setVm vm₁, locs, cells, slots⟩ (Value.ref b :: argsL).toArray) :
    (∃ (v : Option Value) (vm₁ : Vm) (B : Pt), s.WarmedH vm₁ ∧ Stand p l e R s m args below meth c B.U B.locs B.cells B.slots ∧ Post ⟨T.setVm vm₁, locs, cells, slots⟩ (Value.ref b :: argsL).toArray v B ∧
      ∀ target, Steps p.tables e below (B.U.setTop { g with pc := g.pc + 3, stack := v.toList ++ rest }) target → Steps p.tables e below (T.setTop g) target) ∨
    (∃ (q : Addr) (vm₁ : Vm) (B : Pt), s.WarmedH vm₁ ∧ Stand p l e R s m args below meth c B.U B.locs B.cells B.slots ∧ PostX ⟨T.setVm vm₁, locs, cells, slots⟩ (Value.ref b :: argsL).toArray q B ∧
      Steps p.tables e below (T.setTop g) ((B.U.setTop { g with stack := rest }).pushFrame (.throwing q))) := by
  obtain ⟨mk, methM, hnamed, hmethM, hstM, habM⟩ := Cond.instanceMethod_spec hinst
  obtain ⟨m8, methM', cM, hn8, hmethM', -, -, -, -, -, -, hsigM⟩ := Cond.codeWith_spec hcode
  cases Option.some.inj (hn8.symm.trans hnamed)
  cases hmethM.symm.trans hmethM'
  obtain ⟨c2, r2, m2, q1, q2, q3, q4, kP, hkP, hkPi⟩ := Cond.selects_spec hsel
  cases hcls.symm.trans q1
  cases (State.methodFound?_of_named hnamed hy).symm.trans q2
  cases hnamed.symm.trans q3
  have hselP : selectMethod e.platform s.vm cellB.cls mk = .method mk := by rw [Launch.admits_selectMethod X.admits]; exact q4
  obtain ⟨vm₁, X₁, hstep₁⟩ := X.invokevirtual hexec hown hlink hnamed hmethM hstM hkP hkPi hy (a := b) (cell := cellB) hcell
    (fun z h => by rw [h] at hobj; cases hobj) hselP hmethM habM hkP hkPi (g := g) hg (argsL := argsL) (rest := rest) (hlen _ hsigM) hstack hdg
  rcases hK m meth c ⟨T.setVm vm₁, locs, cells, slots⟩ { g with stack := rest } (.invokevirtual index) mk (Value.ref b :: argsL).toArray X₁ hg hsize hdg hW (X₁.named hnamed) (hpre vm₁ X₁.warmed) with ⟨v, B, X', hpost, hsteps⟩ | ⟨q, B, X', hpost, hsteps⟩
  · exact Or.inl ⟨v, vm₁, B, X₁.warmed, X', hpost, fun target h => hstep₁ _ fun acts => by rw [doInvoke_state]; exact hsteps.trans h⟩
  · exact Or.inr ⟨q, vm₁, B, X₁.warmed, X', hpost, hstep₁ _ fun acts => by rw [doInvoke_state]; exact hsteps⟩
theorem vx_callSX (X : Stand p l e R s m args below meth c T locs cells slots) (hexec : p.tables.exec = Jvm.exec) {own : String} {index : Nat} {y : MethodName} {bytes : ByteArray} {maxL : Nat} {ret : Option FieldType} {hh : List (Nat × Nat × Nat × Nat)}
    (hown : s.vm.findClass own = some m.cls) (hlink : (Cond.methodLink own index y).before args s = true) (hstat : (Cond.static y).before args s = true) (hinit : (Cond.initialized y.cls).before args s = true)
    (hcode : (Cond.codeWith y bytes maxL ret hh).before args s = true) (hy : y.cls ≠ "java/lang/invoke/MethodHandle" ∧ y.cls ≠ "java/lang/invoke/VarHandle")
    {W9 : Nat} {Pre : Pt → Array Value → Prop} {Post : Pt → Array Value → Option Value → Pt → Prop} {PostX : Pt → Array Value → Addr → Pt → Prop} (hK : vx_Back l R p e below s args y 3 W9 Pre Post PostX)
    {g : JFrame} (hg : g.method = m) (hsize : g.locals.size = c.maxLocals) {argsL rest : List Value} (hlen : ∀ sig, parseMethodDescriptor y.desc = some sig → argsL.length = sig.parameters.length)
    (hstack : g.stack = argsL.reverse ++ rest) (hW : 2 * g.monitorRoom + (rest.map fun v => v.category).sum ≤ W9) (hdg : decode c.code g.pc = .ok (.invokestatic index, 3))
    (hpre : ∀ vm₁, s.WarmedH vm₁ → Pre ⟨T.setVm vm₁, locs, cells, slots⟩ argsL.toArray) :
    (∃ (v : Option Value) (vm₁ : Vm) (B : Pt), s.WarmedH vm₁ ∧ Stand p l e R s m args below meth c B.U B.locs B.cells B.slots ∧ Post ⟨T.setVm vm₁, locs, cells, slots⟩ argsL.toArray v B ∧
      ∀ target, Steps p.tables e below (B.U.setTop { g with pc := g.pc + 3, stack := v.toList ++ rest }) target → Steps p.tables e below (T.setTop g) target) ∨
    (∃ (q : Addr) (vm₁ : Vm) (B : Pt), s.WarmedH vm₁ ∧ Stand p l e R s m args below meth c B.U B.locs B.cells B.slots ∧ PostX ⟨T.setVm vm₁, locs, cells, slots⟩ argsL.toArray q B ∧
      Steps p.tables e below (T.setTop g) ((B.U.setTop { g with stack := rest }).pushFrame (.throwing q))) := by
  obtain ⟨mk, methM, cM, hnamed, hmethM, -, -, -, -, -, -, hsigM⟩ := Cond.codeWith_spec hcode
  have hstatic : methM.isStatic = true := Cond.static_spec hnamed hmethM hstat
  obtain ⟨kP, hkP, -⟩ := className_of_methodNamed hnamed
  have hinitP : kP.init = .initialized := Cond.initialized_spec (findClass_of_methodNamed hnamed) hkP hinit
  obtain ⟨vm₁, X₁, hstep₁⟩ := X.invokestatic hexec hown hlink hnamed hmethM hstatic hkP hinitP hy (g := g) hg (argsL := argsL) (rest := rest) (hlen _ hsigM) hstack hdg
  rcases hK m meth c ⟨T.setVm vm₁, locs, cells, slots⟩ { g with stack := rest } (.invokestatic index) mk argsL.toArray X₁ hg hsize hdg hW (X₁.named hnamed) (hpre vm₁ X₁.warmed) with ⟨v, B, X', hpost, hsteps⟩ | ⟨q, B, X', hpost, hsteps⟩
  · exact Or.inl ⟨v, vm₁, B, X₁.warmed, X', hpost, fun target h => hstep₁ _ fun acts => by rw [doInvoke_state]; exact hsteps.trans h⟩
  · exact Or.inr ⟨q, vm₁, B, X₁.warmed, X', hpost, hstep₁ _ fun acts => by rw [doInvoke_state]; exact hsteps⟩
theorem vx_callVW (X : Stand p l e R s m args below meth c T locs cells slots) (hexec : p.tables.exec = Jvm.exec) {own C : String} {index : Nat} {y : MethodName} {bytes : ByteArray} {maxL : Nat} {ret : Option FieldType} {hh : List (Nat × Nat × Nat × Nat)}
    (hown : s.vm.findClass own = some m.cls) (hlink : (Cond.methodLink own index y).before args s = true) (hinst : (Cond.instanceMethod y).before args s = true) (hsel : (Cond.selects C y y).before args s = true)
    (hcode : (Cond.codeWith y bytes maxL ret hh).before args s = true) (hy : y.cls ≠ "java/lang/invoke/MethodHandle" ∧ y.cls ≠ "java/lang/invoke/VarHandle")
    {W9 : Nat} {Pre : Pt → Array Value → Prop} {Post : Pt → Array Value → Option Value → Pt → Prop} (hK : Back l R p e below s args y 3 W9 Pre Post)
    {b : Addr} {cellB : Cell} (hcell : T.heap[b]? = some cellB) (hobj : cellB.vm.isStatics = false) (hcls : s.vm.findClass C = some cellB.cls)
    {g : JFrame} (hg : g.method = m) (hsize : g.locals.size = c.maxLocals) {argsL rest : List Value} (hlen : ∀ sig, parseMethodDescriptor y.desc = some sig → argsL.length = sig.parameters.length)
    (hstack : g.stack = argsL.reverse ++ .ref b :: rest) (hW : 2 * g.monitorRoom + (rest.map fun v => v.category).sum ≤ W9) (hdg : decode c.code g.pc = .ok (.invokevirtual index, 3))
    (hpre : ∀ vm₁, s.WarmedH vm₁ → Pre ⟨T.setVm vm₁, locs, cells, slots⟩ (Value.ref b :: argsL).toArray) :
    ∃ (v : Option Value) (vm₁ : Vm) (B : Pt), s.WarmedH vm₁ ∧ Stand p l e R s m args below meth c B.U B.locs B.cells B.slots ∧ Post ⟨T.setVm vm₁, locs, cells, slots⟩ (Value.ref b :: argsL).toArray v B ∧
      ∀ target, Steps p.tables e below (B.U.setTop { g with pc := g.pc + 3, stack := v.toList ++ rest }) target → Steps p.tables e below (T.setTop g) target := by
  obtain ⟨mk, methM, hnamed, hmethM, hstM, habM⟩ := Cond.instanceMethod_spec hinst
  obtain ⟨m8, methM', cM, hn8, hmethM', -, -, -, -, -, -, hsigM⟩ := Cond.codeWith_spec hcode
  cases Option.some.inj (hn8.symm.trans hnamed)
  cases hmethM.symm.trans hmethM'
  obtain ⟨c2, r2, m2, q1, q2, q3, q4, kP, hkP, hkPi⟩ := Cond.selects_spec hsel
  cases hcls.symm.trans q1
  cases (State.methodFound?_of_named hnamed hy).symm.trans q2
  cases hnamed.symm.trans q3
  have hselP : selectMethod e.platform s.vm cellB.cls mk = .method mk := by rw [Launch.admits_selectMethod X.admits]; exact q4
  obtain ⟨vm₁, X₁, hstep₁⟩ := X.invokevirtual hexec hown hlink hnamed hmethM hstM hkP hkPi hy (a := b) (cell := cellB) hcell
    (fun z h => by rw [h] at hobj; cases hobj) hselP hmethM habM hkP hkPi (g := g) hg (argsL := argsL) (rest := rest) (hlen _ hsigM) hstack hdg
  obtain ⟨v, B, X', hpost, hsteps⟩ := hK m meth c ⟨T.setVm vm₁, locs, cells, slots⟩ { g with stack := rest } (.invokevirtual index) mk (Value.ref b :: argsL).toArray X₁ hg hsize hdg hW (X₁.named hnamed) (hpre vm₁ X₁.warmed)
  exact ⟨v, vm₁, B, X₁.warmed, X', hpost, fun target h => hstep₁ _ fun acts => by rw [doInvoke_state]; exact hsteps.trans h⟩
abbrev vx_CVW (R : Room) (s : State) (args : Array Value) (own C : String) (index : Nat) (y : MethodName) (bytes : ByteArray) (maxL : Nat) (ret : Option FieldType) (hh : List (Nat × Nat × Nat × Nat)) (ws : List Cond) (rm : Room) (mc ms n : Nat) : Prop :=
  (rm.cells = mc ∧ rm.slots = ms ∧ rm.frames + 1 ≤ R.frames ∧ 8 + (maxL + 11) + rm.locals ≤ R.locals ∧ (∀ w ∈ ws, ∀ (a' : Array Value) (U : State), s.WarmedH U.vm → w.before a' U = true) ∧ Cond.codeWith y bytes maxL ret hh ∈ ws) ∧
  (Cond.codeWith y bytes maxL ret hh).before args s = true ∧ (Cond.initialized y.cls).before args s = true ∧ (y.cls ≠ "java/lang/invoke/MethodHandle" ∧ y.cls ≠ "java/lang/invoke/VarHandle") ∧
  (∀ sig, parseMethodDescriptor y.desc = some sig → n = sig.parameters.length) ∧ (Cond.methodLink own index y).before args s = true ∧ (Cond.instanceMethod y).before args s = true ∧ (Cond.selects C y y).before args s = true
theorem vx_cwVW {own C : String} {index maxL mc ms : Nat} {y : MethodName} {bytes : ByteArray} {ret : Option FieldType} {hh : List (Nat × Nat × Nat × Nat)} {Ts ws ws' : List Cond} {rm : Room} (n : Nat) (ht : ∀ w ∈ Ts, w.before args s = true) (hT : GoodIn Ts (wsV own index C y ws)) (hw : ws = Cond.codeWith y bytes maxL ret hh :: ws') (hrc : rm.cells = mc) (hrs : rm.slots = ms)
    (hd : y.cls = C ∧ y.cls ≠ "java/lang/invoke/MethodHandle" ∧ y.cls ≠ "java/lang/invoke/VarHandle" ∧ (parseMethodDescriptor y.desc).map (fun d => d.parameters.length) = some n) (hR : rm.frames + 1 ≤ R.frames ∧ 8 + (maxL + 11) + rm.locals ≤ R.locals) :
    vx_CVW R s args own C index y bytes maxL ret hh ws rm mc ms n := by
  obtain ⟨hC, hd⟩ := hd
  subst hC
  have ok : ∀ w ∈ wsV own index y.cls y ws, w.before args s = true := fun w h => ht w (hT w h).1
  have hG : GoodIn Ts ws := fun w h => hT w (by unfold wsV; exact List.mem_append_right _ h)
  have hc : Cond.codeWith y bytes maxL ret hh ∈ ws := by rw [hw]; exact List.mem_cons_self
  refine ⟨⟨hrc, hrs, hR.1, hR.2, pay_in ht hG, hc⟩, ht _ (hG _ hc).1, ok _ (by simp [wsV]), ⟨hd.1, hd.2.1⟩, fun sig h => ?_, ok _ (by simp [wsV]), ok _ (by simp [wsV]), ok _ (by simp [wsV])⟩
  have h2 := hd.2.2
  rw [h] at h2
  exact (Option.some.inj h2).symm
theorem vx_runVW {y : MethodName} {bytes cc : ByteArray} {maxL nL mc ms n index : Nat} {ret : Option FieldType} {hh : List (Nat × Nat × Nat × Nat)} {ws : List Cond} {rm : Room} {Pc : Array Value → State → Prop} {Qc : Array Value → State → Outcome → State → Prop} {free : Addr → Prop} {Ts : List Cond} {own C : String} {b : Addr} {As rest : List Value} {g : JFrame}
    (S : CallFix p m c cc nL s args Ts own) (hM : Met l y ws rm Pc Qc mc ms free) (cw : vx_CVW R s args own C index y bytes maxL ret hh ws rm mc ms n) (hp : PreV s H C b Pc As)
    (hg : g.method = m) (hn : As.length = n) (hsize : g.locals.size = nL) (hstack : g.stack = As.reverse ++ .ref b :: rest) (hW : 2 * g.monitorRoom + (rest.map fun v => v.category).sum ≤ 8) (hdg : decode cc g.pc = .ok (.invokevirtual index, 3)) (hf : cells + mc ≤ R.cells ∧ slots + ms ≤ R.slots) :
    va_Run p l e R s m args below meth c H locs cells slots mc ms g rest (Qc (Value.ref b :: As).toArray) free := by
  obtain ⟨⟨hrc, hrs, hfr, hlo, hws, hcw⟩, hcode, hini, hy, hlen, hl, hin, hse⟩ := cw
  have hK : Back l R p e below s args y 3 8 (PreOf R mc ms Pc) (PostOf Qc mc ms free) := va_backW (hh := hh) (bytes := bytes) (maxL := maxL) (ret := ret) hM hp.1 hrc hrs hfr hlo hws hcw (fun a' U hW => word_at hW (Or.inl (by first | rfl | simp [Cond.onTables, Cond.keeps, Cond.steady])) hini)
  obtain ⟨hx, hb, hml, ho, -⟩ := S
  obtain ⟨-, ⟨cellB, hcB, hoB, hclB⟩, hPc⟩ := hp
  intro T hT X
  obtain ⟨v, vm₁, ⟨U', l2, c2, s2⟩, hW₁, X', ⟨g', mk, t, L, e1, e2, hq, h1, hL, h2, h3⟩, st⟩ := vx_callVW X hx (C := C) (hh := hh) (bytes := bytes) (maxL := maxL) (ret := ret) ho hl hin hse hcode hy hK (by rw [hT]; exact hcB) hoB hclB hg (hsize.trans hml.symm) (argsL := As) (rest := rest) (fun sig h => hn.trans (hlen sig h)) hstack hW (by rw [hb]; exact hdg)
    (fun vm₁ hW₁ => ⟨hf.1, hf.2, hPc (T.setVm vm₁) hT hW₁⟩)
  dsimp only [Pt.U, Pt.locs, Pt.cells, Pt.slots] at X' e1 e2 h1 h2 h3 st
  subst h1; subst h2; subst h3
  exact ⟨v, (T.setVm vm₁).calling g' mk (Value.ref b :: As).toArray, t, U', L, hT, X', hL, e1, e2, hq, st⟩
section
variable {y : MethodName} {bytes cc : ByteArray} {maxL nL mc ms n index : Nat} {ret : Option FieldType} {ws : List Cond} {rm : Room} {Pc : Array Value → State → Prop} {Qc : Array Value → State → Outcome → State → Prop} {XC : String → State → State → Prop} {free : Addr → Prop} {Ts : List Cond} {own C : String} {b : Addr} {As rest : List Value} {g : JFrame}
theorem vx_runVX {hh : List (Nat × Nat × Nat × Nat)} (S : CallFix p m c cc nL s args Ts own) (hM : vx_Met l y ws rm Pc Qc XC mc ms free) (cw : vx_CVW R s args own C index y bytes maxL ret hh ws rm mc ms n) (hp : PreV s H C b Pc As)
    (hg : g.method = m) (hn : As.length = n) (hsize : g.locals.size = nL) (hstack : g.stack = As.reverse ++ .ref b :: rest) (hW : 2 * g.monitorRoom + (rest.map fun v => v.category).sum ≤ 8) (hdg : decode cc g.pc = .ok (.invokevirtual index, 3)) (hf : cells + mc ≤ R.cells ∧ slots + ms ≤ R.slots) :
    vx_Run p l e R s m args below meth c H locs cells slots mc ms g rest (Qc (Value.ref b :: As).toArray) XC free := by
  obtain ⟨⟨hrc, hrs, hfr, hlo, hws, hcw⟩, hcode, hini, hy, hlen, hl, hin, hse⟩ := cw
  have hK : vx_Back l R p e below s args y 3 8 (PreOf R mc ms Pc) (PostOf Qc mc ms free) (vx_Post XC mc ms free) := vx_backW (hh := hh) (bytes := bytes) (maxL := maxL) (ret := ret) hM hp.1 hrc hrs hfr hlo hws hcw (fun a' U hW => word_at hW (Or.inl (by first | rfl | simp [Cond.onTables, Cond.keeps, Cond.steady])) hini)
  obtain ⟨hx, hb, hml, ho, -⟩ := S
  obtain ⟨-, ⟨cellB, hcB, hoB, hclB⟩, hPc⟩ := hp
  intro T hT X
  rcases vx_callVX X hx (C := C) (hh := hh) (bytes := bytes) (maxL := maxL) (ret := ret) ho hl hin hse hcode hy hK (by rw [hT]; exact hcB) hoB hclB hg (hsize.trans hml.symm) (argsL := As) (rest := rest) (fun sig h => hn.trans (hlen sig h)) hstack hW (by rw [hb]; exact hdg)
    (fun vm₁ hW₁ => ⟨hf.1, hf.2, hPc (T.setVm vm₁) hT hW₁⟩) with ⟨v, vm₁, ⟨U', l2, c2, s2⟩, hW₁, X', ⟨g', mk, t, L, e1, e2, hq, h1, hL, h2, h3⟩, st⟩ | ⟨q, vm₁, ⟨U', l2, c2, s2⟩, hW₁, X', ⟨g', mk, t, L, E, ce, e1, e2, hq, hce, hcv, hcl, h1, hL, h2, h3⟩, st⟩
  · dsimp only [Pt.U, Pt.locs, Pt.cells, Pt.slots] at X' e1 e2 h1 h2 h3 st
    subst h1; subst h2; subst h3
    exact Or.inl ⟨v, (T.setVm vm₁).calling g' mk (Value.ref b :: As).toArray, t, U', L, hT, X', hL, e1, e2, hq, st⟩
  · dsimp only [Pt.U, Pt.locs, Pt.cells, Pt.slots] at X' e1 e2 h1 h2 h3 st hcl
    subst h1; subst h2; subst h3
    exact Or.inr ⟨q, (T.setVm vm₁).calling g' mk (Value.ref b :: As).toArray, t, U', L, E, ce, hT, X', hL, e1, e2, hq, hce, hcv, vx_cls hW₁ hcl, st⟩
theorem vx_runSX {hh : List (Nat × Nat × Nat × Nat)} (S : CallFix p m c cc nL s args Ts own) (hM : vx_Met l y ws rm Pc Qc XC mc ms free) (cw : vx_CSW R s args own index y bytes maxL ret hh ws rm mc ms n) (hp : PreS s H Pc As)
    (hg : g.method = m) (hn : As.length = n) (hsize : g.locals.size = nL) (hstack : g.stack = As.reverse ++ rest) (hW : 2 * g.monitorRoom + (rest.map fun v => v.category).sum ≤ 8) (hdg : decode cc g.pc = .ok (.invokestatic index, 3)) (hf : cells + mc ≤ R.cells ∧ slots + ms ≤ R.slots) :
    vx_Run p l e R s m args below meth c H locs cells slots mc ms g rest (Qc As.toArray) XC free := by
  obtain ⟨⟨hrc, hrs, hfr, hlo, hws, hcw⟩, hcode, hini, hy, hlen, hl, hstt⟩ := cw
  have hK : vx_Back l R p e below s args y 3 8 (PreOf R mc ms Pc) (PostOf Qc mc ms free) (vx_Post XC mc ms free) := vx_backW (hh := hh) (bytes := bytes) (maxL := maxL) (ret := ret) hM hp.1 hrc hrs hfr hlo hws hcw (fun a' U hW => word_at hW (Or.inl (by first | rfl | simp [Cond.onTables, Cond.keeps, Cond.steady])) hini)
  obtain ⟨hx, hb, hml, ho, -⟩ := S
  intro T hT X
  rcases vx_callSX X hx (hh := hh) (bytes := bytes) (maxL := maxL) (ret := ret) ho hl hstt hini hcode hy hK hg (hsize.trans hml.symm) (argsL := As) (rest := rest) (fun sig h => hn.trans (hlen sig h)) hstack hW (by rw [hb]; exact hdg)
    (fun vm₁ hW₁ => ⟨hf.1, hf.2, hp.2 (T.setVm vm₁) hT hW₁⟩) with ⟨v, vm₁, ⟨U', l2, c2, s2⟩, hW₁, X', ⟨g', mk, t, L, e1, e2, hq, h1, hL, h2, h3⟩, st⟩ | ⟨q, vm₁, ⟨U', l2, c2, s2⟩, hW₁, X', ⟨g', mk, t, L, E, ce, e1, e2, hq, hce, hcv, hcl, h1, hL, h2, h3⟩, st⟩
  · dsimp only [Pt.U, Pt.locs, Pt.cells, Pt.slots] at X' e1 e2 h1 h2 h3 st
    subst h1; subst h2; subst h3
    exact Or.inl ⟨v, (T.setVm vm₁).calling g' mk As.toArray, t, U', L, hT, X', hL, e1, e2, hq, st⟩
  · dsimp only [Pt.U, Pt.locs, Pt.cells, Pt.slots] at X' e1 e2 h1 h2 h3 st hcl
    subst h1; subst h2; subst h3
    exact Or.inr ⟨q, (T.setVm vm₁).calling g' mk As.toArray, t, U', L, E, ce, hT, X', hL, e1, e2, hq, hce, hcv, vx_cls hW₁ hcl, st⟩
end
end VXH
theorem vx_ofWH {l : Launch} {y : MethodName} {ws ws' : List Cond} {rm : Room} {Pc : Array Value → State → Prop} {Qc : Array Value → State → Outcome → State → Prop} {XC : String → State → State → Prop} {mc ms : Nat} {free : Addr → Prop} {cc : ByteArray} {maxL : Nat} {ret : Option FieldType} {hh : List (Nat × Nat × Nat × Nat)}
    (hy : plainName y.cls = true) (hw : ws = Cond.codeWith y cc maxL ret hh :: ws')
    (body : ∀ p e s m args below meth c s₁, BodyLoose p l y (headSpec ws rm) cc maxL ret e s m args below meth c s₁ → c.maxLocals = maxL → Pc args s →
      W p l e (headSpec ws rm).room s m args below meth c s.heap [] 0 0 (vx_MQ below Qc XC args s mc ms free) (entryFrame m args maxL)) : vx_Met l y ws rm Pc Qc XC mc ms free := by
  refine MetFree.of_bodyS (code := cc) (maxLocals := maxL) (ret := ret) hy ?_ ?_
  · intro args s m h hn
    obtain ⟨m9, meth, c, hn9, h1, h2, h3, h4, -, h5, h6, -⟩ := Cond.codeWith_spec (atoms_spec (ws := ws) h _ (by rw [hw]; exact List.mem_cons_self))
    cases hn.symm.trans hn9
    exact ⟨meth, c, h1, h2, h3, h4, h5, h6⟩
  · intro p e s m args below meth c s₁ B hml hP _
    have hh0 : s₁.heap = s.heap := by rw [B.state]; rfl
    obtain ⟨t, a1, o, b1, b2, b3⟩ := body p e s m args below meth c s₁ B hml hP s₁ hh0 (Stand.of_body B)
    exact ⟨t, o, a1, b1, b2, b3⟩
/-! ===== END ===== -/
end
section
-- ===== PART A: goes FIRST, ahead of the names: the tables' words, and 'selects' of the private methods out of them =====
/-- a private method of a class that the tables say can be made, by its rows of tables_1 -/
def lw_okq (q : MethodName × Nat) : Prop := (q.1.cls ≠ "java/lang/invoke/MethodHandle" ∧ q.1.cls ≠ "java/lang/invoke/VarHandle") ∧ Cond.instantiable q.1.cls q.2 ∈ tables_1 ∧ Cond.privateMethod q.1 ∈ tables_1 ∧ Cond.instanceMethod q.1 ∈ tables_1
theorem lw_p0 : lw_okq (⟨"PatronHall", "howManyWait", "()I"⟩, 8) := ⟨⟨by decide +kernel, by decide +kernel⟩, List.mem_of_getElem? (i := 22) (by decide +kernel), List.mem_of_getElem? (i := 195) (by decide +kernel), List.mem_of_getElem? (i := 196) (by decide +kernel)⟩
theorem lw_p1 : lw_okq (⟨"java/lang/Throwable", "fillInStackTrace", "(I)Ljava/lang/Throwable;"⟩, 6) := ⟨⟨by decide +kernel, by decide +kernel⟩, List.mem_of_getElem? (i := 253) (by decide +kernel), List.mem_of_getElem? (i := 251) (by decide +kernel), List.mem_of_getElem? (i := 252) (by decide +kernel)⟩
theorem lw_p2 : lw_okq (⟨"PatronHall", "takeTape", "()I"⟩, 8) := ⟨⟨by decide +kernel, by decide +kernel⟩, List.mem_of_getElem? (i := 22) (by decide +kernel), List.mem_of_getElem? (i := 306) (by decide +kernel), List.mem_of_getElem? (i := 307) (by decide +kernel)⟩
theorem lw_p3 : lw_okq (⟨"PatronHall", "patronOf", "(I)LPatronHall$Patron;"⟩, 8) := ⟨⟨by decide +kernel, by decide +kernel⟩, List.mem_of_getElem? (i := 22) (by decide +kernel), List.mem_of_getElem? (i := 310) (by decide +kernel), List.mem_of_getElem? (i := 311) (by decide +kernel)⟩
theorem lw_p4 : lw_okq (⟨"PatronHall", "nextMoment", "()I"⟩, 8) := ⟨⟨by decide +kernel, by decide +kernel⟩, List.mem_of_getElem? (i := 22) (by decide +kernel), List.mem_of_getElem? (i := 343) (by decide +kernel), List.mem_of_getElem? (i := 344) (by decide +kernel)⟩
theorem lw_p5 : lw_okq (⟨"java/util/ArrayList", "add", "(Ljava/lang/Object;[Ljava/lang/Object;I)V"⟩, 3) := ⟨⟨by decide +kernel, by decide +kernel⟩, List.mem_of_getElem? (i := 32) (by decide +kernel), List.mem_of_getElem? (i := 381) (by decide +kernel), List.mem_of_getElem? (i := 382) (by decide +kernel)⟩
theorem lw_p6 : lw_okq (⟨"java/util/ArrayList", "grow", "()[Ljava/lang/Object;"⟩, 3) := ⟨⟨by decide +kernel, by decide +kernel⟩, List.mem_of_getElem? (i := 32) (by decide +kernel), List.mem_of_getElem? (i := 385) (by decide +kernel), List.mem_of_getElem? (i := 386) (by decide +kernel)⟩
theorem lw_p7 : lw_okq (⟨"java/util/ArrayList", "grow", "(I)[Ljava/lang/Object;"⟩, 3) := ⟨⟨by decide +kernel, by decide +kernel⟩, List.mem_of_getElem? (i := 32) (by decide +kernel), List.mem_of_getElem? (i := 389) (by decide +kernel), List.mem_of_getElem? (i := 390) (by decide +kernel)⟩
theorem lw_p8 : lw_okq (⟨"PatronHall", "requestOpen", "(LPatronHall$Patron;)V"⟩, 8) := ⟨⟨by decide +kernel, by decide +kernel⟩, List.mem_of_getElem? (i := 22) (by decide +kernel), List.mem_of_getElem? (i := 444) (by decide +kernel), List.mem_of_getElem? (i := 445) (by decide +kernel)⟩
theorem lw_p9 : lw_okq (⟨"PatronHall", "send", "(LPatronHall$Patron;)V"⟩, 8) := ⟨⟨by decide +kernel, by decide +kernel⟩, List.mem_of_getElem? (i := 22) (by decide +kernel), List.mem_of_getElem? (i := 448) (by decide +kernel), List.mem_of_getElem? (i := 449) (by decide +kernel)⟩
theorem lw_p10 : lw_okq (⟨"PatronHall", "abandon", "(LPatronHall$Patron;)V"⟩, 8) := ⟨⟨by decide +kernel, by decide +kernel⟩, List.mem_of_getElem? (i := 22) (by decide +kernel), List.mem_of_getElem? (i := 452) (by decide +kernel), List.mem_of_getElem? (i := 453) (by decide +kernel)⟩
theorem lw_p11 : lw_okq (⟨"PatronHall", "tell", "(LPatronHall$Patron;II)V"⟩, 8) := ⟨⟨by decide +kernel, by decide +kernel⟩, List.mem_of_getElem? (i := 22) (by decide +kernel), List.mem_of_getElem? (i := 456) (by decide +kernel), List.mem_of_getElem? (i := 457) (by decide +kernel)⟩
theorem lw_p12 : lw_okq (⟨"PatronHall", "makeAlarm", "(LPatronHall$Patron;IZ)V"⟩, 8) := ⟨⟨by decide +kernel, by decide +kernel⟩, List.mem_of_getElem? (i := 22) (by decide +kernel), List.mem_of_getElem? (i := 469) (by decide +kernel), List.mem_of_getElem? (i := 470) (by decide +kernel)⟩
theorem lw_p13 : lw_okq (⟨"PatronHall", "requestWhatWasAsked", "(LPatronHall$Patron;)V"⟩, 8) := ⟨⟨by decide +kernel, by decide +kernel⟩, List.mem_of_getElem? (i := 22) (by decide +kernel), List.mem_of_getElem? (i := 473) (by decide +kernel), List.mem_of_getElem? (i := 474) (by decide +kernel)⟩
theorem lw_p14 : lw_okq (⟨"PatronHall", "hearAnswer", "(LPatronHall$Patron;II)V"⟩, 8) := ⟨⟨by decide +kernel, by decide +kernel⟩, List.mem_of_getElem? (i := 22) (by decide +kernel), List.mem_of_getElem? (i := 496) (by decide +kernel), List.mem_of_getElem? (i := 497) (by decide +kernel)⟩
theorem lw_p15 : lw_okq (⟨"PatronHall", "hearWhoLeads", "(LPatronHall$Patron;I)V"⟩, 8) := ⟨⟨by decide +kernel, by decide +kernel⟩, List.mem_of_getElem? (i := 22) (by decide +kernel), List.mem_of_getElem? (i := 504) (by decide +kernel), List.mem_of_getElem? (i := 505) (by decide +kernel)⟩
def lw_privs_1 : List (MethodName × Nat) := [(⟨"PatronHall", "howManyWait", "()I"⟩, 8), (⟨"java/lang/Throwable", "fillInStackTrace", "(I)Ljava/lang/Throwable;"⟩, 6), (⟨"PatronHall", "takeTape", "()I"⟩, 8), (⟨"PatronHall", "patronOf", "(I)LPatronHall$Patron;"⟩, 8), (⟨"PatronHall", "nextMoment", "()I"⟩, 8), (⟨"java/util/ArrayList", "add", "(Ljava/lang/Object;[Ljava/lang/Object;I)V"⟩, 3), (⟨"java/util/ArrayList", "grow", "()[Ljava/lang/Object;"⟩, 3), (⟨"java/util/ArrayList", "grow", "(I)[Ljava/lang/Object;"⟩, 3), (⟨"PatronHall", "requestOpen", "(LPatronHall$Patron;)V"⟩, 8), (⟨"PatronHall", "send", "(LPatronHall$Patron;)V"⟩, 8), (⟨"PatronHall", "abandon", "(LPatronHall$Patron;)V"⟩, 8), (⟨"PatronHall", "tell", "(LPatronHall$Patron;II)V"⟩, 8), (⟨"PatronHall", "makeAlarm", "(LPatronHall$Patron;IZ)V"⟩, 8), (⟨"PatronHall", "requestWhatWasAsked", "(LPatronHall$Patron;)V"⟩, 8), (⟨"PatronHall", "hearAnswer", "(LPatronHall$Patron;II)V"⟩, 8), (⟨"PatronHall", "hearWhoLeads", "(LPatronHall$Patron;I)V"⟩, 8)]
theorem lw_r1 : ∀ q ∈ lw_privs_1, lw_okq q := List.forall_mem_cons.mpr ⟨lw_p0, List.forall_mem_cons.mpr ⟨lw_p1, List.forall_mem_cons.mpr ⟨lw_p2, List.forall_mem_cons.mpr ⟨lw_p3, List.forall_mem_cons.mpr ⟨lw_p4, List.forall_mem_cons.mpr ⟨lw_p5, List.forall_mem_cons.mpr ⟨lw_p6, List.forall_mem_cons.mpr ⟨lw_p7, List.forall_mem_cons.mpr ⟨lw_p8, List.forall_mem_cons.mpr ⟨lw_p9, List.forall_mem_cons.mpr ⟨lw_p10, List.forall_mem_cons.mpr ⟨lw_p11, List.forall_mem_cons.mpr ⟨lw_p12, List.forall_mem_cons.mpr ⟨lw_p13, List.forall_mem_cons.mpr ⟨lw_p14, List.forall_mem_cons.mpr ⟨lw_p15, fun _ h => absurd h List.not_mem_nil⟩⟩⟩⟩⟩⟩⟩⟩⟩⟩⟩⟩⟩⟩⟩⟩
theorem lw_p16 : lw_okq (⟨"PatronHall", "firstToRing", "(I)LPatronHall$Patron;"⟩, 8) := ⟨⟨by decide +kernel, by decide +kernel⟩, List.mem_of_getElem? (i := 22) (by decide +kernel), List.mem_of_getElem? (i := 520) (by decide +kernel), List.mem_of_getElem? (i := 521) (by decide +kernel)⟩
theorem lw_p17 : lw_okq (⟨"PatronHall", "ring", "(LPatronHall$Patron;)V"⟩, 8) := ⟨⟨by decide +kernel, by decide +kernel⟩, List.mem_of_getElem? (i := 22) (by decide +kernel), List.mem_of_getElem? (i := 528) (by decide +kernel), List.mem_of_getElem? (i := 529) (by decide +kernel)⟩
theorem lw_p18 : lw_okq (⟨"PatronHallModel", "fail", "(I)I"⟩, 26) := ⟨⟨by decide +kernel, by decide +kernel⟩, List.mem_of_getElem? (i := 586) (by decide +kernel), List.mem_of_getElem? (i := 683) (by decide +kernel), List.mem_of_getElem? (i := 684) (by decide +kernel)⟩
theorem lw_p19 : lw_okq (⟨"PatronHallModel", "begin", "(I)V"⟩, 26) := ⟨⟨by decide +kernel, by decide +kernel⟩, List.mem_of_getElem? (i := 586) (by decide +kernel), List.mem_of_getElem? (i := 698) (by decide +kernel), List.mem_of_getElem? (i := 699) (by decide +kernel)⟩
theorem lw_p20 : lw_okq (⟨"PatronHallModel", "go", "(I)V"⟩, 26) := ⟨⟨by decide +kernel, by decide +kernel⟩, List.mem_of_getElem? (i := 586) (by decide +kernel), List.mem_of_getElem? (i := 702) (by decide +kernel), List.mem_of_getElem? (i := 703) (by decide +kernel)⟩
theorem lw_p21 : lw_okq (⟨"PatronHallModel", "stop", "(I)V"⟩, 26) := ⟨⟨by decide +kernel, by decide +kernel⟩, List.mem_of_getElem? (i := 586) (by decide +kernel), List.mem_of_getElem? (i := 706) (by decide +kernel), List.mem_of_getElem? (i := 707) (by decide +kernel)⟩
theorem lw_p22 : lw_okq (⟨"PatronHallModel", "told", "(III)V"⟩, 26) := ⟨⟨by decide +kernel, by decide +kernel⟩, List.mem_of_getElem? (i := 586) (by decide +kernel), List.mem_of_getElem? (i := 710) (by decide +kernel), List.mem_of_getElem? (i := 711) (by decide +kernel)⟩
theorem lw_p23 : lw_okq (⟨"PatronHallModel", "noAlarm", "(I)V"⟩, 26) := ⟨⟨by decide +kernel, by decide +kernel⟩, List.mem_of_getElem? (i := 586) (by decide +kernel), List.mem_of_getElem? (i := 714) (by decide +kernel), List.mem_of_getElem? (i := 715) (by decide +kernel)⟩
theorem lw_p24 : lw_okq (⟨"PatronHallModel", "alarm", "(IIZ)V"⟩, 26) := ⟨⟨by decide +kernel, by decide +kernel⟩, List.mem_of_getElem? (i := 586) (by decide +kernel), List.mem_of_getElem? (i := 718) (by decide +kernel), List.mem_of_getElem? (i := 719) (by decide +kernel)⟩
theorem lw_p25 : lw_okq (⟨"PatronHallModel", "next", "(I)I"⟩, 26) := ⟨⟨by decide +kernel, by decide +kernel⟩, List.mem_of_getElem? (i := 586) (by decide +kernel), List.mem_of_getElem? (i := 735) (by decide +kernel), List.mem_of_getElem? (i := 736) (by decide +kernel)⟩
def lw_privs_2 : List (MethodName × Nat) := [(⟨"PatronHall", "firstToRing", "(I)LPatronHall$Patron;"⟩, 8), (⟨"PatronHall", "ring", "(LPatronHall$Patron;)V"⟩, 8), (⟨"PatronHallModel", "fail", "(I)I"⟩, 26), (⟨"PatronHallModel", "begin", "(I)V"⟩, 26), (⟨"PatronHallModel", "go", "(I)V"⟩, 26), (⟨"PatronHallModel", "stop", "(I)V"⟩, 26), (⟨"PatronHallModel", "told", "(III)V"⟩, 26), (⟨"PatronHallModel", "noAlarm", "(I)V"⟩, 26), (⟨"PatronHallModel", "alarm", "(IIZ)V"⟩, 26), (⟨"PatronHallModel", "next", "(I)I"⟩, 26)]
theorem lw_r2 : ∀ q ∈ lw_privs_2, lw_okq q := List.forall_mem_cons.mpr ⟨lw_p16, List.forall_mem_cons.mpr ⟨lw_p17, List.forall_mem_cons.mpr ⟨lw_p18, List.forall_mem_cons.mpr ⟨lw_p19, List.forall_mem_cons.mpr ⟨lw_p20, List.forall_mem_cons.mpr ⟨lw_p21, List.forall_mem_cons.mpr ⟨lw_p22, List.forall_mem_cons.mpr ⟨lw_p23, List.forall_mem_cons.mpr ⟨lw_p24, List.forall_mem_cons.mpr ⟨lw_p25, fun _ h => absurd h List.not_mem_nil⟩⟩⟩⟩⟩⟩⟩⟩⟩⟩
def lw_privs : List (MethodName × Nat) := lw_privs_1 ++ (lw_privs_2)
def lw_tbl : List Cond := k2_sels lw_privs ++ tables_1
theorem lw_privs_ok : ∀ q ∈ lw_privs, lw_okq q := by
  show ∀ q ∈ lw_privs_1 ++ (lw_privs_2), lw_okq q
  exact List.forall_mem_append.mpr ⟨lw_r1, lw_r2⟩
-- ===== end of PART A; then your names; then what follows =====
end
section
/-! names, by my own program out of the Statement: classes R, fields T (in the order of the words), methods y, codes c, words ws: a method's code and the tables' good words tbG -/
def RH : String := "PatronHall"
def TH : u_T := fun k => match k with
  | 0 => ("PatronHall", "patrons", "[LPatronHall$Patron;", true)
  | 1 => ("PatronHall", "askings", "Ljava/util/ArrayList;", true)
  | 2 => ("PatronHall", "log", "LPatronHall$RequestLog;", true)
  | 3 => ("PatronHall", "tape", "[B", true)
  | 4 => ("PatronHall", "tapeSize", "I", false)
  | 5 => ("PatronHall", "now", "I", false)
  | 6 => ("PatronHall", "moments", "I", false)
  | _ => ("PatronHall", "alarmsMade", "I", false)
def tyH : Nat → FieldType := fun k => match k with
  | 0 => .array (.object "PatronHall$Patron")
  | 1 => .object "java/util/ArrayList"
  | 2 => .object "PatronHall$RequestLog"
  | 3 => .array .byte
  | 4 => .int
  | 5 => .int
  | 6 => .int
  | _ => .int
theorem nmH : ∀ a, a < 8 → ∀ b, b < 8 → a ≠ b → (TH a).2.1 ≠ (TH b).2.1 := by decide +kernel
theorem tyH_ok : ∀ k, k < 8 → parseFieldDescriptor (TH k).2.2.1 = some (tyH k) := by decide +kernel
def RP : String := "PatronHall$Patron"
def TP : u_T := fun k => match k with
  | 0 => ("PatronHall$Patron", "index", "I", true)
  | 1 => ("PatronHall$Patron", "data", "[B", true)
  | 2 => ("PatronHall$Patron", "answer", "[B", true)
  | 3 => ("PatronHall$Patron", "dataSize", "I", false)
  | 4 => ("PatronHall$Patron", "answerSize", "I", false)
  | 5 => ("PatronHall$Patron", "asking", "LPatronHall$Asking;", false)
  | 6 => ("PatronHall$Patron", "kind", "I", false)
  | 7 => ("PatronHall$Patron", "target", "I", false)
  | 8 => ("PatronHall$Patron", "session", "I", false)
  | 9 => ("PatronHall$Patron", "serial", "I", false)
  | 10 => ("PatronHall$Patron", "number", "I", false)
  | 11 => ("PatronHall$Patron", "tries", "I", false)
  | 12 => ("PatronHall$Patron", "opening", "Z", false)
  | 13 => ("PatronHall$Patron", "alarmAt", "I", false)
  | 14 => ("PatronHall$Patron", "alarmOrder", "I", false)
  | _ => ("PatronHall$Patron", "impatient", "Z", false)
def tyP : Nat → FieldType := fun k => match k with
  | 0 => .int
  | 1 => .array .byte
  | 2 => .array .byte
  | 3 => .int
  | 4 => .int
  | 5 => .object "PatronHall$Asking"
  | 6 => .int
  | 7 => .int
  | 8 => .int
  | 9 => .int
  | 10 => .int
  | 11 => .int
  | 12 => .boolean
  | 13 => .int
  | 14 => .int
  | _ => .boolean
theorem nmP : ∀ a, a < 16 → ∀ b, b < 16 → a ≠ b → (TP a).2.1 ≠ (TP b).2.1 := by decide +kernel
theorem tyP_ok : ∀ k, k < 16 → parseFieldDescriptor (TP k).2.2.1 = some (tyP k) := by decide +kernel
def RQ : String := "PatronHall$Asking"
def TQ : u_T := fun k => match k with
  | 0 => ("PatronHall$Asking", "client", "I", true)
  | 1 => ("PatronHall$Asking", "kind", "I", true)
  | 2 => ("PatronHall$Asking", "moment", "I", true)
  | 3 => ("PatronHall$Asking", "toldMoment", "I", false)
  | 4 => ("PatronHall$Asking", "told", "I", false)
  | _ => ("PatronHall$Asking", "place", "I", false)
def tyQ : Nat → FieldType := fun k => match k with
  | 0 => .int
  | 1 => .int
  | 2 => .int
  | 3 => .int
  | 4 => .int
  | _ => .int
theorem nmQ : ∀ a, a < 6 → ∀ b, b < 6 → a ≠ b → (TQ a).2.1 ≠ (TQ b).2.1 := by decide +kernel
theorem tyQ_ok : ∀ k, k < 6 → parseFieldDescriptor (TQ k).2.2.1 = some (tyQ k) := by decide +kernel
def RG : String := "PatronHall$RequestLog"
def TG : u_T := fun k => match k with
  | 0 => ("PatronHall$RequestLog", "cells", "[I", true)
  | _ => ("PatronHall$RequestLog", "total", "I", false)
def tyG : Nat → FieldType := fun k => match k with
  | 0 => .array .int
  | _ => .int
theorem nmG : ∀ a, a < 2 → ∀ b, b < 2 → a ≠ b → (TG a).2.1 ≠ (TG b).2.1 := by decide +kernel
theorem tyG_ok : ∀ k, k < 2 → parseFieldDescriptor (TG k).2.2.1 = some (tyG k) := by decide +kernel
def RM : String := "PatronHallModel"
def TM : u_T := fun k => match k with
  | 0 => ("PatronHallModel", "thrown", "I", false)
  | 1 => ("PatronHallModel", "now", "I", false)
  | 2 => ("PatronHallModel", "moments", "I", false)
  | 3 => ("PatronHallModel", "made", "I", false)
  | 4 => ("PatronHallModel", "requests", "I", false)
  | 5 => ("PatronHallModel", "asked", "I", false)
  | 6 => ("PatronHallModel", "tape", "I", false)
  | 7 => ("PatronHallModel", "fed", "[I", true)
  | 8 => ("PatronHallModel", "waits", "[Z", true)
  | 9 => ("PatronHallModel", "targets", "[I", true)
  | 10 => ("PatronHallModel", "sessions", "[I", true)
  | 11 => ("PatronHallModel", "serials", "[I", true)
  | 12 => ("PatronHallModel", "numbers", "[I", true)
  | 13 => ("PatronHallModel", "tries", "[I", true)
  | 14 => ("PatronHallModel", "opens", "[Z", true)
  | 15 => ("PatronHallModel", "kinds", "[I", true)
  | 16 => ("PatronHallModel", "indexes", "[I", true)
  | 17 => ("PatronHallModel", "times", "[I", true)
  | 18 => ("PatronHallModel", "orders", "[I", true)
  | 19 => ("PatronHallModel", "impatient", "[Z", true)
  | 20 => ("PatronHallModel", "dataSizes", "[I", true)
  | 21 => ("PatronHallModel", "data", "[I", true)
  | 22 => ("PatronHallModel", "answerSizes", "[I", true)
  | 23 => ("PatronHallModel", "answers", "[I", true)
  | 24 => ("PatronHallModel", "sent", "[I", true)
  | _ => ("PatronHallModel", "history", "[I", true)
def tyM : Nat → FieldType := fun k => match k with
  | 0 => .int
  | 1 => .int
  | 2 => .int
  | 3 => .int
  | 4 => .int
  | 5 => .int
  | 6 => .int
  | 7 => .array .int
  | 8 => .array .boolean
  | 9 => .array .int
  | 10 => .array .int
  | 11 => .array .int
  | 12 => .array .int
  | 13 => .array .int
  | 14 => .array .boolean
  | 15 => .array .int
  | 16 => .array .int
  | 17 => .array .int
  | 18 => .array .int
  | 19 => .array .boolean
  | 20 => .array .int
  | 21 => .array .int
  | 22 => .array .int
  | 23 => .array .int
  | 24 => .array .int
  | _ => .array .int
theorem nmM : ∀ a, a < 26 → ∀ b, b < 26 → a ≠ b → (TM a).2.1 ≠ (TM b).2.1 := by decide +kernel
theorem tyM_ok : ∀ k, k < 26 → parseFieldDescriptor (TM k).2.2.1 = some (tyM k) := by decide +kernel
def RL : String := "java/util/ArrayList"
def TL : u_T := fun k => match k with
  | 0 => ("java/util/AbstractList", "modCount", "I", false)
  | 1 => ("java/util/ArrayList", "elementData", "[Ljava/lang/Object;", false)
  | _ => ("java/util/ArrayList", "size", "I", false)
def tyL : Nat → FieldType := fun k => match k with
  | 0 => .int
  | 1 => .array (.object "java/lang/Object")
  | _ => .int
theorem nmL : ∀ a, a < 3 → ∀ b, b < 3 → a ≠ b → (TL a).2.1 ≠ (TL b).2.1 := by decide +kernel
theorem tyL_ok : ∀ k, k < 3 → parseFieldDescriptor (TL k).2.2.1 = some (tyL k) := by decide +kernel
def RW : String := "PatronHallLaw"
def RA7 : String := "java/util/Arrays"
def RA8 : String := "jdk/internal/util/ArraysSupport"
def RO : String := "java/util/Objects"
def RC : String := "jdk/internal/util/Preconditions"
def RB : String := "java/util/AbstractList"
def RD : String := "java/util/AbstractCollection"
def tbG : List Cond := lw_tbl.filter goodWord
theorem tb_ok : ∀ w ∈ tbG, w ∈ lw_tbl := fun w h => (List.mem_filter.mp h).1
theorem tb_good : GoodIn tbG tbG := fun w h => ⟨h, good_of_word (List.mem_filter.mp h).2⟩
theorem gB {c : Cond} (h : c ∈ tbG) : GoodIn tbG (c :: tbG) := fun w hw => (List.mem_cons.mp hw).elim (fun e => e ▸ tb_good c h) (tb_good w)
theorem gW {ws : List Cond} (h : ∀ w ∈ ws, w ∈ tbG) : GoodIn tbG ws := fun w hw => tb_good w (h w hw)
theorem gV {own C : String} {idx : Nat} {y : MethodName} {c : Cond} (m1 : Cond.methodLink own idx y ∈ tbG) (m2 : Cond.instanceMethod y ∈ tbG) (m3 : Cond.selects C y y ∈ tbG) (m4 : Cond.initialized C ∈ tbG) (m5 : c ∈ tbG) : GoodIn tbG (wsV own idx C y (c :: tbG)) := goodIn_app (gW (fun w h => by simp only [List.mem_cons, List.not_mem_nil, or_false] at h; rcases h with rfl | rfl | rfl | rfl <;> assumption)) (gB m5)
theorem gS {own : String} {idx : Nat} {y : MethodName} {c : Cond} (m1 : Cond.methodLink own idx y ∈ tbG) (m2 : Cond.static y ∈ tbG) (m3 : Cond.initialized y.cls ∈ tbG) (m5 : c ∈ tbG) : GoodIn tbG (va_wsS own idx y (c :: tbG)) := goodIn_app (gW (fun w h => by simp only [List.mem_cons, List.not_mem_nil, or_false] at h; rcases h with rfl | rfl | rfl <;> assumption)) (gB m5)
theorem inH : ∀ w ∈ u_ws RH TH 8, w ∈ tbG := fun w h => List.mem_filter.mpr ⟨List.mem_append_right _ ((goodIn_r (big := tables_1) (u_ws RH TH 8) [158, 160, 162, 164, 166, 168, 170, 172] (by decide +kernel) (by decide +kernel) w h).1), List.all_eq_true.mp (by decide +kernel : (u_ws RH TH 8).all goodWord = true) w h⟩
theorem inP : ∀ w ∈ u_ws RP TP 16, w ∈ tbG := fun w h => List.mem_filter.mpr ⟨List.mem_append_right _ ((goodIn_r (big := tables_1) (u_ws RP TP 16) [116, 118, 120, 122, 124, 126, 128, 130, 132, 134, 136, 138, 140, 142, 144, 146] (by decide +kernel) (by decide +kernel) w h).1), List.all_eq_true.mp (by decide +kernel : (u_ws RP TP 16).all goodWord = true) w h⟩
theorem inQ : ∀ w ∈ u_ws RQ TQ 6, w ∈ tbG := fun w h => List.mem_filter.mpr ⟨List.mem_append_right _ ((goodIn_r (big := tables_1) (u_ws RQ TQ 6) [363, 365, 367, 369, 371, 373] (by decide +kernel) (by decide +kernel) w h).1), List.all_eq_true.mp (by decide +kernel : (u_ws RQ TQ 6).all goodWord = true) w h⟩
theorem inG : ∀ w ∈ u_ws RG TG 2, w ∈ tbG := fun w h => List.mem_filter.mpr ⟨List.mem_append_right _ ((goodIn_r (big := tables_1) (u_ws RG TG 2) [66, 68] (by decide +kernel) (by decide +kernel) w h).1), List.all_eq_true.mp (by decide +kernel : (u_ws RG TG 2).all goodWord = true) w h⟩
theorem inM : ∀ w ∈ u_ws RM TM 26, w ∈ tbG := fun w h => List.mem_filter.mpr ⟨List.mem_append_right _ ((goodIn_r (big := tables_1) (u_ws RM TM 26) [617, 619, 621, 623, 625, 627, 629, 631, 633, 635, 637, 639, 641, 643, 645, 647, 649, 651, 653, 655, 657, 659, 661, 663, 665, 667] (by decide +kernel) (by decide +kernel) w h).1), List.all_eq_true.mp (by decide +kernel : (u_ws RM TM 26).all goodWord = true) w h⟩
theorem inL : ∀ w ∈ u_ws RL TL 3, w ∈ tbG := fun w h => List.mem_filter.mpr ⟨List.mem_append_right _ ((goodIn_r (big := tables_1) (u_ws RL TL 3) [54, 50, 52] (by decide +kernel) (by decide +kernel) w h).1), List.all_eq_true.mp (by decide +kernel : (u_ws RL TL 3).all goodWord = true) w h⟩
abbrev clX : List vw_C := [(RH, TH, 8), (RP, TP, 16), (RQ, TQ, 6), (RG, TG, 2), (RL, TL, 3), (RM, TM, 26)]
abbrev cH_init : ByteArray := prog_1_method_1_code
def yH_init : MethodName := ⟨RH, "<init>", "()V"⟩
def wsH_init : List Cond := .code yH_init cH_init 2 none :: tbG
abbrev cL_init : ByteArray := prog_21_method_2_code
def yL_init : MethodName := ⟨RL, "<init>", "()V"⟩
def wsL_init : List Cond := .code yL_init cL_init 1 none :: tbG
abbrev cB_init : ByteArray := prog_20_method_1_code
def yB_init : MethodName := ⟨RB, "<init>", "()V"⟩
def wsB_init : List Cond := .code yB_init cB_init 1 none :: tbG
abbrev cD_init : ByteArray := prog_19_method_1_code
def yD_init : MethodName := ⟨RD, "<init>", "()V"⟩
def wsD_init : List Cond := .code yD_init cD_init 1 none :: tbG
abbrev cG_init : ByteArray := prog_4_method_1_code
def yG_init : MethodName := ⟨RG, "<init>", "()V"⟩
def wsG_init : List Cond := .code yG_init cG_init 1 none :: tbG
abbrev cP_init : ByteArray := prog_3_method_1_code
def yP_init : MethodName := ⟨RP, "<init>", "(I)V"⟩
def wsP_init : List Cond := .code yP_init cP_init 2 none :: tbG
abbrev cH_request : ByteArray := prog_1_method_8_code
def yH_request : MethodName := ⟨RH, "request", "(II)I"⟩
def wsH_request : List Cond := .code yH_request cH_request 3 (some .int) :: tbG
abbrev cG_cell : ByteArray := prog_4_method_3_code
def yG_cell : MethodName := ⟨RG, "cell", "(II)I"⟩
def wsG_cell : List Cond := .code yG_cell cG_cell 3 (some .int) :: tbG
abbrev cG_firstCell : ByteArray := prog_4_method_4_code
def yG_firstCell : MethodName := ⟨RG, "firstCell", "(I)I"⟩
def wsG_firstCell : List Cond := .code yG_firstCell cG_firstCell 1 (some .int) :: tbG
abbrev cH_count : ByteArray := prog_1_method_13_code
def yH_count : MethodName := ⟨RH, "count", "(I)I"⟩
def wsH_count : List Cond := .code yH_count cH_count 2 (some .int) :: tbG
abbrev cL_size : ByteArray := prog_21_method_8_code
def yL_size : MethodName := ⟨RL, "size", "()I"⟩
def wsL_size : List Cond := .code yL_size cL_size 1 (some .int) :: tbG
abbrev cH_howManyWait : ByteArray := prog_1_method_17_code
def yH_howManyWait : MethodName := ⟨RH, "howManyWait", "()I"⟩
def wsH_howManyWait : List Cond := .code yH_howManyWait cH_howManyWait 3 (some .int) :: tbG
abbrev cP_waits : ByteArray := prog_3_method_2_code
def yP_waits : MethodName := ⟨RP, "waits", "()Z"⟩
def wsP_waits : List Cond := .code yP_waits cP_waits 1 (some .boolean) :: tbG
abbrev cH_asInt : ByteArray := prog_1_method_28_code
def yH_asInt : MethodName := ⟨RH, "asInt", "(Z)I"⟩
def wsH_asInt : List Cond := .code yH_asInt cH_asInt 1 (some .int) :: tbG
abbrev cW_feed : ByteArray := method_3_code
def yW_feed : MethodName := ⟨RW, "feed", "(LPatronHall;JI[J)I"⟩
def wsW_feed : List Cond := .codeWith yW_feed cW_feed 6 (some .int) [(0, 11, 14, 13), (0, 11, 18, 15)] :: tbG
abbrev cH_feed : ByteArray := prog_1_method_2_code
def yH_feed : MethodName := ⟨RH, "feed", "(JI)I"⟩
def wsH_feed : List Cond := .code yH_feed cH_feed 5 (some .int) :: tbG
abbrev cW_ask : ByteArray := method_4_code
def yW_ask : MethodName := ⟨RW, "ask", "(LPatronHall;IIII[J)I"⟩
def wsW_ask : List Cond := .codeWith yW_ask cW_ask 7 (some .int) [(0, 14, 17, 21), (0, 14, 21, 13), (0, 14, 25, 15)] :: tbG
abbrev cH_ask : ByteArray := prog_1_method_3_code
def yH_ask : MethodName := ⟨RH, "ask", "(IIII)I"⟩
def wsH_ask : List Cond := .code yH_ask cH_ask 9 (some .int) :: tbG
abbrev cH_takeTape : ByteArray := prog_1_method_15_code
def yH_takeTape : MethodName := ⟨RH, "takeTape", "()I"⟩
def wsH_takeTape : List Cond := .code yH_takeTape cH_takeTape 2 (some .int) :: tbG
abbrev cH_patronOf : ByteArray := prog_1_method_14_code
def yH_patronOf : MethodName := ⟨RH, "patronOf", "(I)LPatronHall$Patron;"⟩
def wsH_patronOf : List Cond := .code yH_patronOf cH_patronOf 2 (some (.object "PatronHall$Patron")) :: tbG
abbrev cH_canBeAsked : ByteArray := prog_1_method_32_code
def yH_canBeAsked : MethodName := ⟨RH, "canBeAsked", "(IIII)Z"⟩
def wsH_canBeAsked : List Cond := .code yH_canBeAsked cH_canBeAsked 5 (some .boolean) :: tbG
abbrev cH_isKeySize : ByteArray := prog_1_method_30_code
def yH_isKeySize : MethodName := ⟨RH, "isKeySize", "(I)Z"⟩
def wsH_isKeySize : List Cond := .code yH_isKeySize cH_isKeySize 1 (some .boolean) :: tbG
abbrev cH_isValueSize : ByteArray := prog_1_method_31_code
def yH_isValueSize : MethodName := ⟨RH, "isValueSize", "(I)Z"⟩
def wsH_isValueSize : List Cond := .code yH_isValueSize cH_isValueSize 1 (some .boolean) :: tbG
abbrev cH_nextMoment : ByteArray := prog_1_method_16_code
def yH_nextMoment : MethodName := ⟨RH, "nextMoment", "()I"⟩
def wsH_nextMoment : List Cond := .code yH_nextMoment cH_nextMoment 2 (some .int) :: tbG
abbrev cQ_init : ByteArray := prog_2_method_1_code
def yQ_init : MethodName := ⟨RQ, "<init>", "(III)V"⟩
def wsQ_init : List Cond := .code yQ_init cQ_init 4 none :: tbG
abbrev cL_add : ByteArray := prog_21_method_25_code
def yL_add : MethodName := ⟨RL, "add", "(Ljava/lang/Object;)Z"⟩
def wsL_add : List Cond := .code yL_add cL_add 2 (some .boolean) :: tbG
abbrev cL_add_ : ByteArray := prog_21_method_24_code
def yL_add_ : MethodName := ⟨RL, "add", "(Ljava/lang/Object;[Ljava/lang/Object;I)V"⟩
def wsL_add_ : List Cond := .code yL_add_ cL_add_ 4 none :: tbG
abbrev cL_grow : ByteArray := prog_21_method_7_code
def yL_grow : MethodName := ⟨RL, "grow", "()[Ljava/lang/Object;"⟩
def wsL_grow : List Cond := .code yL_grow cL_grow 1 (some (.array (.object "java/lang/Object"))) :: tbG
abbrev cL_grow_ : ByteArray := prog_21_method_6_code
def yL_grow_ : MethodName := ⟨RL, "grow", "(I)[Ljava/lang/Object;"⟩
def wsL_grow_ : List Cond := .code yL_grow_ cL_grow_ 4 (some (.array (.object "java/lang/Object"))) :: tbG
abbrev cA8_newLength : ByteArray := prog_28_method_27_code
def yA8_newLength : MethodName := ⟨RA8, "newLength", "(III)I"⟩
def wsA8_newLength : List Cond := .code yA8_newLength cA8_newLength 4 (some .int) :: tbG
abbrev cA8_hugeLength : ByteArray := prog_28_method_28_code
def yA8_hugeLength : MethodName := ⟨RA8, "hugeLength", "(II)I"⟩
def wsA8_hugeLength : List Cond := .code yA8_hugeLength cA8_hugeLength 3 (some .int) :: tbG
abbrev cA7_copyOf : ByteArray := prog_22_method_119_code
def yA7_copyOf : MethodName := ⟨RA7, "copyOf", "([Ljava/lang/Object;I)[Ljava/lang/Object;"⟩
def wsA7_copyOf : List Cond := .code yA7_copyOf cA7_copyOf 2 (some (.array (.object "java/lang/Object"))) :: tbG
abbrev cA7_copyOf_ : ByteArray := prog_22_method_120_code
def yA7_copyOf_ : MethodName := ⟨RA7, "copyOf", "([Ljava/lang/Object;ILjava/lang/Class;)[Ljava/lang/Object;"⟩
def wsA7_copyOf_ : List Cond := .code yA7_copyOf_ cA7_copyOf_ 4 (some (.array (.object "java/lang/Object"))) :: tbG
abbrev cP_begin : ByteArray := prog_3_method_3_code
def yP_begin : MethodName := ⟨RP, "begin", "(LPatronHall$Asking;[BI)V"⟩
def wsP_begin : List Cond := .code yP_begin cP_begin 4 none :: tbG
abbrev cP_copyInto : ByteArray := prog_3_method_8_code
def yP_copyInto : MethodName := ⟨RP, "copyInto", "([B[BI)I"⟩
def wsP_copyInto : List Cond := .code yP_copyInto cP_copyInto 5 (some .int) :: tbG
abbrev cH_isCommand : ByteArray := prog_1_method_29_code
def yH_isCommand : MethodName := ⟨RH, "isCommand", "(I)Z"⟩
def wsH_isCommand : List Cond := .code yH_isCommand cH_isCommand 1 (some .boolean) :: tbG
abbrev cH_requestOpen : ByteArray := prog_1_method_18_code
def yH_requestOpen : MethodName := ⟨RH, "requestOpen", "(LPatronHall$Patron;)V"⟩
def wsH_requestOpen : List Cond := .code yH_requestOpen cH_requestOpen 2 none :: tbG
abbrev cH_send : ByteArray := prog_1_method_20_code
def yH_send : MethodName := ⟨RH, "send", "(LPatronHall$Patron;)V"⟩
def wsH_send : List Cond := .code yH_send cH_send 2 none :: tbG
abbrev cH_abandon : ByteArray := prog_1_method_26_code
def yH_abandon : MethodName := ⟨RH, "abandon", "(LPatronHall$Patron;)V"⟩
def wsH_abandon : List Cond := .code yH_abandon cH_abandon 2 none :: tbG
abbrev cH_tell : ByteArray := prog_1_method_27_code
def yH_tell : MethodName := ⟨RH, "tell", "(LPatronHall$Patron;II)V"⟩
def wsH_tell : List Cond := .code yH_tell cH_tell 5 none :: tbG
abbrev cP_becomeIdle : ByteArray := prog_3_method_5_code
def yP_becomeIdle : MethodName := ⟨RP, "becomeIdle", "()V"⟩
def wsP_becomeIdle : List Cond := .code yP_becomeIdle cP_becomeIdle 1 none :: tbG
abbrev cG_add : ByteArray := prog_4_method_2_code
def yG_add : MethodName := ⟨RG, "add", "(LPatronHall$Patron;I)V"⟩
def wsG_add : List Cond := .code yG_add cG_add 5 none :: tbG
abbrev cH_makeAlarm : ByteArray := prog_1_method_21_code
def yH_makeAlarm : MethodName := ⟨RH, "makeAlarm", "(LPatronHall$Patron;IZ)V"⟩
def wsH_makeAlarm : List Cond := .code yH_makeAlarm cH_makeAlarm 4 none :: tbG
abbrev cH_requestWhatWasAsked : ByteArray := prog_1_method_19_code
def yH_requestWhatWasAsked : MethodName := ⟨RH, "requestWhatWasAsked", "(LPatronHall$Patron;)V"⟩
def wsH_requestWhatWasAsked : List Cond := .code yH_requestWhatWasAsked cH_requestWhatWasAsked 2 none :: tbG
abbrev cW_giveUp : ByteArray := method_5_code
def yW_giveUp : MethodName := ⟨RW, "giveUp", "(LPatronHall;I[J)I"⟩
def wsW_giveUp : List Cond := .codeWith yW_giveUp cW_giveUp 4 (some .int) [(0, 16, 19, 21)] :: tbG
abbrev cH_giveUp : ByteArray := prog_1_method_4_code
def yH_giveUp : MethodName := ⟨RH, "giveUp", "(I)Z"⟩
def wsH_giveUp : List Cond := .code yH_giveUp cH_giveUp 4 (some .boolean) :: tbG
abbrev cW_reply : ByteArray := method_6_code
def yW_reply : MethodName := ⟨RW, "reply", "(LPatronHall;IIII[J)I"⟩
def wsW_reply : List Cond := .codeWith yW_reply cW_reply 7 (some .int) [(0, 21, 24, 21), (0, 21, 28, 13)] :: tbG
abbrev cH_reply : ByteArray := prog_1_method_5_code
def yH_reply : MethodName := ⟨RH, "reply", "(IIII)Z"⟩
def wsH_reply : List Cond := .code yH_reply cH_reply 7 (some .boolean) :: tbG
abbrev cH_canBeReplied : ByteArray := prog_1_method_33_code
def yH_canBeReplied : MethodName := ⟨RH, "canBeReplied", "(III)Z"⟩
def wsH_canBeReplied : List Cond := .code yH_canBeReplied cH_canBeReplied 3 (some .boolean) :: tbG
abbrev cH_hearAnswer : ByteArray := prog_1_method_24_code
def yH_hearAnswer : MethodName := ⟨RH, "hearAnswer", "(LPatronHall$Patron;II)V"⟩
def wsH_hearAnswer : List Cond := .code yH_hearAnswer cH_hearAnswer 4 none :: tbG
abbrev cP_keepAnswer : ByteArray := prog_3_method_4_code
def yP_keepAnswer : MethodName := ⟨RP, "keepAnswer", "([BI)V"⟩
def wsP_keepAnswer : List Cond := .code yP_keepAnswer cP_keepAnswer 3 none :: tbG
abbrev cH_hearWhoLeads : ByteArray := prog_1_method_25_code
def yH_hearWhoLeads : MethodName := ⟨RH, "hearWhoLeads", "(LPatronHall$Patron;I)V"⟩
def wsH_hearWhoLeads : List Cond := .code yH_hearWhoLeads cH_hearWhoLeads 3 none :: tbG
abbrev cP_turnToNextServer : ByteArray := prog_3_method_6_code
def yP_turnToNextServer : MethodName := ⟨RP, "turnToNextServer", "()V"⟩
def wsP_turnToNextServer : List Cond := .code yP_turnToNextServer cP_turnToNextServer 1 none :: tbG
abbrev cW_tick : ByteArray := method_7_code
def yW_tick : MethodName := ⟨RW, "tick", "(LPatronHall;I[J)I"⟩
def wsW_tick : List Cond := .codeWith yW_tick cW_tick 4 (some .int) [(0, 9, 12, 13)] :: tbG
abbrev cH_tick : ByteArray := prog_1_method_6_code
def yH_tick : MethodName := ⟨RH, "tick", "(I)I"⟩
def wsH_tick : List Cond := .code yH_tick cH_tick 6 (some .int) :: tbG
abbrev cH_firstToRing : ByteArray := prog_1_method_23_code
def yH_firstToRing : MethodName := ⟨RH, "firstToRing", "(I)LPatronHall$Patron;"⟩
def wsH_firstToRing : List Cond := .code yH_firstToRing cH_firstToRing 5 (some (.object "PatronHall$Patron")) :: tbG
abbrev cP_ringsBefore : ByteArray := prog_3_method_7_code
def yP_ringsBefore : MethodName := ⟨RP, "ringsBefore", "(LPatronHall$Patron;)Z"⟩
def wsP_ringsBefore : List Cond := .code yP_ringsBefore cP_ringsBefore 2 (some .boolean) :: tbG
abbrev cH_ring : ByteArray := prog_1_method_22_code
def yH_ring : MethodName := ⟨RH, "ring", "(LPatronHall$Patron;)V"⟩
def wsH_ring : List Cond := .code yH_ring cH_ring 2 none :: tbG
abbrev cW_client : ByteArray := method_8_code
def yW_client : MethodName := ⟨RW, "client", "(LPatronHall;II[J)I"⟩
def wsW_client : List Cond := .codeWith yW_client cW_client 5 (some .int) [(0, 10, 13, 21)] :: tbG
abbrev cH_client : ByteArray := prog_1_method_7_code
def yH_client : MethodName := ⟨RH, "client", "(II)I"⟩
def wsH_client : List Cond := .code yH_client cH_client 4 (some .int) :: tbG
abbrev cW_dataAt : ByteArray := method_9_code
def yW_dataAt : MethodName := ⟨RW, "dataAt", "(LPatronHall;II[J)I"⟩
def wsW_dataAt : List Cond := .codeWith yW_dataAt cW_dataAt 5 (some .int) [(0, 10, 13, 21)] :: tbG
abbrev cH_dataAt : ByteArray := prog_1_method_9_code
def yH_dataAt : MethodName := ⟨RH, "dataAt", "(II)I"⟩
def wsH_dataAt : List Cond := .code yH_dataAt cH_dataAt 4 (some .int) :: tbG
abbrev cW_answer : ByteArray := method_10_code
def yW_answer : MethodName := ⟨RW, "answer", "(LPatronHall;I[J)I"⟩
def wsW_answer : List Cond := .codeWith yW_answer cW_answer 4 (some .int) [(0, 9, 12, 21)] :: tbG
abbrev cH_answer : ByteArray := prog_1_method_10_code
def yH_answer : MethodName := ⟨RH, "answer", "(I)I"⟩
def wsH_answer : List Cond := .code yH_answer cH_answer 2 (some .int) :: tbG
abbrev cW_answerAt : ByteArray := method_11_code
def yW_answerAt : MethodName := ⟨RW, "answerAt", "(LPatronHall;II[J)I"⟩
def wsW_answerAt : List Cond := .codeWith yW_answerAt cW_answerAt 5 (some .int) [(0, 10, 13, 21)] :: tbG
abbrev cH_answerAt : ByteArray := prog_1_method_11_code
def yH_answerAt : MethodName := ⟨RH, "answerAt", "(II)I"⟩
def wsH_answerAt : List Cond := .code yH_answerAt cH_answerAt 4 (some .int) :: tbG
abbrev cW_history : ByteArray := method_12_code
def yW_history : MethodName := ⟨RW, "history", "(LPatronHall;II[J)I"⟩
def wsW_history : List Cond := .codeWith yW_history cW_history 5 (some .int) [(0, 10, 13, 21)] :: tbG
abbrev cH_history : ByteArray := prog_1_method_12_code
def yH_history : MethodName := ⟨RH, "history", "(II)I"⟩
def wsH_history : List Cond := .code yH_history cH_history 4 (some .int) :: tbG
abbrev cL_get : ByteArray := prog_21_method_20_code
def yL_get : MethodName := ⟨RL, "get", "(I)Ljava/lang/Object;"⟩
def wsL_get : List Cond := .code yL_get cL_get 2 (some (.object "java/lang/Object")) :: tbG
abbrev cO_checkIndex : ByteArray := prog_25_method_17_code
def yO_checkIndex : MethodName := ⟨RO, "checkIndex", "(II)I"⟩
def wsO_checkIndex : List Cond := .code yO_checkIndex cO_checkIndex 2 (some .int) :: tbG
abbrev cC_checkIndex : ByteArray := prog_29_method_11_code
def yC_checkIndex : MethodName := ⟨RC, "checkIndex", "(IILjava/util/function/BiFunction;)I"⟩
def wsC_checkIndex : List Cond := .code yC_checkIndex cC_checkIndex 3 (some .int) :: tbG
abbrev cL_elementData : ByteArray := prog_21_method_18_code
def yL_elementData : MethodName := ⟨RL, "elementData", "(I)Ljava/lang/Object;"⟩
def wsL_elementData : List Cond := .code yL_elementData cL_elementData 2 (some (.object "java/lang/Object")) :: tbG
abbrev cM_init : ByteArray := prog_6_method_1_code
def yM_init : MethodName := ⟨RM, "<init>", "()V"⟩
def wsM_init : List Cond := .code yM_init cM_init 1 none :: tbG
abbrev cM_thrown : ByteArray := prog_6_method_2_code
def yM_thrown : MethodName := ⟨RM, "thrown", "()I"⟩
def wsM_thrown : List Cond := .code yM_thrown cM_thrown 1 (some .int) :: tbG
abbrev cM_feed : ByteArray := prog_6_method_6_code
def yM_feed : MethodName := ⟨RM, "feed", "(JI)I"⟩
def wsM_feed : List Cond := .code yM_feed cM_feed 5 (some .int) :: tbG
abbrev cM_within : ByteArray := prog_6_method_4_code
def yM_within : MethodName := ⟨RM, "within", "(III)Z"⟩
def wsM_within : List Cond := .code yM_within cM_within 3 (some .boolean) :: tbG
abbrev cM_fail : ByteArray := prog_6_method_3_code
def yM_fail : MethodName := ⟨RM, "fail", "(I)I"⟩
def wsM_fail : List Cond := .code yM_fail cM_fail 2 (some .int) :: tbG
abbrev cM_ask : ByteArray := prog_6_method_14_code
def yM_ask : MethodName := ⟨RM, "ask", "(IIII)I"⟩
def wsM_ask : List Cond := .code yM_ask cM_ask 8 (some .int) :: tbG
abbrev cM_isClient : ByteArray := prog_6_method_5_code
def yM_isClient : MethodName := ⟨RM, "isClient", "(I)Z"⟩
def wsM_isClient : List Cond := .code yM_isClient cM_isClient 1 (some .boolean) :: tbG
abbrev cM_fits : ByteArray := prog_6_method_13_code
def yM_fits : MethodName := ⟨RM, "fits", "(IIII)Z"⟩
def wsM_fits : List Cond := .code yM_fits cM_fits 5 (some .boolean) :: tbG
abbrev cM_begin : ByteArray := prog_6_method_12_code
def yM_begin : MethodName := ⟨RM, "begin", "(I)V"⟩
def wsM_begin : List Cond := .code yM_begin cM_begin 2 none :: tbG
abbrev cM_go : ByteArray := prog_6_method_11_code
def yM_go : MethodName := ⟨RM, "go", "(I)V"⟩
def wsM_go : List Cond := .code yM_go cM_go 4 none :: tbG
abbrev cM_stop : ByteArray := prog_6_method_10_code
def yM_stop : MethodName := ⟨RM, "stop", "(I)V"⟩
def wsM_stop : List Cond := .code yM_stop cM_stop 2 none :: tbG
abbrev cM_told : ByteArray := prog_6_method_9_code
def yM_told : MethodName := ⟨RM, "told", "(III)V"⟩
def wsM_told : List Cond := .code yM_told cM_told 5 none :: tbG
abbrev cM_noAlarm : ByteArray := prog_6_method_8_code
def yM_noAlarm : MethodName := ⟨RM, "noAlarm", "(I)V"⟩
def wsM_noAlarm : List Cond := .code yM_noAlarm cM_noAlarm 2 none :: tbG
abbrev cM_alarm : ByteArray := prog_6_method_7_code
def yM_alarm : MethodName := ⟨RM, "alarm", "(IIZ)V"⟩
def wsM_alarm : List Cond := .code yM_alarm cM_alarm 4 none :: tbG
abbrev cM_giveUp : ByteArray := prog_6_method_15_code
def yM_giveUp : MethodName := ⟨RM, "giveUp", "(I)Z"⟩
def wsM_giveUp : List Cond := .code yM_giveUp cM_giveUp 3 (some .boolean) :: tbG
abbrev cM_reply : ByteArray := prog_6_method_16_code
def yM_reply : MethodName := ⟨RM, "reply", "(IIII)Z"⟩
def wsM_reply : List Cond := .code yM_reply cM_reply 8 (some .boolean) :: tbG
abbrev cM_tick : ByteArray := prog_6_method_18_code
def yM_tick : MethodName := ⟨RM, "tick", "(I)I"⟩
def wsM_tick : List Cond := .code yM_tick cM_tick 5 (some .int) :: tbG
abbrev cM_next : ByteArray := prog_6_method_17_code
def yM_next : MethodName := ⟨RM, "next", "(I)I"⟩
def wsM_next : List Cond := .code yM_next cM_next 5 (some .int) :: tbG
abbrev cM_client : ByteArray := prog_6_method_19_code
def yM_client : MethodName := ⟨RM, "client", "(II)I"⟩
def wsM_client : List Cond := .code yM_client cM_client 3 (some .int) :: tbG
abbrev cM_request : ByteArray := prog_6_method_20_code
def yM_request : MethodName := ⟨RM, "request", "(II)I"⟩
def wsM_request : List Cond := .code yM_request cM_request 3 (some .int) :: tbG
abbrev cM_dataAt : ByteArray := prog_6_method_21_code
def yM_dataAt : MethodName := ⟨RM, "dataAt", "(II)I"⟩
def wsM_dataAt : List Cond := .code yM_dataAt cM_dataAt 3 (some .int) :: tbG
abbrev cM_answer : ByteArray := prog_6_method_22_code
def yM_answer : MethodName := ⟨RM, "answer", "(I)I"⟩
def wsM_answer : List Cond := .code yM_answer cM_answer 2 (some .int) :: tbG
abbrev cM_answerAt : ByteArray := prog_6_method_23_code
def yM_answerAt : MethodName := ⟨RM, "answerAt", "(II)I"⟩
def wsM_answerAt : List Cond := .code yM_answerAt cM_answerAt 3 (some .int) :: tbG
abbrev cM_history : ByteArray := prog_6_method_24_code
def yM_history : MethodName := ⟨RM, "history", "(II)I"⟩
def wsM_history : List Cond := .code yM_history cM_history 3 (some .int) :: tbG
abbrev cM_count : ByteArray := prog_6_method_25_code
def yM_count : MethodName := ⟨RM, "count", "(I)I"⟩
def wsM_count : List Cond := .code yM_count cM_count 4 (some .int) :: tbG
end
section
theorem tp_0 : (Cond.selects "PatronHall" ⟨"PatronHall", "howManyWait", "()I"⟩ ⟨"PatronHall", "howManyWait", "()I"⟩) ∈ tbG := List.mem_filter.mpr ⟨List.mem_append_left _ (List.mem_of_getElem? (i := 0) (by decide +kernel)), by decide +kernel⟩
theorem tp_2 : (Cond.selects "PatronHall" ⟨"PatronHall", "takeTape", "()I"⟩ ⟨"PatronHall", "takeTape", "()I"⟩) ∈ tbG := List.mem_filter.mpr ⟨List.mem_append_left _ (List.mem_of_getElem? (i := 2) (by decide +kernel)), by decide +kernel⟩
theorem tp_3 : (Cond.selects "PatronHall" ⟨"PatronHall", "patronOf", "(I)LPatronHall$Patron;"⟩ ⟨"PatronHall", "patronOf", "(I)LPatronHall$Patron;"⟩) ∈ tbG := List.mem_filter.mpr ⟨List.mem_append_left _ (List.mem_of_getElem? (i := 3) (by decide +kernel)), by decide +kernel⟩
theorem tp_4 : (Cond.selects "PatronHall" ⟨"PatronHall", "nextMoment", "()I"⟩ ⟨"PatronHall", "nextMoment", "()I"⟩) ∈ tbG := List.mem_filter.mpr ⟨List.mem_append_left _ (List.mem_of_getElem? (i := 4) (by decide +kernel)), by decide +kernel⟩
theorem tp_9 : (Cond.selects "PatronHall" ⟨"PatronHall", "send", "(LPatronHall$Patron;)V"⟩ ⟨"PatronHall", "send", "(LPatronHall$Patron;)V"⟩) ∈ tbG := List.mem_filter.mpr ⟨List.mem_append_left _ (List.mem_of_getElem? (i := 9) (by decide +kernel)), by decide +kernel⟩
theorem tp_10 : (Cond.selects "PatronHall" ⟨"PatronHall", "abandon", "(LPatronHall$Patron;)V"⟩ ⟨"PatronHall", "abandon", "(LPatronHall$Patron;)V"⟩) ∈ tbG := List.mem_filter.mpr ⟨List.mem_append_left _ (List.mem_of_getElem? (i := 10) (by decide +kernel)), by decide +kernel⟩
theorem tp_11 : (Cond.selects "PatronHall" ⟨"PatronHall", "tell", "(LPatronHall$Patron;II)V"⟩ ⟨"PatronHall", "tell", "(LPatronHall$Patron;II)V"⟩) ∈ tbG := List.mem_filter.mpr ⟨List.mem_append_left _ (List.mem_of_getElem? (i := 11) (by decide +kernel)), by decide +kernel⟩
theorem tp_12 : (Cond.selects "PatronHall" ⟨"PatronHall", "makeAlarm", "(LPatronHall$Patron;IZ)V"⟩ ⟨"PatronHall", "makeAlarm", "(LPatronHall$Patron;IZ)V"⟩) ∈ tbG := List.mem_filter.mpr ⟨List.mem_append_left _ (List.mem_of_getElem? (i := 12) (by decide +kernel)), by decide +kernel⟩
theorem tp_13 : (Cond.selects "PatronHall" ⟨"PatronHall", "requestWhatWasAsked", "(LPatronHall$Patron;)V"⟩ ⟨"PatronHall", "requestWhatWasAsked", "(LPatronHall$Patron;)V"⟩) ∈ tbG := List.mem_filter.mpr ⟨List.mem_append_left _ (List.mem_of_getElem? (i := 13) (by decide +kernel)), by decide +kernel⟩
theorem tp_14 : (Cond.selects "PatronHall" ⟨"PatronHall", "hearAnswer", "(LPatronHall$Patron;II)V"⟩ ⟨"PatronHall", "hearAnswer", "(LPatronHall$Patron;II)V"⟩) ∈ tbG := List.mem_filter.mpr ⟨List.mem_append_left _ (List.mem_of_getElem? (i := 14) (by decide +kernel)), by decide +kernel⟩
theorem tp_15 : (Cond.selects "PatronHall" ⟨"PatronHall", "hearWhoLeads", "(LPatronHall$Patron;I)V"⟩ ⟨"PatronHall", "hearWhoLeads", "(LPatronHall$Patron;I)V"⟩) ∈ tbG := List.mem_filter.mpr ⟨List.mem_append_left _ (List.mem_of_getElem? (i := 15) (by decide +kernel)), by decide +kernel⟩
theorem tp_16 : (Cond.selects "PatronHall" ⟨"PatronHall", "firstToRing", "(I)LPatronHall$Patron;"⟩ ⟨"PatronHall", "firstToRing", "(I)LPatronHall$Patron;"⟩) ∈ tbG := List.mem_filter.mpr ⟨List.mem_append_left _ (List.mem_of_getElem? (i := 16) (by decide +kernel)), by decide +kernel⟩
theorem tp_17 : (Cond.selects "PatronHall" ⟨"PatronHall", "ring", "(LPatronHall$Patron;)V"⟩ ⟨"PatronHall", "ring", "(LPatronHall$Patron;)V"⟩) ∈ tbG := List.mem_filter.mpr ⟨List.mem_append_left _ (List.mem_of_getElem? (i := 17) (by decide +kernel)), by decide +kernel⟩
theorem tw_1 : (Cond.initialized "PatronHall") ∈ tbG := List.mem_filter.mpr ⟨List.mem_append_right _ (List.mem_of_getElem? (i := 1) (by decide +kernel)), by decide +kernel⟩
theorem tw_4 : (Cond.initialized "java/util/ArrayList") ∈ tbG := List.mem_filter.mpr ⟨List.mem_append_right _ (List.mem_of_getElem? (i := 4) (by decide +kernel)), by decide +kernel⟩
theorem tw_5 : (Cond.initialized "PatronHall$RequestLog") ∈ tbG := List.mem_filter.mpr ⟨List.mem_append_right _ (List.mem_of_getElem? (i := 5) (by decide +kernel)), by decide +kernel⟩
theorem tw_6 : (Cond.initialized "PatronHall$Patron") ∈ tbG := List.mem_filter.mpr ⟨List.mem_append_right _ (List.mem_of_getElem? (i := 6) (by decide +kernel)), by decide +kernel⟩
theorem tw_11 : (Cond.initialized "java/lang/IllegalArgumentException") ∈ tbG := List.mem_filter.mpr ⟨List.mem_append_right _ (List.mem_of_getElem? (i := 11) (by decide +kernel)), by decide +kernel⟩
theorem tw_12 : (Cond.initialized "java/lang/IllegalStateException") ∈ tbG := List.mem_filter.mpr ⟨List.mem_append_right _ (List.mem_of_getElem? (i := 12) (by decide +kernel)), by decide +kernel⟩
theorem tw_13 : (Cond.initialized "java/lang/IndexOutOfBoundsException") ∈ tbG := List.mem_filter.mpr ⟨List.mem_append_right _ (List.mem_of_getElem? (i := 13) (by decide +kernel)), by decide +kernel⟩
theorem tw_16 : (Cond.initialized "java/lang/Math") ∈ tbG := List.mem_filter.mpr ⟨List.mem_append_right _ (List.mem_of_getElem? (i := 16) (by decide +kernel)), by decide +kernel⟩
theorem tw_19 : (Cond.initialized "java/util/Objects") ∈ tbG := List.mem_filter.mpr ⟨List.mem_append_right _ (List.mem_of_getElem? (i := 19) (by decide +kernel)), by decide +kernel⟩
theorem tw_20 : (Cond.initialized "jdk/internal/util/Preconditions") ∈ tbG := List.mem_filter.mpr ⟨List.mem_append_right _ (List.mem_of_getElem? (i := 20) (by decide +kernel)), by decide +kernel⟩
theorem tw_45 : (Cond.fieldLink "java/util/ArrayList" 9 "java/util/ArrayList" "elementData" "[Ljava/lang/Object;") ∈ tbG := List.mem_filter.mpr ⟨List.mem_append_right _ (List.mem_of_getElem? (i := 45) (by decide +kernel)), by decide +kernel⟩
theorem tw_46 : (Cond.fieldLink "java/util/ArrayList" 48 "java/util/ArrayList" "size" "I") ∈ tbG := List.mem_filter.mpr ⟨List.mem_append_right _ (List.mem_of_getElem? (i := 46) (by decide +kernel)), by decide +kernel⟩
theorem tw_63 : (Cond.fieldLink "PatronHall$RequestLog" 11 "PatronHall$RequestLog" "cells" "[I") ∈ tbG := List.mem_filter.mpr ⟨List.mem_append_right _ (List.mem_of_getElem? (i := 63) (by decide +kernel)), by decide +kernel⟩
theorem tw_64 : (Cond.fieldLink "PatronHall$RequestLog" 15 "PatronHall$RequestLog" "total" "I") ∈ tbG := List.mem_filter.mpr ⟨List.mem_append_right _ (List.mem_of_getElem? (i := 64) (by decide +kernel)), by decide +kernel⟩
theorem tw_65 : (Cond.fieldLink "PatronHall" 223 "PatronHall$RequestLog" "total" "I") ∈ tbG := List.mem_filter.mpr ⟨List.mem_append_right _ (List.mem_of_getElem? (i := 65) (by decide +kernel)), by decide +kernel⟩
theorem tw_78 : (Cond.fieldLink "PatronHall$RequestLog" 36 "PatronHall$Patron" "index" "I") ∈ tbG := List.mem_filter.mpr ⟨List.mem_append_right _ (List.mem_of_getElem? (i := 78) (by decide +kernel)), by decide +kernel⟩
theorem tw_79 : (Cond.fieldLink "PatronHall$Patron" 9 "PatronHall$Patron" "data" "[B") ∈ tbG := List.mem_filter.mpr ⟨List.mem_append_right _ (List.mem_of_getElem? (i := 79) (by decide +kernel)), by decide +kernel⟩
theorem tw_80 : (Cond.fieldLink "PatronHall" 186 "PatronHall$Patron" "data" "[B") ∈ tbG := List.mem_filter.mpr ⟨List.mem_append_right _ (List.mem_of_getElem? (i := 80) (by decide +kernel)), by decide +kernel⟩
theorem tw_81 : (Cond.fieldLink "PatronHall$Patron" 15 "PatronHall$Patron" "answer" "[B") ∈ tbG := List.mem_filter.mpr ⟨List.mem_append_right _ (List.mem_of_getElem? (i := 81) (by decide +kernel)), by decide +kernel⟩
theorem tw_82 : (Cond.fieldLink "PatronHall" 194 "PatronHall$Patron" "answer" "[B") ∈ tbG := List.mem_filter.mpr ⟨List.mem_append_right _ (List.mem_of_getElem? (i := 82) (by decide +kernel)), by decide +kernel⟩
theorem tw_83 : (Cond.fieldLink "PatronHall$Patron" 18 "PatronHall$Patron" "dataSize" "I") ∈ tbG := List.mem_filter.mpr ⟨List.mem_append_right _ (List.mem_of_getElem? (i := 83) (by decide +kernel)), by decide +kernel⟩
theorem tw_84 : (Cond.fieldLink "PatronHall$RequestLog" 51 "PatronHall$Patron" "dataSize" "I") ∈ tbG := List.mem_filter.mpr ⟨List.mem_append_right _ (List.mem_of_getElem? (i := 84) (by decide +kernel)), by decide +kernel⟩
theorem tw_85 : (Cond.fieldLink "PatronHall" 181 "PatronHall$Patron" "dataSize" "I") ∈ tbG := List.mem_filter.mpr ⟨List.mem_append_right _ (List.mem_of_getElem? (i := 85) (by decide +kernel)), by decide +kernel⟩
theorem tw_86 : (Cond.fieldLink "PatronHall$Patron" 22 "PatronHall$Patron" "answerSize" "I") ∈ tbG := List.mem_filter.mpr ⟨List.mem_append_right _ (List.mem_of_getElem? (i := 86) (by decide +kernel)), by decide +kernel⟩
theorem tw_87 : (Cond.fieldLink "PatronHall" 189 "PatronHall$Patron" "answerSize" "I") ∈ tbG := List.mem_filter.mpr ⟨List.mem_append_right _ (List.mem_of_getElem? (i := 87) (by decide +kernel)), by decide +kernel⟩
theorem tw_88 : (Cond.fieldLink "PatronHall$Patron" 25 "PatronHall$Patron" "asking" "LPatronHall$Asking;") ∈ tbG := List.mem_filter.mpr ⟨List.mem_append_right _ (List.mem_of_getElem? (i := 88) (by decide +kernel)), by decide +kernel⟩
theorem tw_89 : (Cond.fieldLink "PatronHall" 251 "PatronHall$Patron" "asking" "LPatronHall$Asking;") ∈ tbG := List.mem_filter.mpr ⟨List.mem_append_right _ (List.mem_of_getElem? (i := 89) (by decide +kernel)), by decide +kernel⟩
theorem tw_90 : (Cond.fieldLink "PatronHall$Patron" 29 "PatronHall$Patron" "kind" "I") ∈ tbG := List.mem_filter.mpr ⟨List.mem_append_right _ (List.mem_of_getElem? (i := 90) (by decide +kernel)), by decide +kernel⟩
theorem tw_91 : (Cond.fieldLink "PatronHall$RequestLog" 25 "PatronHall$Patron" "kind" "I") ∈ tbG := List.mem_filter.mpr ⟨List.mem_append_right _ (List.mem_of_getElem? (i := 91) (by decide +kernel)), by decide +kernel⟩
theorem tw_92 : (Cond.fieldLink "PatronHall" 234 "PatronHall$Patron" "kind" "I") ∈ tbG := List.mem_filter.mpr ⟨List.mem_append_right _ (List.mem_of_getElem? (i := 92) (by decide +kernel)), by decide +kernel⟩
theorem tw_93 : (Cond.fieldLink "PatronHall$Patron" 32 "PatronHall$Patron" "target" "I") ∈ tbG := List.mem_filter.mpr ⟨List.mem_append_right _ (List.mem_of_getElem? (i := 93) (by decide +kernel)), by decide +kernel⟩
theorem tw_94 : (Cond.fieldLink "PatronHall$RequestLog" 39 "PatronHall$Patron" "target" "I") ∈ tbG := List.mem_filter.mpr ⟨List.mem_append_right _ (List.mem_of_getElem? (i := 94) (by decide +kernel)), by decide +kernel⟩
theorem tw_95 : (Cond.fieldLink "PatronHall" 156 "PatronHall$Patron" "target" "I") ∈ tbG := List.mem_filter.mpr ⟨List.mem_append_right _ (List.mem_of_getElem? (i := 95) (by decide +kernel)), by decide +kernel⟩
theorem tw_97 : (Cond.fieldLink "PatronHall$RequestLog" 45 "PatronHall$Patron" "session" "I") ∈ tbG := List.mem_filter.mpr ⟨List.mem_append_right _ (List.mem_of_getElem? (i := 97) (by decide +kernel)), by decide +kernel⟩
theorem tw_98 : (Cond.fieldLink "PatronHall" 104 "PatronHall$Patron" "session" "I") ∈ tbG := List.mem_filter.mpr ⟨List.mem_append_right _ (List.mem_of_getElem? (i := 98) (by decide +kernel)), by decide +kernel⟩
theorem tw_100 : (Cond.fieldLink "PatronHall$RequestLog" 48 "PatronHall$Patron" "serial" "I") ∈ tbG := List.mem_filter.mpr ⟨List.mem_append_right _ (List.mem_of_getElem? (i := 100) (by decide +kernel)), by decide +kernel⟩
theorem tw_101 : (Cond.fieldLink "PatronHall" 159 "PatronHall$Patron" "serial" "I") ∈ tbG := List.mem_filter.mpr ⟨List.mem_append_right _ (List.mem_of_getElem? (i := 101) (by decide +kernel)), by decide +kernel⟩
theorem tw_103 : (Cond.fieldLink "PatronHall$RequestLog" 42 "PatronHall$Patron" "number" "I") ∈ tbG := List.mem_filter.mpr ⟨List.mem_append_right _ (List.mem_of_getElem? (i := 103) (by decide +kernel)), by decide +kernel⟩
theorem tw_104 : (Cond.fieldLink "PatronHall" 123 "PatronHall$Patron" "number" "I") ∈ tbG := List.mem_filter.mpr ⟨List.mem_append_right _ (List.mem_of_getElem? (i := 104) (by decide +kernel)), by decide +kernel⟩
theorem tw_105 : (Cond.fieldLink "PatronHall$Patron" 44 "PatronHall$Patron" "tries" "I") ∈ tbG := List.mem_filter.mpr ⟨List.mem_append_right _ (List.mem_of_getElem? (i := 105) (by decide +kernel)), by decide +kernel⟩
theorem tw_106 : (Cond.fieldLink "PatronHall" 162 "PatronHall$Patron" "tries" "I") ∈ tbG := List.mem_filter.mpr ⟨List.mem_append_right _ (List.mem_of_getElem? (i := 106) (by decide +kernel)), by decide +kernel⟩
theorem tw_107 : (Cond.fieldLink "PatronHall$Patron" 47 "PatronHall$Patron" "opening" "Z") ∈ tbG := List.mem_filter.mpr ⟨List.mem_append_right _ (List.mem_of_getElem? (i := 107) (by decide +kernel)), by decide +kernel⟩
theorem tw_108 : (Cond.fieldLink "PatronHall$RequestLog" 19 "PatronHall$Patron" "opening" "Z") ∈ tbG := List.mem_filter.mpr ⟨List.mem_append_right _ (List.mem_of_getElem? (i := 108) (by decide +kernel)), by decide +kernel⟩
theorem tw_109 : (Cond.fieldLink "PatronHall" 169 "PatronHall$Patron" "opening" "Z") ∈ tbG := List.mem_filter.mpr ⟨List.mem_append_right _ (List.mem_of_getElem? (i := 109) (by decide +kernel)), by decide +kernel⟩
theorem tw_110 : (Cond.fieldLink "PatronHall$Patron" 51 "PatronHall$Patron" "alarmAt" "I") ∈ tbG := List.mem_filter.mpr ⟨List.mem_append_right _ (List.mem_of_getElem? (i := 110) (by decide +kernel)), by decide +kernel⟩
theorem tw_111 : (Cond.fieldLink "PatronHall" 146 "PatronHall$Patron" "alarmAt" "I") ∈ tbG := List.mem_filter.mpr ⟨List.mem_append_right _ (List.mem_of_getElem? (i := 111) (by decide +kernel)), by decide +kernel⟩
theorem tw_112 : (Cond.fieldLink "PatronHall$Patron" 54 "PatronHall$Patron" "alarmOrder" "I") ∈ tbG := List.mem_filter.mpr ⟨List.mem_append_right _ (List.mem_of_getElem? (i := 112) (by decide +kernel)), by decide +kernel⟩
theorem tw_113 : (Cond.fieldLink "PatronHall" 237 "PatronHall$Patron" "alarmOrder" "I") ∈ tbG := List.mem_filter.mpr ⟨List.mem_append_right _ (List.mem_of_getElem? (i := 113) (by decide +kernel)), by decide +kernel⟩
theorem tw_114 : (Cond.fieldLink "PatronHall$Patron" 57 "PatronHall$Patron" "impatient" "Z") ∈ tbG := List.mem_filter.mpr ⟨List.mem_append_right _ (List.mem_of_getElem? (i := 114) (by decide +kernel)), by decide +kernel⟩
theorem tw_115 : (Cond.fieldLink "PatronHall" 165 "PatronHall$Patron" "impatient" "Z") ∈ tbG := List.mem_filter.mpr ⟨List.mem_append_right _ (List.mem_of_getElem? (i := 115) (by decide +kernel)), by decide +kernel⟩
theorem tw_150 : (Cond.fieldLink "PatronHall" 11 "PatronHall" "patrons" "[LPatronHall$Patron;") ∈ tbG := List.mem_filter.mpr ⟨List.mem_append_right _ (List.mem_of_getElem? (i := 150) (by decide +kernel)), by decide +kernel⟩
theorem tw_151 : (Cond.fieldLink "PatronHall" 18 "PatronHall" "askings" "Ljava/util/ArrayList;") ∈ tbG := List.mem_filter.mpr ⟨List.mem_append_right _ (List.mem_of_getElem? (i := 151) (by decide +kernel)), by decide +kernel⟩
theorem tw_152 : (Cond.fieldLink "PatronHall" 25 "PatronHall" "log" "LPatronHall$RequestLog;") ∈ tbG := List.mem_filter.mpr ⟨List.mem_append_right _ (List.mem_of_getElem? (i := 152) (by decide +kernel)), by decide +kernel⟩
theorem tw_153 : (Cond.fieldLink "PatronHall" 29 "PatronHall" "tape" "[B") ∈ tbG := List.mem_filter.mpr ⟨List.mem_append_right _ (List.mem_of_getElem? (i := 153) (by decide +kernel)), by decide +kernel⟩
theorem tw_154 : (Cond.fieldLink "PatronHall" 33 "PatronHall" "tapeSize" "I") ∈ tbG := List.mem_filter.mpr ⟨List.mem_append_right _ (List.mem_of_getElem? (i := 154) (by decide +kernel)), by decide +kernel⟩
theorem tw_155 : (Cond.fieldLink "PatronHall" 37 "PatronHall" "now" "I") ∈ tbG := List.mem_filter.mpr ⟨List.mem_append_right _ (List.mem_of_getElem? (i := 155) (by decide +kernel)), by decide +kernel⟩
theorem tw_156 : (Cond.fieldLink "PatronHall" 40 "PatronHall" "moments" "I") ∈ tbG := List.mem_filter.mpr ⟨List.mem_append_right _ (List.mem_of_getElem? (i := 156) (by decide +kernel)), by decide +kernel⟩
theorem tw_157 : (Cond.fieldLink "PatronHall" 43 "PatronHall" "alarmsMade" "I") ∈ tbG := List.mem_filter.mpr ⟨List.mem_append_right _ (List.mem_of_getElem? (i := 157) (by decide +kernel)), by decide +kernel⟩
theorem tw_179 : (Cond.methodLink "PatronHall" 177 ⟨"PatronHall$RequestLog", "cell", "(II)I"⟩) ∈ tbG := List.mem_filter.mpr ⟨List.mem_append_right _ (List.mem_of_getElem? (i := 179) (by decide +kernel)), by decide +kernel⟩
theorem tw_180 : (Cond.instanceMethod ⟨"PatronHall$RequestLog", "cell", "(II)I"⟩) ∈ tbG := List.mem_filter.mpr ⟨List.mem_append_right _ (List.mem_of_getElem? (i := 180) (by decide +kernel)), by decide +kernel⟩
theorem tw_181 : (Cond.selects "PatronHall$RequestLog" ⟨"PatronHall$RequestLog", "cell", "(II)I"⟩ ⟨"PatronHall$RequestLog", "cell", "(II)I"⟩) ∈ tbG := List.mem_filter.mpr ⟨List.mem_append_right _ (List.mem_of_getElem? (i := 181) (by decide +kernel)), by decide +kernel⟩
theorem tw_182 : (Cond.code ⟨"PatronHall$RequestLog", "cell", "(II)I"⟩ prog_4_method_3_code 3 (Option.some Jvm.ClassFile.FieldType.int)) ∈ tbG := List.mem_filter.mpr ⟨List.mem_append_right _ (List.mem_of_getElem? (i := 182) (by decide +kernel)), by decide +kernel⟩
theorem tw_183 : (Cond.methodLink "PatronHall$RequestLog" 32 ⟨"PatronHall$RequestLog", "firstCell", "(I)I"⟩) ∈ tbG := List.mem_filter.mpr ⟨List.mem_append_right _ (List.mem_of_getElem? (i := 183) (by decide +kernel)), by decide +kernel⟩
theorem tw_184 : (Cond.static ⟨"PatronHall$RequestLog", "firstCell", "(I)I"⟩) ∈ tbG := List.mem_filter.mpr ⟨List.mem_append_right _ (List.mem_of_getElem? (i := 184) (by decide +kernel)), by decide +kernel⟩
theorem tw_185 : (Cond.code ⟨"PatronHall$RequestLog", "firstCell", "(I)I"⟩ prog_4_method_4_code 1 (Option.some Jvm.ClassFile.FieldType.int)) ∈ tbG := List.mem_filter.mpr ⟨List.mem_append_right _ (List.mem_of_getElem? (i := 185) (by decide +kernel)), by decide +kernel⟩
theorem tw_190 : (Cond.methodLink "PatronHall" 75 ⟨"java/util/ArrayList", "size", "()I"⟩) ∈ tbG := List.mem_filter.mpr ⟨List.mem_append_right _ (List.mem_of_getElem? (i := 190) (by decide +kernel)), by decide +kernel⟩
theorem tw_191 : (Cond.instanceMethod ⟨"java/util/ArrayList", "size", "()I"⟩) ∈ tbG := List.mem_filter.mpr ⟨List.mem_append_right _ (List.mem_of_getElem? (i := 191) (by decide +kernel)), by decide +kernel⟩
theorem tw_192 : (Cond.selects "java/util/ArrayList" ⟨"java/util/ArrayList", "size", "()I"⟩ ⟨"java/util/ArrayList", "size", "()I"⟩) ∈ tbG := List.mem_filter.mpr ⟨List.mem_append_right _ (List.mem_of_getElem? (i := 192) (by decide +kernel)), by decide +kernel⟩
theorem tw_193 : (Cond.code ⟨"java/util/ArrayList", "size", "()I"⟩ prog_21_method_8_code 1 (Option.some Jvm.ClassFile.FieldType.int)) ∈ tbG := List.mem_filter.mpr ⟨List.mem_append_right _ (List.mem_of_getElem? (i := 193) (by decide +kernel)), by decide +kernel⟩
theorem tw_194 : (Cond.methodLink "PatronHall" 226 ⟨"PatronHall", "howManyWait", "()I"⟩) ∈ tbG := List.mem_filter.mpr ⟨List.mem_append_right _ (List.mem_of_getElem? (i := 194) (by decide +kernel)), by decide +kernel⟩
theorem tw_196 : (Cond.instanceMethod ⟨"PatronHall", "howManyWait", "()I"⟩) ∈ tbG := List.mem_filter.mpr ⟨List.mem_append_right _ (List.mem_of_getElem? (i := 196) (by decide +kernel)), by decide +kernel⟩
theorem tw_197 : (Cond.code ⟨"PatronHall", "howManyWait", "()I"⟩ prog_1_method_17_code 3 (Option.some Jvm.ClassFile.FieldType.int)) ∈ tbG := List.mem_filter.mpr ⟨List.mem_append_right _ (List.mem_of_getElem? (i := 197) (by decide +kernel)), by decide +kernel⟩
theorem tw_198 : (Cond.methodLink "PatronHall" 78 ⟨"PatronHall$Patron", "waits", "()Z"⟩) ∈ tbG := List.mem_filter.mpr ⟨List.mem_append_right _ (List.mem_of_getElem? (i := 198) (by decide +kernel)), by decide +kernel⟩
theorem tw_199 : (Cond.instanceMethod ⟨"PatronHall$Patron", "waits", "()Z"⟩) ∈ tbG := List.mem_filter.mpr ⟨List.mem_append_right _ (List.mem_of_getElem? (i := 199) (by decide +kernel)), by decide +kernel⟩
theorem tw_200 : (Cond.selects "PatronHall$Patron" ⟨"PatronHall$Patron", "waits", "()Z"⟩ ⟨"PatronHall$Patron", "waits", "()Z"⟩) ∈ tbG := List.mem_filter.mpr ⟨List.mem_append_right _ (List.mem_of_getElem? (i := 200) (by decide +kernel)), by decide +kernel⟩
theorem tw_201 : (Cond.code ⟨"PatronHall$Patron", "waits", "()Z"⟩ prog_3_method_2_code 1 (Option.some Jvm.ClassFile.FieldType.boolean)) ∈ tbG := List.mem_filter.mpr ⟨List.mem_append_right _ (List.mem_of_getElem? (i := 201) (by decide +kernel)), by decide +kernel⟩
theorem tw_202 : (Cond.methodLink "PatronHall" 152 ⟨"PatronHall", "asInt", "(Z)I"⟩) ∈ tbG := List.mem_filter.mpr ⟨List.mem_append_right _ (List.mem_of_getElem? (i := 202) (by decide +kernel)), by decide +kernel⟩
theorem tw_203 : (Cond.static ⟨"PatronHall", "asInt", "(Z)I"⟩) ∈ tbG := List.mem_filter.mpr ⟨List.mem_append_right _ (List.mem_of_getElem? (i := 203) (by decide +kernel)), by decide +kernel⟩
theorem tw_204 : (Cond.code ⟨"PatronHall", "asInt", "(Z)I"⟩ prog_1_method_28_code 1 (Option.some Jvm.ClassFile.FieldType.int)) ∈ tbG := List.mem_filter.mpr ⟨List.mem_append_right _ (List.mem_of_getElem? (i := 204) (by decide +kernel)), by decide +kernel⟩
theorem tw_214 : (Cond.classLink "PatronHall" 49 "java/lang/IllegalArgumentException") ∈ tbG := List.mem_filter.mpr ⟨List.mem_append_right _ (List.mem_of_getElem? (i := 214) (by decide +kernel)), by decide +kernel⟩
theorem tw_281 : (Cond.classLink "PatronHall" 56 "java/lang/IllegalStateException") ∈ tbG := List.mem_filter.mpr ⟨List.mem_append_right _ (List.mem_of_getElem? (i := 281) (by decide +kernel)), by decide +kernel⟩
theorem tw_305 : (Cond.methodLink "PatronHall" 61 ⟨"PatronHall", "takeTape", "()I"⟩) ∈ tbG := List.mem_filter.mpr ⟨List.mem_append_right _ (List.mem_of_getElem? (i := 305) (by decide +kernel)), by decide +kernel⟩
theorem tw_307 : (Cond.instanceMethod ⟨"PatronHall", "takeTape", "()I"⟩) ∈ tbG := List.mem_filter.mpr ⟨List.mem_append_right _ (List.mem_of_getElem? (i := 307) (by decide +kernel)), by decide +kernel⟩
theorem tw_308 : (Cond.code ⟨"PatronHall", "takeTape", "()I"⟩ prog_1_method_15_code 2 (Option.some Jvm.ClassFile.FieldType.int)) ∈ tbG := List.mem_filter.mpr ⟨List.mem_append_right _ (List.mem_of_getElem? (i := 308) (by decide +kernel)), by decide +kernel⟩
theorem tw_309 : (Cond.methodLink "PatronHall" 65 ⟨"PatronHall", "patronOf", "(I)LPatronHall$Patron;"⟩) ∈ tbG := List.mem_filter.mpr ⟨List.mem_append_right _ (List.mem_of_getElem? (i := 309) (by decide +kernel)), by decide +kernel⟩
theorem tw_311 : (Cond.instanceMethod ⟨"PatronHall", "patronOf", "(I)LPatronHall$Patron;"⟩) ∈ tbG := List.mem_filter.mpr ⟨List.mem_append_right _ (List.mem_of_getElem? (i := 311) (by decide +kernel)), by decide +kernel⟩
theorem tw_312 : (Cond.code ⟨"PatronHall", "patronOf", "(I)LPatronHall$Patron;"⟩ prog_1_method_14_code 2 (Option.some (Jvm.ClassFile.FieldType.object "PatronHall$Patron"))) ∈ tbG := List.mem_filter.mpr ⟨List.mem_append_right _ (List.mem_of_getElem? (i := 312) (by decide +kernel)), by decide +kernel⟩
theorem tw_313 : (Cond.classLink "PatronHall" 172 "java/lang/IndexOutOfBoundsException") ∈ tbG := List.mem_filter.mpr ⟨List.mem_append_right _ (List.mem_of_getElem? (i := 313) (by decide +kernel)), by decide +kernel⟩
theorem tw_332 : (Cond.methodLink "PatronHall" 258 ⟨"PatronHall", "isKeySize", "(I)Z"⟩) ∈ tbG := List.mem_filter.mpr ⟨List.mem_append_right _ (List.mem_of_getElem? (i := 332) (by decide +kernel)), by decide +kernel⟩
theorem tw_333 : (Cond.static ⟨"PatronHall", "isKeySize", "(I)Z"⟩) ∈ tbG := List.mem_filter.mpr ⟨List.mem_append_right _ (List.mem_of_getElem? (i := 333) (by decide +kernel)), by decide +kernel⟩
theorem tw_334 : (Cond.code ⟨"PatronHall", "isKeySize", "(I)Z"⟩ prog_1_method_30_code 1 (Option.some Jvm.ClassFile.FieldType.boolean)) ∈ tbG := List.mem_filter.mpr ⟨List.mem_append_right _ (List.mem_of_getElem? (i := 334) (by decide +kernel)), by decide +kernel⟩
theorem tw_335 : (Cond.methodLink "PatronHall" 261 ⟨"PatronHall", "isValueSize", "(I)Z"⟩) ∈ tbG := List.mem_filter.mpr ⟨List.mem_append_right _ (List.mem_of_getElem? (i := 335) (by decide +kernel)), by decide +kernel⟩
theorem tw_336 : (Cond.static ⟨"PatronHall", "isValueSize", "(I)Z"⟩) ∈ tbG := List.mem_filter.mpr ⟨List.mem_append_right _ (List.mem_of_getElem? (i := 336) (by decide +kernel)), by decide +kernel⟩
theorem tw_337 : (Cond.code ⟨"PatronHall", "isValueSize", "(I)Z"⟩ prog_1_method_31_code 1 (Option.some Jvm.ClassFile.FieldType.boolean)) ∈ tbG := List.mem_filter.mpr ⟨List.mem_append_right _ (List.mem_of_getElem? (i := 337) (by decide +kernel)), by decide +kernel⟩
theorem tw_340 : (Cond.classLink "PatronHall" 84 "PatronHall$Asking") ∈ tbG := List.mem_filter.mpr ⟨List.mem_append_right _ (List.mem_of_getElem? (i := 340) (by decide +kernel)), by decide +kernel⟩
theorem tw_342 : (Cond.methodLink "PatronHall" 86 ⟨"PatronHall", "nextMoment", "()I"⟩) ∈ tbG := List.mem_filter.mpr ⟨List.mem_append_right _ (List.mem_of_getElem? (i := 342) (by decide +kernel)), by decide +kernel⟩
theorem tw_344 : (Cond.instanceMethod ⟨"PatronHall", "nextMoment", "()I"⟩) ∈ tbG := List.mem_filter.mpr ⟨List.mem_append_right _ (List.mem_of_getElem? (i := 344) (by decide +kernel)), by decide +kernel⟩
theorem tw_345 : (Cond.code ⟨"PatronHall", "nextMoment", "()I"⟩ prog_1_method_16_code 2 (Option.some Jvm.ClassFile.FieldType.int)) ∈ tbG := List.mem_filter.mpr ⟨List.mem_append_right _ (List.mem_of_getElem? (i := 345) (by decide +kernel)), by decide +kernel⟩
theorem tw_351 : (Cond.fieldLink "PatronHall" 203 "PatronHall$Asking" "client" "I") ∈ tbG := List.mem_filter.mpr ⟨List.mem_append_right _ (List.mem_of_getElem? (i := 351) (by decide +kernel)), by decide +kernel⟩
theorem tw_353 : (Cond.fieldLink "PatronHall$Patron" 63 "PatronHall$Asking" "kind" "I") ∈ tbG := List.mem_filter.mpr ⟨List.mem_append_right _ (List.mem_of_getElem? (i := 353) (by decide +kernel)), by decide +kernel⟩
theorem tw_354 : (Cond.fieldLink "PatronHall" 206 "PatronHall$Asking" "kind" "I") ∈ tbG := List.mem_filter.mpr ⟨List.mem_append_right _ (List.mem_of_getElem? (i := 354) (by decide +kernel)), by decide +kernel⟩
theorem tw_356 : (Cond.fieldLink "PatronHall" 209 "PatronHall$Asking" "moment" "I") ∈ tbG := List.mem_filter.mpr ⟨List.mem_append_right _ (List.mem_of_getElem? (i := 356) (by decide +kernel)), by decide +kernel⟩
theorem tw_358 : (Cond.fieldLink "PatronHall" 212 "PatronHall$Asking" "toldMoment" "I") ∈ tbG := List.mem_filter.mpr ⟨List.mem_append_right _ (List.mem_of_getElem? (i := 358) (by decide +kernel)), by decide +kernel⟩
theorem tw_360 : (Cond.fieldLink "PatronHall" 215 "PatronHall$Asking" "told" "I") ∈ tbG := List.mem_filter.mpr ⟨List.mem_append_right _ (List.mem_of_getElem? (i := 360) (by decide +kernel)), by decide +kernel⟩
theorem tw_362 : (Cond.fieldLink "PatronHall" 218 "PatronHall$Asking" "place" "I") ∈ tbG := List.mem_filter.mpr ⟨List.mem_append_right _ (List.mem_of_getElem? (i := 362) (by decide +kernel)), by decide +kernel⟩
theorem tw_425 : (Cond.static ⟨"java/lang/Math", "min", "(II)I"⟩) ∈ tbG := List.mem_filter.mpr ⟨List.mem_append_right _ (List.mem_of_getElem? (i := 425) (by decide +kernel)), by decide +kernel⟩
theorem tw_426 : (Cond.code ⟨"java/lang/Math", "min", "(II)I"⟩ prog_14_method_69_code 2 (Option.some Jvm.ClassFile.FieldType.int)) ∈ tbG := List.mem_filter.mpr ⟨List.mem_append_right _ (List.mem_of_getElem? (i := 426) (by decide +kernel)), by decide +kernel⟩
theorem tw_436 : (Cond.methodLink "PatronHall$Patron" 66 ⟨"PatronHall$Patron", "copyInto", "([B[BI)I"⟩) ∈ tbG := List.mem_filter.mpr ⟨List.mem_append_right _ (List.mem_of_getElem? (i := 436) (by decide +kernel)), by decide +kernel⟩
theorem tw_437 : (Cond.static ⟨"PatronHall$Patron", "copyInto", "([B[BI)I"⟩) ∈ tbG := List.mem_filter.mpr ⟨List.mem_append_right _ (List.mem_of_getElem? (i := 437) (by decide +kernel)), by decide +kernel⟩
theorem tw_438 : (Cond.code ⟨"PatronHall$Patron", "copyInto", "([B[BI)I"⟩ prog_3_method_8_code 5 (Option.some Jvm.ClassFile.FieldType.int)) ∈ tbG := List.mem_filter.mpr ⟨List.mem_append_right _ (List.mem_of_getElem? (i := 438) (by decide +kernel)), by decide +kernel⟩
theorem tw_439 : (Cond.methodLink "PatronHall$Patron" 70 ⟨"java/lang/Math", "min", "(II)I"⟩) ∈ tbG := List.mem_filter.mpr ⟨List.mem_append_right _ (List.mem_of_getElem? (i := 439) (by decide +kernel)), by decide +kernel⟩
theorem tw_440 : (Cond.methodLink "PatronHall" 100 ⟨"PatronHall", "isCommand", "(I)Z"⟩) ∈ tbG := List.mem_filter.mpr ⟨List.mem_append_right _ (List.mem_of_getElem? (i := 440) (by decide +kernel)), by decide +kernel⟩
theorem tw_441 : (Cond.static ⟨"PatronHall", "isCommand", "(I)Z"⟩) ∈ tbG := List.mem_filter.mpr ⟨List.mem_append_right _ (List.mem_of_getElem? (i := 441) (by decide +kernel)), by decide +kernel⟩
theorem tw_442 : (Cond.code ⟨"PatronHall", "isCommand", "(I)Z"⟩ prog_1_method_29_code 1 (Option.some Jvm.ClassFile.FieldType.boolean)) ∈ tbG := List.mem_filter.mpr ⟨List.mem_append_right _ (List.mem_of_getElem? (i := 442) (by decide +kernel)), by decide +kernel⟩
theorem tw_447 : (Cond.methodLink "PatronHall" 231 ⟨"PatronHall", "send", "(LPatronHall$Patron;)V"⟩) ∈ tbG := List.mem_filter.mpr ⟨List.mem_append_right _ (List.mem_of_getElem? (i := 447) (by decide +kernel)), by decide +kernel⟩
theorem tw_449 : (Cond.instanceMethod ⟨"PatronHall", "send", "(LPatronHall$Patron;)V"⟩) ∈ tbG := List.mem_filter.mpr ⟨List.mem_append_right _ (List.mem_of_getElem? (i := 449) (by decide +kernel)), by decide +kernel⟩
theorem tw_450 : (Cond.code ⟨"PatronHall", "send", "(LPatronHall$Patron;)V"⟩ prog_1_method_20_code 2 (Option.none : Option Jvm.ClassFile.FieldType)) ∈ tbG := List.mem_filter.mpr ⟨List.mem_append_right _ (List.mem_of_getElem? (i := 450) (by decide +kernel)), by decide +kernel⟩
theorem tw_451 : (Cond.methodLink "PatronHall" 114 ⟨"PatronHall", "abandon", "(LPatronHall$Patron;)V"⟩) ∈ tbG := List.mem_filter.mpr ⟨List.mem_append_right _ (List.mem_of_getElem? (i := 451) (by decide +kernel)), by decide +kernel⟩
theorem tw_453 : (Cond.instanceMethod ⟨"PatronHall", "abandon", "(LPatronHall$Patron;)V"⟩) ∈ tbG := List.mem_filter.mpr ⟨List.mem_append_right _ (List.mem_of_getElem? (i := 453) (by decide +kernel)), by decide +kernel⟩
theorem tw_454 : (Cond.code ⟨"PatronHall", "abandon", "(LPatronHall$Patron;)V"⟩ prog_1_method_26_code 2 (Option.none : Option Jvm.ClassFile.FieldType)) ∈ tbG := List.mem_filter.mpr ⟨List.mem_append_right _ (List.mem_of_getElem? (i := 454) (by decide +kernel)), by decide +kernel⟩
theorem tw_455 : (Cond.methodLink "PatronHall" 134 ⟨"PatronHall", "tell", "(LPatronHall$Patron;II)V"⟩) ∈ tbG := List.mem_filter.mpr ⟨List.mem_append_right _ (List.mem_of_getElem? (i := 455) (by decide +kernel)), by decide +kernel⟩
theorem tw_457 : (Cond.instanceMethod ⟨"PatronHall", "tell", "(LPatronHall$Patron;II)V"⟩) ∈ tbG := List.mem_filter.mpr ⟨List.mem_append_right _ (List.mem_of_getElem? (i := 457) (by decide +kernel)), by decide +kernel⟩
theorem tw_458 : (Cond.code ⟨"PatronHall", "tell", "(LPatronHall$Patron;II)V"⟩ prog_1_method_27_code 5 (Option.none : Option Jvm.ClassFile.FieldType)) ∈ tbG := List.mem_filter.mpr ⟨List.mem_append_right _ (List.mem_of_getElem? (i := 458) (by decide +kernel)), by decide +kernel⟩
theorem tw_459 : (Cond.methodLink "PatronHall" 255 ⟨"PatronHall$Patron", "becomeIdle", "()V"⟩) ∈ tbG := List.mem_filter.mpr ⟨List.mem_append_right _ (List.mem_of_getElem? (i := 459) (by decide +kernel)), by decide +kernel⟩
theorem tw_460 : (Cond.instanceMethod ⟨"PatronHall$Patron", "becomeIdle", "()V"⟩) ∈ tbG := List.mem_filter.mpr ⟨List.mem_append_right _ (List.mem_of_getElem? (i := 460) (by decide +kernel)), by decide +kernel⟩
theorem tw_461 : (Cond.selects "PatronHall$Patron" ⟨"PatronHall$Patron", "becomeIdle", "()V"⟩ ⟨"PatronHall$Patron", "becomeIdle", "()V"⟩) ∈ tbG := List.mem_filter.mpr ⟨List.mem_append_right _ (List.mem_of_getElem? (i := 461) (by decide +kernel)), by decide +kernel⟩
theorem tw_462 : (Cond.code ⟨"PatronHall$Patron", "becomeIdle", "()V"⟩ prog_3_method_5_code 1 (Option.none : Option Jvm.ClassFile.FieldType)) ∈ tbG := List.mem_filter.mpr ⟨List.mem_append_right _ (List.mem_of_getElem? (i := 462) (by decide +kernel)), by decide +kernel⟩
theorem tw_463 : (Cond.methodLink "PatronHall" 235 ⟨"PatronHall$RequestLog", "add", "(LPatronHall$Patron;I)V"⟩) ∈ tbG := List.mem_filter.mpr ⟨List.mem_append_right _ (List.mem_of_getElem? (i := 463) (by decide +kernel)), by decide +kernel⟩
theorem tw_464 : (Cond.instanceMethod ⟨"PatronHall$RequestLog", "add", "(LPatronHall$Patron;I)V"⟩) ∈ tbG := List.mem_filter.mpr ⟨List.mem_append_right _ (List.mem_of_getElem? (i := 464) (by decide +kernel)), by decide +kernel⟩
theorem tw_465 : (Cond.selects "PatronHall$RequestLog" ⟨"PatronHall$RequestLog", "add", "(LPatronHall$Patron;I)V"⟩ ⟨"PatronHall$RequestLog", "add", "(LPatronHall$Patron;I)V"⟩) ∈ tbG := List.mem_filter.mpr ⟨List.mem_append_right _ (List.mem_of_getElem? (i := 465) (by decide +kernel)), by decide +kernel⟩
theorem tw_466 : (Cond.code ⟨"PatronHall$RequestLog", "add", "(LPatronHall$Patron;I)V"⟩ prog_4_method_2_code 5 (Option.none : Option Jvm.ClassFile.FieldType)) ∈ tbG := List.mem_filter.mpr ⟨List.mem_append_right _ (List.mem_of_getElem? (i := 466) (by decide +kernel)), by decide +kernel⟩
theorem tw_468 : (Cond.methodLink "PatronHall" 137 ⟨"PatronHall", "makeAlarm", "(LPatronHall$Patron;IZ)V"⟩) ∈ tbG := List.mem_filter.mpr ⟨List.mem_append_right _ (List.mem_of_getElem? (i := 468) (by decide +kernel)), by decide +kernel⟩
theorem tw_470 : (Cond.instanceMethod ⟨"PatronHall", "makeAlarm", "(LPatronHall$Patron;IZ)V"⟩) ∈ tbG := List.mem_filter.mpr ⟨List.mem_append_right _ (List.mem_of_getElem? (i := 470) (by decide +kernel)), by decide +kernel⟩
theorem tw_471 : (Cond.code ⟨"PatronHall", "makeAlarm", "(LPatronHall$Patron;IZ)V"⟩ prog_1_method_21_code 4 (Option.none : Option Jvm.ClassFile.FieldType)) ∈ tbG := List.mem_filter.mpr ⟨List.mem_append_right _ (List.mem_of_getElem? (i := 471) (by decide +kernel)), by decide +kernel⟩
theorem tw_472 : (Cond.methodLink "PatronHall" 111 ⟨"PatronHall", "requestWhatWasAsked", "(LPatronHall$Patron;)V"⟩) ∈ tbG := List.mem_filter.mpr ⟨List.mem_append_right _ (List.mem_of_getElem? (i := 472) (by decide +kernel)), by decide +kernel⟩
theorem tw_474 : (Cond.instanceMethod ⟨"PatronHall", "requestWhatWasAsked", "(LPatronHall$Patron;)V"⟩) ∈ tbG := List.mem_filter.mpr ⟨List.mem_append_right _ (List.mem_of_getElem? (i := 474) (by decide +kernel)), by decide +kernel⟩
theorem tw_475 : (Cond.code ⟨"PatronHall", "requestWhatWasAsked", "(LPatronHall$Patron;)V"⟩ prog_1_method_19_code 2 (Option.none : Option Jvm.ClassFile.FieldType)) ∈ tbG := List.mem_filter.mpr ⟨List.mem_append_right _ (List.mem_of_getElem? (i := 475) (by decide +kernel)), by decide +kernel⟩
theorem tw_490 : (Cond.methodLink "PatronHall" 117 ⟨"PatronHall", "canBeReplied", "(III)Z"⟩) ∈ tbG := List.mem_filter.mpr ⟨List.mem_append_right _ (List.mem_of_getElem? (i := 490) (by decide +kernel)), by decide +kernel⟩
theorem tw_491 : (Cond.static ⟨"PatronHall", "canBeReplied", "(III)Z"⟩) ∈ tbG := List.mem_filter.mpr ⟨List.mem_append_right _ (List.mem_of_getElem? (i := 491) (by decide +kernel)), by decide +kernel⟩
theorem tw_492 : (Cond.code ⟨"PatronHall", "canBeReplied", "(III)Z"⟩ prog_1_method_33_code 3 (Option.some Jvm.ClassFile.FieldType.boolean)) ∈ tbG := List.mem_filter.mpr ⟨List.mem_append_right _ (List.mem_of_getElem? (i := 492) (by decide +kernel)), by decide +kernel⟩
theorem tw_493 : (Cond.constant "PatronHall" 264 (1000000 : Int32)) ∈ tbG := List.mem_filter.mpr ⟨List.mem_append_right _ (List.mem_of_getElem? (i := 493) (by decide +kernel)), by decide +kernel⟩
theorem tw_495 : (Cond.methodLink "PatronHall" 126 ⟨"PatronHall", "hearAnswer", "(LPatronHall$Patron;II)V"⟩) ∈ tbG := List.mem_filter.mpr ⟨List.mem_append_right _ (List.mem_of_getElem? (i := 495) (by decide +kernel)), by decide +kernel⟩
theorem tw_497 : (Cond.instanceMethod ⟨"PatronHall", "hearAnswer", "(LPatronHall$Patron;II)V"⟩) ∈ tbG := List.mem_filter.mpr ⟨List.mem_append_right _ (List.mem_of_getElem? (i := 497) (by decide +kernel)), by decide +kernel⟩
theorem tw_498 : (Cond.code ⟨"PatronHall", "hearAnswer", "(LPatronHall$Patron;II)V"⟩ prog_1_method_24_code 4 (Option.none : Option Jvm.ClassFile.FieldType)) ∈ tbG := List.mem_filter.mpr ⟨List.mem_append_right _ (List.mem_of_getElem? (i := 498) (by decide +kernel)), by decide +kernel⟩
theorem tw_499 : (Cond.methodLink "PatronHall" 247 ⟨"PatronHall$Patron", "keepAnswer", "([BI)V"⟩) ∈ tbG := List.mem_filter.mpr ⟨List.mem_append_right _ (List.mem_of_getElem? (i := 499) (by decide +kernel)), by decide +kernel⟩
theorem tw_500 : (Cond.instanceMethod ⟨"PatronHall$Patron", "keepAnswer", "([BI)V"⟩) ∈ tbG := List.mem_filter.mpr ⟨List.mem_append_right _ (List.mem_of_getElem? (i := 500) (by decide +kernel)), by decide +kernel⟩
theorem tw_501 : (Cond.selects "PatronHall$Patron" ⟨"PatronHall$Patron", "keepAnswer", "([BI)V"⟩ ⟨"PatronHall$Patron", "keepAnswer", "([BI)V"⟩) ∈ tbG := List.mem_filter.mpr ⟨List.mem_append_right _ (List.mem_of_getElem? (i := 501) (by decide +kernel)), by decide +kernel⟩
theorem tw_502 : (Cond.code ⟨"PatronHall$Patron", "keepAnswer", "([BI)V"⟩ prog_3_method_4_code 3 (Option.none : Option Jvm.ClassFile.FieldType)) ∈ tbG := List.mem_filter.mpr ⟨List.mem_append_right _ (List.mem_of_getElem? (i := 502) (by decide +kernel)), by decide +kernel⟩
theorem tw_503 : (Cond.methodLink "PatronHall" 130 ⟨"PatronHall", "hearWhoLeads", "(LPatronHall$Patron;I)V"⟩) ∈ tbG := List.mem_filter.mpr ⟨List.mem_append_right _ (List.mem_of_getElem? (i := 503) (by decide +kernel)), by decide +kernel⟩
theorem tw_505 : (Cond.instanceMethod ⟨"PatronHall", "hearWhoLeads", "(LPatronHall$Patron;I)V"⟩) ∈ tbG := List.mem_filter.mpr ⟨List.mem_append_right _ (List.mem_of_getElem? (i := 505) (by decide +kernel)), by decide +kernel⟩
theorem tw_506 : (Cond.code ⟨"PatronHall", "hearWhoLeads", "(LPatronHall$Patron;I)V"⟩ prog_1_method_25_code 3 (Option.none : Option Jvm.ClassFile.FieldType)) ∈ tbG := List.mem_filter.mpr ⟨List.mem_append_right _ (List.mem_of_getElem? (i := 506) (by decide +kernel)), by decide +kernel⟩
theorem tw_507 : (Cond.methodLink "PatronHall" 240 ⟨"PatronHall$Patron", "turnToNextServer", "()V"⟩) ∈ tbG := List.mem_filter.mpr ⟨List.mem_append_right _ (List.mem_of_getElem? (i := 507) (by decide +kernel)), by decide +kernel⟩
theorem tw_508 : (Cond.instanceMethod ⟨"PatronHall$Patron", "turnToNextServer", "()V"⟩) ∈ tbG := List.mem_filter.mpr ⟨List.mem_append_right _ (List.mem_of_getElem? (i := 508) (by decide +kernel)), by decide +kernel⟩
theorem tw_509 : (Cond.selects "PatronHall$Patron" ⟨"PatronHall$Patron", "turnToNextServer", "()V"⟩ ⟨"PatronHall$Patron", "turnToNextServer", "()V"⟩) ∈ tbG := List.mem_filter.mpr ⟨List.mem_append_right _ (List.mem_of_getElem? (i := 509) (by decide +kernel)), by decide +kernel⟩
theorem tw_510 : (Cond.code ⟨"PatronHall$Patron", "turnToNextServer", "()V"⟩ prog_3_method_6_code 1 (Option.none : Option Jvm.ClassFile.FieldType)) ∈ tbG := List.mem_filter.mpr ⟨List.mem_append_right _ (List.mem_of_getElem? (i := 510) (by decide +kernel)), by decide +kernel⟩
theorem tw_519 : (Cond.methodLink "PatronHall" 143 ⟨"PatronHall", "firstToRing", "(I)LPatronHall$Patron;"⟩) ∈ tbG := List.mem_filter.mpr ⟨List.mem_append_right _ (List.mem_of_getElem? (i := 519) (by decide +kernel)), by decide +kernel⟩
theorem tw_521 : (Cond.instanceMethod ⟨"PatronHall", "firstToRing", "(I)LPatronHall$Patron;"⟩) ∈ tbG := List.mem_filter.mpr ⟨List.mem_append_right _ (List.mem_of_getElem? (i := 521) (by decide +kernel)), by decide +kernel⟩
theorem tw_522 : (Cond.code ⟨"PatronHall", "firstToRing", "(I)LPatronHall$Patron;"⟩ prog_1_method_23_code 5 (Option.some (Jvm.ClassFile.FieldType.object "PatronHall$Patron"))) ∈ tbG := List.mem_filter.mpr ⟨List.mem_append_right _ (List.mem_of_getElem? (i := 522) (by decide +kernel)), by decide +kernel⟩
theorem tw_523 : (Cond.methodLink "PatronHall" 243 ⟨"PatronHall$Patron", "ringsBefore", "(LPatronHall$Patron;)Z"⟩) ∈ tbG := List.mem_filter.mpr ⟨List.mem_append_right _ (List.mem_of_getElem? (i := 523) (by decide +kernel)), by decide +kernel⟩
theorem tw_524 : (Cond.instanceMethod ⟨"PatronHall$Patron", "ringsBefore", "(LPatronHall$Patron;)Z"⟩) ∈ tbG := List.mem_filter.mpr ⟨List.mem_append_right _ (List.mem_of_getElem? (i := 524) (by decide +kernel)), by decide +kernel⟩
theorem tw_525 : (Cond.selects "PatronHall$Patron" ⟨"PatronHall$Patron", "ringsBefore", "(LPatronHall$Patron;)Z"⟩ ⟨"PatronHall$Patron", "ringsBefore", "(LPatronHall$Patron;)Z"⟩) ∈ tbG := List.mem_filter.mpr ⟨List.mem_append_right _ (List.mem_of_getElem? (i := 525) (by decide +kernel)), by decide +kernel⟩
theorem tw_526 : (Cond.code ⟨"PatronHall$Patron", "ringsBefore", "(LPatronHall$Patron;)Z"⟩ prog_3_method_7_code 2 (Option.some Jvm.ClassFile.FieldType.boolean)) ∈ tbG := List.mem_filter.mpr ⟨List.mem_append_right _ (List.mem_of_getElem? (i := 526) (by decide +kernel)), by decide +kernel⟩
theorem tw_527 : (Cond.methodLink "PatronHall" 149 ⟨"PatronHall", "ring", "(LPatronHall$Patron;)V"⟩) ∈ tbG := List.mem_filter.mpr ⟨List.mem_append_right _ (List.mem_of_getElem? (i := 527) (by decide +kernel)), by decide +kernel⟩
theorem tw_529 : (Cond.instanceMethod ⟨"PatronHall", "ring", "(LPatronHall$Patron;)V"⟩) ∈ tbG := List.mem_filter.mpr ⟨List.mem_append_right _ (List.mem_of_getElem? (i := 529) (by decide +kernel)), by decide +kernel⟩
theorem tw_530 : (Cond.code ⟨"PatronHall", "ring", "(LPatronHall$Patron;)V"⟩ prog_1_method_22_code 2 (Option.none : Option Jvm.ClassFile.FieldType)) ∈ tbG := List.mem_filter.mpr ⟨List.mem_append_right _ (List.mem_of_getElem? (i := 530) (by decide +kernel)), by decide +kernel⟩
theorem tw_570 : (Cond.methodLink "PatronHall" 199 ⟨"java/util/ArrayList", "get", "(I)Ljava/lang/Object;"⟩) ∈ tbG := List.mem_filter.mpr ⟨List.mem_append_right _ (List.mem_of_getElem? (i := 570) (by decide +kernel)), by decide +kernel⟩
theorem tw_571 : (Cond.instanceMethod ⟨"java/util/ArrayList", "get", "(I)Ljava/lang/Object;"⟩) ∈ tbG := List.mem_filter.mpr ⟨List.mem_append_right _ (List.mem_of_getElem? (i := 571) (by decide +kernel)), by decide +kernel⟩
theorem tw_572 : (Cond.selects "java/util/ArrayList" ⟨"java/util/ArrayList", "get", "(I)Ljava/lang/Object;"⟩ ⟨"java/util/ArrayList", "get", "(I)Ljava/lang/Object;"⟩) ∈ tbG := List.mem_filter.mpr ⟨List.mem_append_right _ (List.mem_of_getElem? (i := 572) (by decide +kernel)), by decide +kernel⟩
theorem tw_573 : (Cond.code ⟨"java/util/ArrayList", "get", "(I)Ljava/lang/Object;"⟩ prog_21_method_20_code 2 (Option.some (Jvm.ClassFile.FieldType.object "java/lang/Object"))) ∈ tbG := List.mem_filter.mpr ⟨List.mem_append_right _ (List.mem_of_getElem? (i := 573) (by decide +kernel)), by decide +kernel⟩
theorem tw_574 : (Cond.methodLink "java/util/ArrayList" 118 ⟨"java/util/Objects", "checkIndex", "(II)I"⟩) ∈ tbG := List.mem_filter.mpr ⟨List.mem_append_right _ (List.mem_of_getElem? (i := 574) (by decide +kernel)), by decide +kernel⟩
theorem tw_575 : (Cond.static ⟨"java/util/Objects", "checkIndex", "(II)I"⟩) ∈ tbG := List.mem_filter.mpr ⟨List.mem_append_right _ (List.mem_of_getElem? (i := 575) (by decide +kernel)), by decide +kernel⟩
theorem tw_576 : (Cond.code ⟨"java/util/Objects", "checkIndex", "(II)I"⟩ prog_25_method_17_code 2 (Option.some Jvm.ClassFile.FieldType.int)) ∈ tbG := List.mem_filter.mpr ⟨List.mem_append_right _ (List.mem_of_getElem? (i := 576) (by decide +kernel)), by decide +kernel⟩
theorem tw_577 : (Cond.methodLink "java/util/Objects" 105 ⟨"jdk/internal/util/Preconditions", "checkIndex", "(IILjava/util/function/BiFunction;)I"⟩) ∈ tbG := List.mem_filter.mpr ⟨List.mem_append_right _ (List.mem_of_getElem? (i := 577) (by decide +kernel)), by decide +kernel⟩
theorem tw_578 : (Cond.static ⟨"jdk/internal/util/Preconditions", "checkIndex", "(IILjava/util/function/BiFunction;)I"⟩) ∈ tbG := List.mem_filter.mpr ⟨List.mem_append_right _ (List.mem_of_getElem? (i := 578) (by decide +kernel)), by decide +kernel⟩
theorem tw_579 : (Cond.code ⟨"jdk/internal/util/Preconditions", "checkIndex", "(IILjava/util/function/BiFunction;)I"⟩ prog_29_method_11_code 3 (Option.some Jvm.ClassFile.FieldType.int)) ∈ tbG := List.mem_filter.mpr ⟨List.mem_append_right _ (List.mem_of_getElem? (i := 579) (by decide +kernel)), by decide +kernel⟩
theorem tw_580 : (Cond.methodLink "java/util/ArrayList" 123 ⟨"java/util/ArrayList", "elementData", "(I)Ljava/lang/Object;"⟩) ∈ tbG := List.mem_filter.mpr ⟨List.mem_append_right _ (List.mem_of_getElem? (i := 580) (by decide +kernel)), by decide +kernel⟩
theorem tw_581 : (Cond.instanceMethod ⟨"java/util/ArrayList", "elementData", "(I)Ljava/lang/Object;"⟩) ∈ tbG := List.mem_filter.mpr ⟨List.mem_append_right _ (List.mem_of_getElem? (i := 581) (by decide +kernel)), by decide +kernel⟩
theorem tw_582 : (Cond.selects "java/util/ArrayList" ⟨"java/util/ArrayList", "elementData", "(I)Ljava/lang/Object;"⟩ ⟨"java/util/ArrayList", "elementData", "(I)Ljava/lang/Object;"⟩) ∈ tbG := List.mem_filter.mpr ⟨List.mem_append_right _ (List.mem_of_getElem? (i := 582) (by decide +kernel)), by decide +kernel⟩
theorem tw_583 : (Cond.code ⟨"java/util/ArrayList", "elementData", "(I)Ljava/lang/Object;"⟩ prog_21_method_18_code 2 (Option.some (Jvm.ClassFile.FieldType.object "java/lang/Object"))) ∈ tbG := List.mem_filter.mpr ⟨List.mem_append_right _ (List.mem_of_getElem? (i := 583) (by decide +kernel)), by decide +kernel⟩
end
section
/-! THE CLASS'S STATE: numbers by kind and place. g: 0 tapeSize, 1 now, 2 moments, 3 alarmsMade, 4 total, 5 modCount; f k i: field k (its slot) of patron i; r i: the asking of patron i, by its place in the list; b 0 i, b 1 i: data and answer of patron i; a 0, a 1: tape, cells; h k j: field k of asking j; n askings; a list of c places -/
abbrev Sg : Type := (Nat → Int32) × (Nat → Nat → Int32) × (Nat → Option Nat) × (Nat → Nat → Nat → Int32) × (Nat → Nat → Int32) × (Nat → Nat → Int32) × Nat × Nat
def up2 {α : Type} (f : Nat → Nat → α) (k i : Nat) (v : α) : Nat → Nat → α := fun a b => if a = k then (if b = i then v else f a b) else f a b
def sG (σ : Sg) (k : Nat) : Int32 := σ.1 k
def sF (σ : Sg) (k i : Nat) : Int32 := σ.2.1 k i
def sR (σ : Sg) (i : Nat) : Option Nat := σ.2.2.1 i
def sB (σ : Sg) (k i : Nat) : Nat → Int32 := σ.2.2.2.1 k i
def sA (σ : Sg) (k : Nat) : Nat → Int32 := σ.2.2.2.2.1 k
def sH (σ : Sg) (k j : Nat) : Int32 := σ.2.2.2.2.2.1 k j
def sN (σ : Sg) : Nat := σ.2.2.2.2.2.2.1
def sC (σ : Sg) : Nat := σ.2.2.2.2.2.2.2
def uG (k : Nat) (v : Int32) (σ : Sg) : Sg := (upd σ.1 k v, σ.2)
def uF (k i : Nat) (v : Int32) (σ : Sg) : Sg := (σ.1, up2 σ.2.1 k i v, σ.2.2)
def uR (i : Nat) (v : Option Nat) (σ : Sg) : Sg := (σ.1, σ.2.1, va_up σ.2.2.1 i v, σ.2.2.2)
def uB (k i : Nat) (v : Nat → Int32) (σ : Sg) : Sg := (σ.1, σ.2.1, σ.2.2.1, up2 σ.2.2.2.1 k i v, σ.2.2.2.2)
def uA (k : Nat) (v : Nat → Int32) (σ : Sg) : Sg := (σ.1, σ.2.1, σ.2.2.1, σ.2.2.2.1, va_up σ.2.2.2.2.1 k v, σ.2.2.2.2.2)
def uH (k j : Nat) (v : Int32) (σ : Sg) : Sg := (σ.1, σ.2.1, σ.2.2.1, σ.2.2.2.1, σ.2.2.2.2.1, up2 σ.2.2.2.2.2.1 k j v, σ.2.2.2.2.2.2)
-- the cells; ad: 0 hall, 1 patrons, 2 list, 3 log, 4 tape, 5 cells, 6 patron i, 7 data i, 8 answer i, 9 the list's array, 10 asking j; ca: 0 int[], 1 byte[], 2 Patron[], 3 Object[]
def fH (ad : Nat → Nat → Nat) (σ : Sg) : List Value := [.ref (ad 1 0), .ref (ad 2 0), .ref (ad 3 0), .ref (ad 4 0), .int (sG σ 0), .int (sG σ 1), .int (sG σ 2), .int (sG σ 3)]
def fL (ad : Nat → Nat → Nat) (σ : Sg) : List Value := [.int (sG σ 5), .ref (ad 9 0), .int (nI (sN σ))]
def fG (ad : Nat → Nat → Nat) (σ : Sg) : List Value := [.ref (ad 5 0), .int (sG σ 4)]
def fP (ad : Nat → Nat → Nat) (σ : Sg) (i : Nat) : List Value := [.int (sF σ 0 i), .ref (ad 7 i), .ref (ad 8 i), .int (sF σ 3 i), .int (sF σ 4 i), va_re (ad 10) (sR σ i), .int (sF σ 6 i), .int (sF σ 7 i), .int (sF σ 8 i), .int (sF σ 9 i), .int (sF σ 10 i), .int (sF σ 11 i), .int (sF σ 12 i), .int (sF σ 13 i), .int (sF σ 14 i), .int (sF σ 15 i)]
def fQ (σ : Sg) (j : Nat) : List Value := [.int (sH σ 0 j), .int (sH σ 1 j), .int (sH σ 2 j), .int (sH σ 3 j), .int (sH σ 4 j), .int (sH σ 5 j)]
def eD (ad : Nat → Nat → Nat) (σ : Sg) : Nat → Option Nat := fun j => if j < sN σ then some (ad 10 j) else none
def w0 (ca : Nat → ClassId) (ad : Nat → Nat → Nat) (σ : Sg) : va_W := [(ad 0 0, .inr (0, fH ad σ)), (ad 1 0, .inl (ca 2, 8, .inr (.inr (.inr (.inr (fun i => some (ad 6 i))))))), (ad 2 0, .inr (4, fL ad σ)), (ad 3 0, .inr (3, fG ad σ)), (ad 4 0, .inl (ca 1, 240, .inl (sA σ 0))), (ad 5 0, .inl (ca 0, 512, .inl (sA σ 1)))]
def w6 (ad : Nat → Nat → Nat) (σ : Sg) : va_W := (List.range 8).map (fun i => (ad 6 i, .inr (1, fP ad σ i)))
def w7 (ca : Nat → ClassId) (ad : Nat → Nat → Nat) (σ : Sg) : va_W := (List.range 8).map (fun i => (ad 7 i, .inl (ca 1, 232, .inl (sB σ 0 i))))
def w8 (ca : Nat → ClassId) (ad : Nat → Nat → Nat) (σ : Sg) : va_W := (List.range 8).map (fun i => (ad 8 i, .inl (ca 1, 134, .inl (sB σ 1 i))))
def wQ (ad : Nat → Nat → Nat) (σ : Sg) : va_W := (List.range (sN σ)).map (fun j => (ad 10 j, .inr (2, fQ σ j)))
def wE (ca : Nat → ClassId) (ad : Nat → Nat → Nat) (σ : Sg) : va_W := if sC σ = 0 then [] else [(ad 9 0, .inl (ca 3, sC σ, .inr (.inr (.inr (.inr (eD ad σ))))))]
def wX (ca : Nat → ClassId) (ad : Nat → Nat → Nat) (σ : Sg) : va_W := w0 ca ad σ ++ (w6 ad σ ++ (w7 ca ad σ ++ (w8 ca ad σ ++ (wQ ad σ ++ wE ca ad σ))))
def tyA (ca : Nat → ClassId) : List (ClassId × FieldType) := [(ca 0, .int), (ca 1, .byte), (ca 2, .object "PatronHall$Patron"), (ca 3, .object "java/lang/Object")]
-- small rows
theorem px_lt {x : Int32} {n : Nat} (h : vp_in x n) : x.toNatClampNeg < n := Nat.lt_of_not_le (fun q => h (Or.inr q))
theorem px_free {A : Nat → Prop} {ws : va_W} {H0 H : Heap} {locs : List Loc} (hD : va_D A ws) (hS : va_S A H0 H locs) (hA : ∀ q, H0.size ≤ q → A q) : ∀ q, va_A ws H.size q → A q := fun q h => by
  rcases h with ⟨k, e, hk⟩ | h
  · exact hD.2 k (q, e) hk
  · exact hA q (Nat.le_trans hS.1 h)
theorem px_mg {α : Type} (g : Nat → α) {n i : Nat} (h : i < n) : ((List.range n).map g)[i]? = some (g i) := by simp [h]
theorem px_ms {α : Type} {g g' : Nat → α} {n i : Nat} (hg : ∀ j, j ≠ i → g' j = g j) : ((List.range n).map g).set i (g' i) = (List.range n).map g' := by
  apply List.ext_getElem?
  intro j
  rw [List.getElem?_set]
  by_cases h : i = j
  · subst h
    by_cases hn : i < n
    · simp [hn]
    · simp [hn]
  · rw [if_neg h]
    by_cases hn : j < n
    · simp [hn, hg j (fun q => h q.symm)]
    · simp [hn]
theorem px_ar {α : Type} {l1 l2 : List α} {k : Nat} (n : Nat) (hn : l1.length = n) : (l1 ++ l2)[n + k]? = l2[k]? := by
  subst hn
  rw [List.getElem?_append_right (Nat.le_add_right _ _), Nat.add_sub_cancel_left]
theorem px_al {α : Type} {l1 l2 : List α} {k : Nat} (h : k < l1.length) : (l1 ++ l2)[k]? = l1[k]? := List.getElem?_append_left h
theorem px_sr {α : Type} {l1 l2 : List α} {k : Nat} {x : α} (n : Nat) (hn : l1.length = n) : (l1 ++ l2).set (n + k) x = l1 ++ l2.set k x := by
  subst hn
  rw [List.set_append_right _ _ (Nat.le_add_right _ _), Nat.add_sub_cancel_left]
theorem px_sl {α : Type} {l1 l2 : List α} {k : Nat} {x : α} (h : k < l1.length) : (l1 ++ l2).set k x = l1.set k x ++ l2 := List.set_append_left _ _ h
theorem up2_s {α : Type} (f : Nat → Nat → α) (k i : Nat) (v : α) : up2 f k i v k i = v := by simp [up2]
section PX
variable {ca : Nat → ClassId} {ad : Nat → Nat → Nat} {σ : Sg}
theorem l0 : (w0 ca ad σ).length = 6 := rfl
theorem l6 : (w6 ad σ).length = 8 := by simp [w6]
theorem l7 : (w7 ca ad σ).length = 8 := by simp [w7]
theorem l8 : (w8 ca ad σ).length = 8 := by simp [w8]
theorem lQ : (wQ ad σ).length = sN σ := by simp [wQ]
-- reading
theorem gX_0 : (wX ca ad σ)[0]? = some (ad 0 0, .inr (0, fH ad σ)) := rfl
theorem gX_1 : (wX ca ad σ)[1]? = some (ad 1 0, .inl (ca 2, 8, .inr (.inr (.inr (.inr (fun i => some (ad 6 i))))))) := rfl
theorem gX_2 : (wX ca ad σ)[2]? = some (ad 2 0, .inr (4, fL ad σ)) := rfl
theorem gX_3 : (wX ca ad σ)[3]? = some (ad 3 0, .inr (3, fG ad σ)) := rfl
theorem gX_4 : (wX ca ad σ)[4]? = some (ad 4 0, .inl (ca 1, 240, .inl (sA σ 0))) := rfl
theorem gX_5 : (wX ca ad σ)[5]? = some (ad 5 0, .inl (ca 0, 512, .inl (sA σ 1))) := rfl
theorem gX_6 {i : Nat} (h : i < 8) : (wX ca ad σ)[6 + i]? = some (ad 6 i, .inr (1, fP ad σ i)) := by
  rw [wX, px_ar 6 l0, px_al (by rw [l6]; exact h)]; exact px_mg _ h
theorem gX_7 {i : Nat} (h : i < 8) : (wX ca ad σ)[6 + (8 + i)]? = some (ad 7 i, .inl (ca 1, 232, .inl (sB σ 0 i))) := by
  rw [wX, px_ar 6 l0, px_ar 8 l6, px_al (by rw [l7]; exact h)]; exact px_mg _ h
theorem gX_8 {i : Nat} (h : i < 8) : (wX ca ad σ)[6 + (8 + (8 + i))]? = some (ad 8 i, .inl (ca 1, 134, .inl (sB σ 1 i))) := by
  rw [wX, px_ar 6 l0, px_ar 8 l6, px_ar 8 l7, px_al (by rw [l8]; exact h)]; exact px_mg _ h
theorem gX_10 {j : Nat} (h : j < sN σ) : (wX ca ad σ)[6 + (8 + (8 + (8 + j)))]? = some (ad 10 j, .inr (2, fQ σ j)) := by
  rw [wX, px_ar 6 l0, px_ar 8 l6, px_ar 8 l7, px_ar 8 l8, px_al (by rw [lQ]; exact h)]; exact px_mg _ h
theorem gX_9 (h : sC σ ≠ 0) : (wX ca ad σ)[6 + (8 + (8 + (8 + (sN σ + 0))))]? = some (ad 9 0, .inl (ca 3, sC σ, .inr (.inr (.inr (.inr (eD ad σ)))))) := by
  rw [wX, px_ar 6 l0, px_ar 8 l6, px_ar 8 l7, px_ar 8 l8, px_ar (sN σ) lQ, wE, if_neg h]; rfl
-- writing
theorem sX_0_4 {v : Int32} : (wX ca ad σ).set 0 (ad 0 0, .inr (0, (fH ad σ).set 4 (.int v))) = wX ca ad (uG 0 v σ) := rfl
theorem sX_0_5 {v : Int32} : (wX ca ad σ).set 0 (ad 0 0, .inr (0, (fH ad σ).set 5 (.int v))) = wX ca ad (uG 1 v σ) := rfl
theorem sX_0_6 {v : Int32} : (wX ca ad σ).set 0 (ad 0 0, .inr (0, (fH ad σ).set 6 (.int v))) = wX ca ad (uG 2 v σ) := rfl
theorem sX_0_7 {v : Int32} : (wX ca ad σ).set 0 (ad 0 0, .inr (0, (fH ad σ).set 7 (.int v))) = wX ca ad (uG 3 v σ) := rfl
theorem sX_2_0 {v : Int32} : (wX ca ad σ).set 2 (ad 2 0, .inr (4, (fL ad σ).set 0 (.int v))) = wX ca ad (uG 5 v σ) := rfl
theorem sX_3_1 {v : Int32} : (wX ca ad σ).set 3 (ad 3 0, .inr (3, (fG ad σ).set 1 (.int v))) = wX ca ad (uG 4 v σ) := rfl
theorem sX_6_0 {i : Nat} {v : Int32} (h : i < 8) : (wX ca ad σ).set (6 + i) (ad 6 i, .inr (1, (fP ad σ i).set 0 (.int v))) = wX ca ad (uF 0 i v σ) := by
  rw [wX, px_sr 6 l0, px_sl (by rw [l6]; exact h)]
  have e : (w6 ad σ).set i (ad 6 i, .inr (1, (fP ad σ i).set 0 (.int v))) = w6 ad (uF 0 i v σ) := by
    have q : (fP ad σ i).set 0 (.int v) = fP ad (uF 0 i v σ) i := by simp [fP, sF, sR, uF, up2]
    rw [q]
    exact px_ms (g' := fun j => (ad 6 j, Sum.inr (1, fP ad (uF 0 i v σ) j))) (fun j hj => by simp [fP, sF, sR, uF, up2, hj])
  rw [e]; rfl
theorem sX_6_3 {i : Nat} {v : Int32} (h : i < 8) : (wX ca ad σ).set (6 + i) (ad 6 i, .inr (1, (fP ad σ i).set 3 (.int v))) = wX ca ad (uF 3 i v σ) := by
  rw [wX, px_sr 6 l0, px_sl (by rw [l6]; exact h)]
  have e : (w6 ad σ).set i (ad 6 i, .inr (1, (fP ad σ i).set 3 (.int v))) = w6 ad (uF 3 i v σ) := by
    have q : (fP ad σ i).set 3 (.int v) = fP ad (uF 3 i v σ) i := by simp [fP, sF, sR, uF, up2]
    rw [q]
    exact px_ms (g' := fun j => (ad 6 j, Sum.inr (1, fP ad (uF 3 i v σ) j))) (fun j hj => by simp [fP, sF, sR, uF, up2, hj])
  rw [e]; rfl
theorem sX_6_4 {i : Nat} {v : Int32} (h : i < 8) : (wX ca ad σ).set (6 + i) (ad 6 i, .inr (1, (fP ad σ i).set 4 (.int v))) = wX ca ad (uF 4 i v σ) := by
  rw [wX, px_sr 6 l0, px_sl (by rw [l6]; exact h)]
  have e : (w6 ad σ).set i (ad 6 i, .inr (1, (fP ad σ i).set 4 (.int v))) = w6 ad (uF 4 i v σ) := by
    have q : (fP ad σ i).set 4 (.int v) = fP ad (uF 4 i v σ) i := by simp [fP, sF, sR, uF, up2]
    rw [q]
    exact px_ms (g' := fun j => (ad 6 j, Sum.inr (1, fP ad (uF 4 i v σ) j))) (fun j hj => by simp [fP, sF, sR, uF, up2, hj])
  rw [e]; rfl
theorem sX_6_ask {i : Nat} {v : Nat} (h : i < 8) : (wX ca ad σ).set (6 + i) (ad 6 i, .inr (1, (fP ad σ i).set 5 (.ref (ad 10 v)))) = wX ca ad (uR i (some v) σ) := by
  rw [wX, px_sr 6 l0, px_sl (by rw [l6]; exact h)]
  have e : (w6 ad σ).set i (ad 6 i, .inr (1, (fP ad σ i).set 5 (.ref (ad 10 v)))) = w6 ad (uR i (some v) σ) := by
    have q : (fP ad σ i).set 5 (.ref (ad 10 v)) = fP ad (uR i (some v) σ) i := by simp [fP, sF, sR, uR, va_up, va_re, va_rf]
    rw [q]
    exact px_ms (g' := fun j => (ad 6 j, Sum.inr (1, fP ad (uR i (some v) σ) j))) (fun j hj => by simp [fP, sF, sR, uR, va_up, hj])
  rw [e]; rfl
theorem sX_6_askN {i : Nat} (h : i < 8) : (wX ca ad σ).set (6 + i) (ad 6 i, .inr (1, (fP ad σ i).set 5 (.null))) = wX ca ad (uR i (none) σ) := by
  rw [wX, px_sr 6 l0, px_sl (by rw [l6]; exact h)]
  have e : (w6 ad σ).set i (ad 6 i, .inr (1, (fP ad σ i).set 5 (.null))) = w6 ad (uR i (none) σ) := by
    have q : (fP ad σ i).set 5 (.null) = fP ad (uR i (none) σ) i := by simp [fP, sF, sR, uR, va_up, va_re, va_rf]
    rw [q]
    exact px_ms (g' := fun j => (ad 6 j, Sum.inr (1, fP ad (uR i (none) σ) j))) (fun j hj => by simp [fP, sF, sR, uR, va_up, hj])
  rw [e]; rfl
theorem sX_6_6 {i : Nat} {v : Int32} (h : i < 8) : (wX ca ad σ).set (6 + i) (ad 6 i, .inr (1, (fP ad σ i).set 6 (.int v))) = wX ca ad (uF 6 i v σ) := by
  rw [wX, px_sr 6 l0, px_sl (by rw [l6]; exact h)]
  have e : (w6 ad σ).set i (ad 6 i, .inr (1, (fP ad σ i).set 6 (.int v))) = w6 ad (uF 6 i v σ) := by
    have q : (fP ad σ i).set 6 (.int v) = fP ad (uF 6 i v σ) i := by simp [fP, sF, sR, uF, up2]
    rw [q]
    exact px_ms (g' := fun j => (ad 6 j, Sum.inr (1, fP ad (uF 6 i v σ) j))) (fun j hj => by simp [fP, sF, sR, uF, up2, hj])
  rw [e]; rfl
theorem sX_6_7 {i : Nat} {v : Int32} (h : i < 8) : (wX ca ad σ).set (6 + i) (ad 6 i, .inr (1, (fP ad σ i).set 7 (.int v))) = wX ca ad (uF 7 i v σ) := by
  rw [wX, px_sr 6 l0, px_sl (by rw [l6]; exact h)]
  have e : (w6 ad σ).set i (ad 6 i, .inr (1, (fP ad σ i).set 7 (.int v))) = w6 ad (uF 7 i v σ) := by
    have q : (fP ad σ i).set 7 (.int v) = fP ad (uF 7 i v σ) i := by simp [fP, sF, sR, uF, up2]
    rw [q]
    exact px_ms (g' := fun j => (ad 6 j, Sum.inr (1, fP ad (uF 7 i v σ) j))) (fun j hj => by simp [fP, sF, sR, uF, up2, hj])
  rw [e]; rfl
theorem sX_6_8 {i : Nat} {v : Int32} (h : i < 8) : (wX ca ad σ).set (6 + i) (ad 6 i, .inr (1, (fP ad σ i).set 8 (.int v))) = wX ca ad (uF 8 i v σ) := by
  rw [wX, px_sr 6 l0, px_sl (by rw [l6]; exact h)]
  have e : (w6 ad σ).set i (ad 6 i, .inr (1, (fP ad σ i).set 8 (.int v))) = w6 ad (uF 8 i v σ) := by
    have q : (fP ad σ i).set 8 (.int v) = fP ad (uF 8 i v σ) i := by simp [fP, sF, sR, uF, up2]
    rw [q]
    exact px_ms (g' := fun j => (ad 6 j, Sum.inr (1, fP ad (uF 8 i v σ) j))) (fun j hj => by simp [fP, sF, sR, uF, up2, hj])
  rw [e]; rfl
theorem sX_6_9 {i : Nat} {v : Int32} (h : i < 8) : (wX ca ad σ).set (6 + i) (ad 6 i, .inr (1, (fP ad σ i).set 9 (.int v))) = wX ca ad (uF 9 i v σ) := by
  rw [wX, px_sr 6 l0, px_sl (by rw [l6]; exact h)]
  have e : (w6 ad σ).set i (ad 6 i, .inr (1, (fP ad σ i).set 9 (.int v))) = w6 ad (uF 9 i v σ) := by
    have q : (fP ad σ i).set 9 (.int v) = fP ad (uF 9 i v σ) i := by simp [fP, sF, sR, uF, up2]
    rw [q]
    exact px_ms (g' := fun j => (ad 6 j, Sum.inr (1, fP ad (uF 9 i v σ) j))) (fun j hj => by simp [fP, sF, sR, uF, up2, hj])
  rw [e]; rfl
theorem sX_6_10 {i : Nat} {v : Int32} (h : i < 8) : (wX ca ad σ).set (6 + i) (ad 6 i, .inr (1, (fP ad σ i).set 10 (.int v))) = wX ca ad (uF 10 i v σ) := by
  rw [wX, px_sr 6 l0, px_sl (by rw [l6]; exact h)]
  have e : (w6 ad σ).set i (ad 6 i, .inr (1, (fP ad σ i).set 10 (.int v))) = w6 ad (uF 10 i v σ) := by
    have q : (fP ad σ i).set 10 (.int v) = fP ad (uF 10 i v σ) i := by simp [fP, sF, sR, uF, up2]
    rw [q]
    exact px_ms (g' := fun j => (ad 6 j, Sum.inr (1, fP ad (uF 10 i v σ) j))) (fun j hj => by simp [fP, sF, sR, uF, up2, hj])
  rw [e]; rfl
theorem sX_6_11 {i : Nat} {v : Int32} (h : i < 8) : (wX ca ad σ).set (6 + i) (ad 6 i, .inr (1, (fP ad σ i).set 11 (.int v))) = wX ca ad (uF 11 i v σ) := by
  rw [wX, px_sr 6 l0, px_sl (by rw [l6]; exact h)]
  have e : (w6 ad σ).set i (ad 6 i, .inr (1, (fP ad σ i).set 11 (.int v))) = w6 ad (uF 11 i v σ) := by
    have q : (fP ad σ i).set 11 (.int v) = fP ad (uF 11 i v σ) i := by simp [fP, sF, sR, uF, up2]
    rw [q]
    exact px_ms (g' := fun j => (ad 6 j, Sum.inr (1, fP ad (uF 11 i v σ) j))) (fun j hj => by simp [fP, sF, sR, uF, up2, hj])
  rw [e]; rfl
theorem sX_6_12 {i : Nat} {v : Int32} (h : i < 8) : (wX ca ad σ).set (6 + i) (ad 6 i, .inr (1, (fP ad σ i).set 12 (.int v))) = wX ca ad (uF 12 i v σ) := by
  rw [wX, px_sr 6 l0, px_sl (by rw [l6]; exact h)]
  have e : (w6 ad σ).set i (ad 6 i, .inr (1, (fP ad σ i).set 12 (.int v))) = w6 ad (uF 12 i v σ) := by
    have q : (fP ad σ i).set 12 (.int v) = fP ad (uF 12 i v σ) i := by simp [fP, sF, sR, uF, up2]
    rw [q]
    exact px_ms (g' := fun j => (ad 6 j, Sum.inr (1, fP ad (uF 12 i v σ) j))) (fun j hj => by simp [fP, sF, sR, uF, up2, hj])
  rw [e]; rfl
theorem sX_6_13 {i : Nat} {v : Int32} (h : i < 8) : (wX ca ad σ).set (6 + i) (ad 6 i, .inr (1, (fP ad σ i).set 13 (.int v))) = wX ca ad (uF 13 i v σ) := by
  rw [wX, px_sr 6 l0, px_sl (by rw [l6]; exact h)]
  have e : (w6 ad σ).set i (ad 6 i, .inr (1, (fP ad σ i).set 13 (.int v))) = w6 ad (uF 13 i v σ) := by
    have q : (fP ad σ i).set 13 (.int v) = fP ad (uF 13 i v σ) i := by simp [fP, sF, sR, uF, up2]
    rw [q]
    exact px_ms (g' := fun j => (ad 6 j, Sum.inr (1, fP ad (uF 13 i v σ) j))) (fun j hj => by simp [fP, sF, sR, uF, up2, hj])
  rw [e]; rfl
theorem sX_6_14 {i : Nat} {v : Int32} (h : i < 8) : (wX ca ad σ).set (6 + i) (ad 6 i, .inr (1, (fP ad σ i).set 14 (.int v))) = wX ca ad (uF 14 i v σ) := by
  rw [wX, px_sr 6 l0, px_sl (by rw [l6]; exact h)]
  have e : (w6 ad σ).set i (ad 6 i, .inr (1, (fP ad σ i).set 14 (.int v))) = w6 ad (uF 14 i v σ) := by
    have q : (fP ad σ i).set 14 (.int v) = fP ad (uF 14 i v σ) i := by simp [fP, sF, sR, uF, up2]
    rw [q]
    exact px_ms (g' := fun j => (ad 6 j, Sum.inr (1, fP ad (uF 14 i v σ) j))) (fun j hj => by simp [fP, sF, sR, uF, up2, hj])
  rw [e]; rfl
theorem sX_6_15 {i : Nat} {v : Int32} (h : i < 8) : (wX ca ad σ).set (6 + i) (ad 6 i, .inr (1, (fP ad σ i).set 15 (.int v))) = wX ca ad (uF 15 i v σ) := by
  rw [wX, px_sr 6 l0, px_sl (by rw [l6]; exact h)]
  have e : (w6 ad σ).set i (ad 6 i, .inr (1, (fP ad σ i).set 15 (.int v))) = w6 ad (uF 15 i v σ) := by
    have q : (fP ad σ i).set 15 (.int v) = fP ad (uF 15 i v σ) i := by simp [fP, sF, sR, uF, up2]
    rw [q]
    exact px_ms (g' := fun j => (ad 6 j, Sum.inr (1, fP ad (uF 15 i v σ) j))) (fun j hj => by simp [fP, sF, sR, uF, up2, hj])
  rw [e]; rfl
theorem sX_10_0 {j : Nat} {v : Int32} (h : j < sN σ) : (wX ca ad σ).set (6 + (8 + (8 + (8 + j)))) (ad 10 j, .inr (2, (fQ σ j).set 0 (.int v))) = wX ca ad (uH 0 j v σ) := by
  rw [wX, px_sr 6 l0, px_sr 8 l6, px_sr 8 l7, px_sr 8 l8, px_sl (by rw [lQ]; exact h)]
  have e : (wQ ad σ).set j (ad 10 j, .inr (2, (fQ σ j).set 0 (.int v))) = wQ ad (uH 0 j v σ) := by
    have q : (fQ σ j).set 0 (.int v) = fQ (uH 0 j v σ) j := by simp [fQ, sH, uH, up2]
    rw [q]
    exact px_ms (g' := fun i => (ad 10 i, Sum.inr (2, fQ (uH 0 j v σ) i))) (fun i hj => by simp [fQ, sH, uH, up2, hj])
  rw [e]; rfl
theorem sX_10_1 {j : Nat} {v : Int32} (h : j < sN σ) : (wX ca ad σ).set (6 + (8 + (8 + (8 + j)))) (ad 10 j, .inr (2, (fQ σ j).set 1 (.int v))) = wX ca ad (uH 1 j v σ) := by
  rw [wX, px_sr 6 l0, px_sr 8 l6, px_sr 8 l7, px_sr 8 l8, px_sl (by rw [lQ]; exact h)]
  have e : (wQ ad σ).set j (ad 10 j, .inr (2, (fQ σ j).set 1 (.int v))) = wQ ad (uH 1 j v σ) := by
    have q : (fQ σ j).set 1 (.int v) = fQ (uH 1 j v σ) j := by simp [fQ, sH, uH, up2]
    rw [q]
    exact px_ms (g' := fun i => (ad 10 i, Sum.inr (2, fQ (uH 1 j v σ) i))) (fun i hj => by simp [fQ, sH, uH, up2, hj])
  rw [e]; rfl
theorem sX_10_2 {j : Nat} {v : Int32} (h : j < sN σ) : (wX ca ad σ).set (6 + (8 + (8 + (8 + j)))) (ad 10 j, .inr (2, (fQ σ j).set 2 (.int v))) = wX ca ad (uH 2 j v σ) := by
  rw [wX, px_sr 6 l0, px_sr 8 l6, px_sr 8 l7, px_sr 8 l8, px_sl (by rw [lQ]; exact h)]
  have e : (wQ ad σ).set j (ad 10 j, .inr (2, (fQ σ j).set 2 (.int v))) = wQ ad (uH 2 j v σ) := by
    have q : (fQ σ j).set 2 (.int v) = fQ (uH 2 j v σ) j := by simp [fQ, sH, uH, up2]
    rw [q]
    exact px_ms (g' := fun i => (ad 10 i, Sum.inr (2, fQ (uH 2 j v σ) i))) (fun i hj => by simp [fQ, sH, uH, up2, hj])
  rw [e]; rfl
theorem sX_10_3 {j : Nat} {v : Int32} (h : j < sN σ) : (wX ca ad σ).set (6 + (8 + (8 + (8 + j)))) (ad 10 j, .inr (2, (fQ σ j).set 3 (.int v))) = wX ca ad (uH 3 j v σ) := by
  rw [wX, px_sr 6 l0, px_sr 8 l6, px_sr 8 l7, px_sr 8 l8, px_sl (by rw [lQ]; exact h)]
  have e : (wQ ad σ).set j (ad 10 j, .inr (2, (fQ σ j).set 3 (.int v))) = wQ ad (uH 3 j v σ) := by
    have q : (fQ σ j).set 3 (.int v) = fQ (uH 3 j v σ) j := by simp [fQ, sH, uH, up2]
    rw [q]
    exact px_ms (g' := fun i => (ad 10 i, Sum.inr (2, fQ (uH 3 j v σ) i))) (fun i hj => by simp [fQ, sH, uH, up2, hj])
  rw [e]; rfl
theorem sX_10_4 {j : Nat} {v : Int32} (h : j < sN σ) : (wX ca ad σ).set (6 + (8 + (8 + (8 + j)))) (ad 10 j, .inr (2, (fQ σ j).set 4 (.int v))) = wX ca ad (uH 4 j v σ) := by
  rw [wX, px_sr 6 l0, px_sr 8 l6, px_sr 8 l7, px_sr 8 l8, px_sl (by rw [lQ]; exact h)]
  have e : (wQ ad σ).set j (ad 10 j, .inr (2, (fQ σ j).set 4 (.int v))) = wQ ad (uH 4 j v σ) := by
    have q : (fQ σ j).set 4 (.int v) = fQ (uH 4 j v σ) j := by simp [fQ, sH, uH, up2]
    rw [q]
    exact px_ms (g' := fun i => (ad 10 i, Sum.inr (2, fQ (uH 4 j v σ) i))) (fun i hj => by simp [fQ, sH, uH, up2, hj])
  rw [e]; rfl
theorem sX_10_5 {j : Nat} {v : Int32} (h : j < sN σ) : (wX ca ad σ).set (6 + (8 + (8 + (8 + j)))) (ad 10 j, .inr (2, (fQ σ j).set 5 (.int v))) = wX ca ad (uH 5 j v σ) := by
  rw [wX, px_sr 6 l0, px_sr 8 l6, px_sr 8 l7, px_sr 8 l8, px_sl (by rw [lQ]; exact h)]
  have e : (wQ ad σ).set j (ad 10 j, .inr (2, (fQ σ j).set 5 (.int v))) = wQ ad (uH 5 j v σ) := by
    have q : (fQ σ j).set 5 (.int v) = fQ (uH 5 j v σ) j := by simp [fQ, sH, uH, up2]
    rw [q]
    exact px_ms (g' := fun i => (ad 10 i, Sum.inr (2, fQ (uH 5 j v σ) i))) (fun i hj => by simp [fQ, sH, uH, up2, hj])
  rw [e]; rfl
theorem sX_7 {i : Nat} {v : Nat → Int32} (h : i < 8) : (wX ca ad σ).set (6 + (8 + i)) (ad 7 i, .inl (ca 1, 232, .inl v)) = wX ca ad (uB 0 i v σ) := by
  rw [wX, px_sr 6 l0, px_sr 8 l6, px_sl (by rw [l7]; exact h)]
  have e : (w7 ca ad σ).set i (ad 7 i, .inl (ca 1, 232, .inl v)) = w7 ca ad (uB 0 i v σ) := by
    have q : v = sB (uB 0 i v σ) 0 i := by simp [sB, uB, up2]
    have k := px_ms (n := 8) (i := i) (g := fun j => ((ad 7 j, .inl (ca 1, 232, .inl (sB σ 0 j))) : Nat × va_E)) (g' := fun j => (ad 7 j, .inl (ca 1, 232, .inl (sB (uB 0 i v σ) 0 j)))) (fun j hj => by simp [sB, uB, up2, hj])
    rw [← q] at k
    exact k
  rw [e]; rfl
theorem sX_8 {i : Nat} {v : Nat → Int32} (h : i < 8) : (wX ca ad σ).set (6 + (8 + (8 + i))) (ad 8 i, .inl (ca 1, 134, .inl v)) = wX ca ad (uB 1 i v σ) := by
  rw [wX, px_sr 6 l0, px_sr 8 l6, px_sr 8 l7, px_sl (by rw [l8]; exact h)]
  have e : (w8 ca ad σ).set i (ad 8 i, .inl (ca 1, 134, .inl v)) = w8 ca ad (uB 1 i v σ) := by
    have q : v = sB (uB 1 i v σ) 1 i := by simp [sB, uB, up2]
    have k := px_ms (n := 8) (i := i) (g := fun j => ((ad 8 j, .inl (ca 1, 134, .inl (sB σ 1 j))) : Nat × va_E)) (g' := fun j => (ad 8 j, .inl (ca 1, 134, .inl (sB (uB 1 i v σ) 1 j)))) (fun j hj => by simp [sB, uB, up2, hj])
    rw [← q] at k
    exact k
  rw [e]; rfl
theorem sX_4 {v : Nat → Int32} : (wX ca ad σ).set 4 (ad 4 0, .inl (ca 1, 240, .inl v)) = wX ca ad (uA 0 v σ) := rfl
theorem sX_5 {v : Nat → Int32} : (wX ca ad σ).set 5 (ad 5 0, .inl (ca 0, 512, .inl v)) = wX ca ad (uA 1 v σ) := rfl
theorem eD_in {j : Nat} (h : j < sN σ) : va_rf (eD ad σ j) = .ref (ad 10 j) := by simp [eD, h, va_rf]
end PX
/-- what a contract asks of the cells outside: the statics of a throw, the texts, words that aren't among the good ones -/
def strX : List (String × Nat × String) := [("PatronHall", 51, "n is not 1 .. 8"), ("PatronHall", 58, "the tape would have more than 240 bytes"), ("PatronHall", 229, "there is no such client"), ("PatronHall", 73, "kind, k, v or the tape are not so"), ("PatronHall", 82, "the client waits, or 1024 were asked"), ("PatronHall", 121, "code, value or the tape are not so"), ("PatronHall", 141, "n is not 1 .. 1000"), ("PatronHall", 174, "a client has no such what"), ("PatronHall", 184, "no such byte was asked"), ("PatronHall", 192, "the answer has no such byte"), ("PatronHall", 197, "there is no such asking"), ("PatronHall", 221, "an asking has no such what")]
def badX : List Cond := [.declares ⟨"java/lang/RuntimeException", "<init>", "(Ljava/lang/String;)V"⟩, .declares ⟨"java/lang/Exception", "<init>", "(Ljava/lang/String;)V"⟩, .declares ⟨"java/lang/Throwable", "<init>", "(Ljava/lang/String;)V"⟩, .castable "java/lang/IllegalArgumentException" "java/lang/IllegalArgumentException", .castable "java/lang/IllegalStateException" "java/lang/IllegalStateException", .castable "java/lang/IndexOutOfBoundsException" "java/lang/IndexOutOfBoundsException", .castable "PatronHall$Asking" "java/lang/Object", .methodLinkNest "PatronHall$RequestLog" 28 ⟨"PatronHall", "isCommand", "(I)Z"⟩ "PatronHall"]
def eX (A : Nat → Prop) (U : State) : Prop := vx_Zq Bundle.tN "UNASSIGNED_STACK" Bundle.steD A U U.heap ∧ vx_Zq Bundle.tN "SUPPRESSED_SENTINEL" Bundle.listD A U U.heap ∧ (∀ (k : Nat) (q : String × Nat × String), strX[k]? = some q → ∃ sa : Nat, vk_R q.1 q.2.1 q.2.2 sa U) ∧ ∀ w ∈ badX, va_Nw w U
theorem eX.str {A : Nat → Prop} {U : State} (h : eX A U) (k : Nat) (q : String × Nat × String) (e : strX[k]? = some q) : ∃ sa : Nat, vk_R q.1 q.2.1 q.2.2 sa U := h.2.2.1 k q e
theorem eX.bad {A : Nat → Prop} {U : State} (h : eX A U) (w : Cond) (hw : w ∈ badX) : va_Nw w U := h.2.2.2 w hw
theorem bad_warm {s U : State} (hW : s.WarmedH U.vm) : ∀ w ∈ badX, va_Nw w s → va_Nw w U := by
  intro w hw h
  simp only [badX, List.mem_cons, List.not_mem_nil, or_false] at hw
  rcases hw with rfl | rfl | rfl | rfl | rfl | rfl | rfl | rfl
  all_goals first | exact va_Nw.warmD hW h | exact va_Nw.warmC hW h | exact va_Nw.warmM hW h
theorem eX.nest28 {A : Nat → Prop} {U : State} (h : eX A U) : va_Nw (.methodLinkNest RG 28 yH_isCommand "PatronHall") U := h.bad _ (by decide +kernel)
theorem hg_176 : ∀ w ∈ (vx_atS RH 176 "java/lang/IndexOutOfBoundsException" ["java/lang/RuntimeException", "java/lang/Exception"]).filter goodWord, w ∈ tbG := fun w h => List.mem_filter.mpr ⟨(by decide +kernel : ∀ w ∈ (vx_atS RH 176 "java/lang/IndexOutOfBoundsException" ["java/lang/RuntimeException", "java/lang/Exception"]).filter goodWord, w ∈ lw_tbl) w h, (List.mem_filter.mp h).2⟩
theorem gd_176 {ik : Nat} : ∀ w ∈ Cond.classLink RH ik "java/lang/IndexOutOfBoundsException" :: Cond.initialized "java/lang/IndexOutOfBoundsException" :: vx_atS RH 176 "java/lang/IndexOutOfBoundsException" ["java/lang/RuntimeException", "java/lang/Exception"], vx_ot w = true := fun w h => (List.mem_cons.mp h).elim (fun e => e ▸ rfl) (fun h => (by decide +kernel : ∀ w ∈ Cond.initialized "java/lang/IndexOutOfBoundsException" :: vx_atS RH 176 "java/lang/IndexOutOfBoundsException" ["java/lang/RuntimeException", "java/lang/Exception"], vx_ot w = true) w h)
theorem eX.hat176 {A : Nat → Prop} {args : Array Value} {s : State} (h : eX A s) (hts : ∀ w ∈ tbG, w.before args s = true) : ∀ w ∈ vx_atS RH 176 "java/lang/IndexOutOfBoundsException" ["java/lang/RuntimeException", "java/lang/Exception"], w.before args s = true := vx_hat (B := badX) (fun w hw => hts w (hg_176 w hw)) (by decide +kernel) (fun w hw => va_Nw.use (List.all_eq_true.mp (by decide +kernel : badX.all (fun w => w.onTables) = true) w hw) (h.bad w hw))
theorem hg_53 : ∀ w ∈ (vx_atS RH 53 "java/lang/IllegalArgumentException" ["java/lang/RuntimeException", "java/lang/Exception"]).filter goodWord, w ∈ tbG := fun w h => List.mem_filter.mpr ⟨(by decide +kernel : ∀ w ∈ (vx_atS RH 53 "java/lang/IllegalArgumentException" ["java/lang/RuntimeException", "java/lang/Exception"]).filter goodWord, w ∈ lw_tbl) w h, (List.mem_filter.mp h).2⟩
theorem gd_53 {ik : Nat} : ∀ w ∈ Cond.classLink RH ik "java/lang/IllegalArgumentException" :: Cond.initialized "java/lang/IllegalArgumentException" :: vx_atS RH 53 "java/lang/IllegalArgumentException" ["java/lang/RuntimeException", "java/lang/Exception"], vx_ot w = true := fun w h => (List.mem_cons.mp h).elim (fun e => e ▸ rfl) (fun h => (by decide +kernel : ∀ w ∈ Cond.initialized "java/lang/IllegalArgumentException" :: vx_atS RH 53 "java/lang/IllegalArgumentException" ["java/lang/RuntimeException", "java/lang/Exception"], vx_ot w = true) w h)
theorem eX.hat53 {A : Nat → Prop} {args : Array Value} {s : State} (h : eX A s) (hts : ∀ w ∈ tbG, w.before args s = true) : ∀ w ∈ vx_atS RH 53 "java/lang/IllegalArgumentException" ["java/lang/RuntimeException", "java/lang/Exception"], w.before args s = true := vx_hat (B := badX) (fun w hw => hts w (hg_53 w hw)) (by decide +kernel) (fun w hw => va_Nw.use (List.all_eq_true.mp (by decide +kernel : badX.all (fun w => w.onTables) = true) w hw) (h.bad w hw))
theorem hg_60 : ∀ w ∈ (vx_atS RH 60 "java/lang/IllegalStateException" ["java/lang/RuntimeException", "java/lang/Exception"]).filter goodWord, w ∈ tbG := fun w h => List.mem_filter.mpr ⟨(by decide +kernel : ∀ w ∈ (vx_atS RH 60 "java/lang/IllegalStateException" ["java/lang/RuntimeException", "java/lang/Exception"]).filter goodWord, w ∈ lw_tbl) w h, (List.mem_filter.mp h).2⟩
theorem gd_60 {ik : Nat} : ∀ w ∈ Cond.classLink RH ik "java/lang/IllegalStateException" :: Cond.initialized "java/lang/IllegalStateException" :: vx_atS RH 60 "java/lang/IllegalStateException" ["java/lang/RuntimeException", "java/lang/Exception"], vx_ot w = true := fun w h => (List.mem_cons.mp h).elim (fun e => e ▸ rfl) (fun h => (by decide +kernel : ∀ w ∈ Cond.initialized "java/lang/IllegalStateException" :: vx_atS RH 60 "java/lang/IllegalStateException" ["java/lang/RuntimeException", "java/lang/Exception"], vx_ot w = true) w h)
theorem eX.hat60 {A : Nat → Prop} {args : Array Value} {s : State} (h : eX A s) (hts : ∀ w ∈ tbG, w.before args s = true) : ∀ w ∈ vx_atS RH 60 "java/lang/IllegalStateException" ["java/lang/RuntimeException", "java/lang/Exception"], w.before args s = true := vx_hat (B := badX) (fun w hw => hts w (hg_60 w hw)) (by decide +kernel) (fun w hw => va_Nw.use (List.all_eq_true.mp (by decide +kernel : badX.all (fun w => w.onTables) = true) w hw) (h.bad w hw))
abbrev preX (D : va_G) (ca : Nat → ClassId) (ad : Nat → Nat → Nat) (σ : Sg) (sz : Nat) (U : State) : Prop := U.heap.size = sz ∧ va_P D clX (wX ca ad σ) U.heap ∧ va_K D clX (tyA ca) U ∧ va_D (fun _ => True) (wX ca ad σ) ∧ eX (va_A (wX ca ad σ) sz) U
abbrev atX (D : va_G) (ca : Nat → ClassId) (ad : Nat → Nat → Nat) (A : Nat → Prop) (σ : Sg) (t : State) : Prop := va_P D clX (wX ca ad σ) t.heap ∧ va_K D clX (tyA ca) t ∧ va_D A (wX ca ad σ)
abbrev atXx (D : va_G) (ca : Nat → ClassId) (ad : Nat → Nat → Nat) (A : Nat → Prop) (E : String) (u : String × Sg) (t : State) : Prop := E = u.1 ∧ va_P D clX (wX ca ad u.2) t.heap ∧ va_K D clX (tyA ca) t ∧ va_D A (wX ca ad u.2)
theorem eX.to {A B : Nat → Prop} {s U : State} {H : Heap} {locs : List Loc} (h : eX A s) (hS : va_S A s.heap H locs) (hB : ∀ q, B q → A q) (hU : U.heap = H) (hW : s.WarmedH U.vm) : eX B U := by
  have hk : ∀ a : Nat, a < s.heap.size → ¬ A a → U.heap[a]? = s.heap[a]? := fun a h1 h2 => by rw [hU]; exact hS.2.1 a h1 h2
  exact ⟨((h.1.kept hk).moved hW.alike).narrow hB, ((h.2.1.kept hk).moved hW.alike).narrow hB, fun k q e => by obtain ⟨sa, z⟩ := h.2.2.1 k q e; exact ⟨sa, vk_R.warm hW z⟩, fun w hw => bad_warm hW w hw (h.2.2.2 w hw)⟩
theorem px_pre {D : va_G} {ca : Nat → ClassId} {ad : Nat → Nat → Nat} {σ : Sg} {A : Nat → Prop} {s U : State} {H : Heap} {locs : List Loc} {av : List Value} (hP : va_P D clX (wX ca ad σ) H) (hK : va_K D clX (tyA ca) s) (hD : va_D A (wX ca ad σ)) (hE : eX A s) (hS : va_S A s.heap H locs) (hF : ∀ q, va_A (wX ca ad σ) H.size q → A q) (hU : U.heap = H) (hW : s.WarmedH U.vm) : va_Pc av (preX D ca ad σ H.size) av.toArray U :=
  ⟨rfl, by rw [hU], by rw [hU]; exact hP, va_K.moved hW.alike hK, hD.weaken (fun _ _ _ _ => trivial), hE.to hS hF hU hW⟩
theorem px_blind {D : va_G} {ca : Nat → ClassId} {ad : Nat → Nat → Nat} {σ : Sg} {sz : Nat} {av : List Value} : FrameBlind (va_Pc av (preX D ca ad σ sz)) := fun a U g mk q => by
  obtain ⟨q0, q1, qP, qK, qD, qE⟩ := q
  exact ⟨q0, q1, qP, va_K.moved (u := U) (U := U.calling g mk a) (Vm.Alike.refl U.vm) qK, qD, qE.1.moved (Vm.Alike.refl U.vm), qE.2.1.moved (Vm.Alike.refl U.vm), fun k q e => by obtain ⟨sa, z⟩ := qE.2.2.1 k q e; exact ⟨sa, vk_R.same rfl z⟩, fun w hw => va_Nw.same (u := U) (U := U.calling g mk a) (List.all_eq_true.mp (by decide +kernel : badX.all (fun w => w.onTables) = true) w hw) rfl (qE.2.2.2 w hw)⟩
theorem px_recv {D : va_G} {cl : List vw_C} {s : State} {H : Heap} {tys : List (ClassId × FieldType)} {ws : va_W} {a q0 ci : Nat} {q : vw_C} {fs : List Value} (hK : va_K D cl tys s) (hP : va_P D cl ws H) (he : ws[q0]? = some (a, .inr (ci, fs))) (hc : cl[ci]? = some q) : ∃ cell : Cell, H[a]? = some cell ∧ cell.vm.isStatics = false ∧ s.vm.findClass q.1 = some cell.cls := va_recv hK hP hc he
theorem va_S.F2 {A : Nat → Prop} {s t : State} {H : Heap} {locs : List Loc} (h : va_S A s.heap H locs) (hz : H.size ≤ t.heap.size) (hk : ∀ q : Nat, q < H.size → t.heap[q]? = H[q]?) : va_F A s t := ⟨Nat.le_trans h.1 hz, fun q h1 h2 => by rw [hk q (Nat.lt_of_lt_of_le h1 h.1)]; exact h.2.1 q h1 h2⟩
theorem px_out3 {x : Int32} (h0 : ¬ x = 0) (h1 : ¬ x = 1) (h2 : ¬ x = 2) : x.toInt < 0 ∨ 2 < x.toInt := by
  have a0 := lv_neT h0 (a := 0) rfl
  have a1 := lv_neT h1 (a := 1) rfl
  have a2 := lv_neT h2 (a := 2) rfl
  omega
theorem px_out4 {x : Int32} (h0 : ¬ x = 0) (h1 : ¬ x = 1) (h2 : ¬ x = 2) (h3 : ¬ x = 3) : x.toInt < 0 ∨ 3 < x.toInt := by
  have a0 := lv_neT h0 (a := 0) rfl
  have a1 := lv_neT h1 (a := 1) rfl
  have a2 := lv_neT h2 (a := 2) rfl
  have a3 := lv_neT h3 (a := 3) rfl
  omega
theorem px_out6 {x : Int32} (h0 : ¬ x = 0) (h1 : ¬ x = 1) (h2 : ¬ x = 2) (h3 : ¬ x = 3) (h4 : ¬ x = 4) (h5 : ¬ x = 5) : x.toInt < 0 ∨ 5 < x.toInt := by
  have a0 := lv_neT h0 (a := 0) rfl
  have a1 := lv_neT h1 (a := 1) rfl
  have a2 := lv_neT h2 (a := 2) rfl
  have a3 := lv_neT h3 (a := 3) rfl
  have a4 := lv_neT h4 (a := 4) rfl
  have a5 := lv_neT h5 (a := 5) rfl
  omega
theorem px_out9 {x : Int32} (h0 : ¬ x = 0) (h1 : ¬ x = 1) (h2 : ¬ x = 2) (h3 : ¬ x = 3) (h4 : ¬ x = 4) (h5 : ¬ x = 5) (h6 : ¬ x = 6) (h7 : ¬ x = 7) (h8 : ¬ x = 8) : x.toInt < 0 ∨ 8 < x.toInt := by
  have a0 := lv_neT h0 (a := 0) rfl
  have a1 := lv_neT h1 (a := 1) rfl
  have a2 := lv_neT h2 (a := 2) rfl
  have a3 := lv_neT h3 (a := 3) rfl
  have a4 := lv_neT h4 (a := 4) rfl
  have a5 := lv_neT h5 (a := 5) rfl
  have a6 := lv_neT h6 (a := 6) rfl
  have a7 := lv_neT h7 (a := 7) rfl
  have a8 := lv_neT h8 (a := 8) rfl
  omega
end
section
/-- a call that may throw, of a method that hands back a place (vx_calli's like) -/
theorem vx_calle {p : Program} {l : Launch} {e : Env} {R : Room} {s : State} {m : MethodId} {args : Array Value} {below : List Frame} {meth : Method} {c : Code} {H : Heap} {locs : List Loc} {cells slots : Nat} {Q : State → Prop} {mc ms : Nat} {free : Addr → Prop} {A0 A1 : Nat → Prop} {H0 : Heap} {a : Array Value} {pc : Nat} {ls : Array Slot} {st0 rest : List Value} {ad : Nat → Nat} {S SX : Type} {post : Option Nat → S → Prop} {px : SX → Prop} {B : S → State → Prop} {BX : String → SX → State → Prop} {AX : Nat → Prop} (hr : vx_Run p l e R s m args below meth c H locs cells slots mc ms (F0 m pc ls st0) rest (va_Qe ad post B A1 a) (vx_X px BX AX) free) (hS : va_S A0 H0 H locs) (hA : ∀ q, q < H.size → A1 q → A0 q) (hf : ∀ q, free q → A0 q) (hAX : ∀ q, q < H.size → AX q → A0 q)
    (kx : ∀ (E : String) (ce : Cell) (q9 : Addr) (u : SX) (t : State) (H1 : Heap) (locs1 : List Loc), t.heap = H1 → s.vm.Alike t.vm → px u → BX E u t → H.size ≤ H1.size → (∀ q : Nat, q < H.size → ¬ AX q → H1[q]? = H[q]?) → va_S A0 H0 H1 locs1 → H1[q9]? = some ce → ce.vm = .none → s.vm.findClass E = some ce.cls → vx_W p l e R s m args below meth c H1 locs1 (cells + mc) (slots + ms) Q (F0 m pc ls rest) q9)
    (kk : ∀ (r : Option Nat) (u : S) (t : State) (H1 : Heap) (locs1 : List Loc), t.heap = H1 → s.vm.Alike t.vm → post r u → B u t → H.size ≤ H1.size → (∀ q : Nat, q < H.size → ¬ A1 q → H1[q]? = H[q]?) → va_S A0 H0 H1 locs1 → W p l e R s m args below meth c H1 locs1 (cells + mc) (slots + ms) Q (F0 m (pc + 3) ls (va_re ad r :: rest))) : W p l e R s m args below meth c H locs cells slots Q (F0 m pc ls st0) := by
  intro T hT X
  rcases hr T hT X with ⟨v, st₀, t, T', L, h0, X', hL, e1, e2, ⟨⟨r, u, hv, hp, hb⟩, hF⟩, st⟩ | ⟨q, st₀, t, T', L, E, ce, h0, X', hL, e1, e2, ⟨u, hp, hb, hF⟩, hce, hcv, hcl, st⟩
  · cases hv
    obtain ⟨k1, k2, k3⟩ := vx_keep h0 e1 hS hA hf hL hF
    obtain ⟨t2, a1, b1⟩ := kk r u t T'.heap (locs ++ L) e1.symm (by rw [← e2]; exact X'.warmed.alike) hp hb k1 k2 k3 T' rfl X'
    exact ⟨t2, st t2 a1, b1⟩
  · obtain ⟨k1, k2, k3⟩ := vx_keep h0 e1 hS hAX hf hL hF
    obtain ⟨t2, a1, b1⟩ := kx E ce q u t T'.heap (locs ++ L) e1.symm (by rw [← e2]; exact X'.warmed.alike) hp hb k1 k2 k3 (by rw [e1]; exact hce) hcv hcl T' rfl X'
    exact ⟨t2, st.trans a1, b1⟩
end
section
theorem dH_asInt_0 : decode cH_asInt 0 = .ok (.iload_n 0, 1) := by decide +kernel
theorem dH_asInt_1 : decode cH_asInt 1 = .ok (.ifCond .eq 7, 3) := by decide +kernel
theorem dH_asInt_4 : decode cH_asInt 4 = .ok (.iconst 1, 1) := by decide +kernel
theorem dH_asInt_5 : decode cH_asInt 5 = .ok (.goto 4, 3) := by decide +kernel
theorem dH_asInt_8 : decode cH_asInt 8 = .ok (.iconst 0, 1) := by decide +kernel
theorem dH_asInt_9 : decode cH_asInt 9 = .ok (.ireturn, 1) := by decide +kernel
def wp_asInt (post : Int32 → Sg → Prop) (σ : Sg) (a0 : Int32) : Prop := (((a0 = 0) → post 0 σ) ∧ (¬ (a0 = 0) → post 1 σ))
set_option maxHeartbeats 4000000 in
set_option maxRecDepth 100000 in
theorem c_asInt (l : Launch) (D : va_G) (ca : Nat → ClassId) (ad : Nat → Nat → Nat) (σ : Sg) (a0 : Int32) (sz : Nat) (post : Int32 → Sg → Prop) (hw : wp_asInt post σ a0) : Met l yH_asInt wsH_asInt ({ frames := 0, cells := 0, slots := 0, locals := 0 }) (va_Pc [.int a0] (preX D ca ad σ sz)) (va_Qi post (atX D ca ad (va_A (wX ca ad σ) sz)) (va_A (wX ca ad σ) sz)) 0 0 (va_A (wX ca ad σ) sz) := by
  refine Met.ofW (cc := cH_asInt) (maxL := 1) (ret := (some .int)) (by decide) rfl ?_
  intro p e s m args below meth c s₁ B hml hv
  obtain ⟨rfl, hsz, hP, hK, hD0, hE⟩ := hv
  have hx := B.exec
  have hb := B.bytes
  have hr := B.returns
  have hts : ∀ w ∈ tbG, w.before _ s = true := fun w h => atoms_spec (ws := wsH_asInt) B.pre w (List.mem_cons_of_mem _ h)
  have hown : s.vm.findClass RH = some m.cls := findClass_of_methodNamed B.named
  have hlocks := B.notSynchronized
  subst hsz
  have hD := hD0.self (sz := s.heap.size)
  generalize hAe : va_A (wX ca ad σ) s.heap.size = A at hD hE ⊢
  have hA : ∀ q : Nat, s.heap.size ≤ q → A q := fun q h => by rw [← hAe]; exact Or.inr h
  clear hAe
  have hS : va_S A s.heap s.heap [] := va_S.rf
  have hl := lv_entry ([.int a0]) (n := 1) (Nat.le_of_ble_eq_true rfl)
  rw [lg_entry_eq]
  generalize (lg_sl ([.int a0]) ++ List.replicate (1 - (lg_sl ([.int a0])).length) Slot.unset).toArray = ls at hl ⊢
  have hl : lv_has ls 1 [(0, .int a0)] := hl
  unfold wp_asInt at hw
  have hP : va_P D clX (wX ca ad σ) s.heap := hP
  refine lv_iload_n hx hb dH_asInt_0 rfl (lv_at hl 0 rfl) ?_
  refine lv_if_eq (tgt := 8) hx hb dH_asInt_1 (by decide) (fun c1 => ?_) (fun c1 => ?_)
  · have hw := hw.1 c1
    refine lv_iconst (v := 0) hx hb dH_asInt_8 (by decide) ?_
    exact W.iret (v := 0) hx hb hr (fun t ht hW => ⟨⟨0, σ, rfl, hw, by rw [ht]; exact hP, va_K.moved hW.alike hK, hD⟩, hS.F ht⟩) hS.2.2 dH_asInt_9
  · have hw := hw.2 c1
    refine lv_iconst (v := 1) hx hb dH_asInt_4 (by decide) ?_
    refine lv_goto (tgt := 9) hx hb dH_asInt_5 (by decide) ?_
    exact W.iret (v := 1) hx hb hr (fun t ht hW => ⟨⟨1, σ, rfl, hw, by rw [ht]; exact hP, va_K.moved hW.alike hK, hD⟩, hS.F ht⟩) hS.2.2 dH_asInt_9
theorem dH_isCommand_0 : decode cH_isCommand 0 = .ok (.iload_n 0, 1) := by decide +kernel
theorem dH_isCommand_1 : decode cH_isCommand 1 = .ok (.ifCond .eq 13, 3) := by decide +kernel
theorem dH_isCommand_4 : decode cH_isCommand 4 = .ok (.iload_n 0, 1) := by decide +kernel
theorem dH_isCommand_5 : decode cH_isCommand 5 = .ok (.iconst 1, 1) := by decide +kernel
theorem dH_isCommand_6 : decode cH_isCommand 6 = .ok (.if_icmp .eq 8, 3) := by decide +kernel
theorem dH_isCommand_9 : decode cH_isCommand 9 = .ok (.iload_n 0, 1) := by decide +kernel
theorem dH_isCommand_10 : decode cH_isCommand 10 = .ok (.iconst 2, 1) := by decide +kernel
theorem dH_isCommand_11 : decode cH_isCommand 11 = .ok (.if_icmp .ne 7, 3) := by decide +kernel
theorem dH_isCommand_14 : decode cH_isCommand 14 = .ok (.iconst 1, 1) := by decide +kernel
theorem dH_isCommand_15 : decode cH_isCommand 15 = .ok (.goto 4, 3) := by decide +kernel
theorem dH_isCommand_18 : decode cH_isCommand 18 = .ok (.iconst 0, 1) := by decide +kernel
theorem dH_isCommand_19 : decode cH_isCommand 19 = .ok (.ireturn, 1) := by decide +kernel
def wp_isCommand (post : Int32 → Sg → Prop) (σ : Sg) (a0 : Int32) : Prop := (((a0 = 0) → post 1 σ) ∧ (¬ (a0 = 0) → (((a0 = 1) → post 1 σ) ∧ (¬ (a0 = 1) → ((¬ (a0 = 2) → post 0 σ) ∧ ((a0 = 2) → post 1 σ))))))
set_option maxHeartbeats 4000000 in
set_option maxRecDepth 100000 in
theorem c_isCommand (l : Launch) (D : va_G) (ca : Nat → ClassId) (ad : Nat → Nat → Nat) (σ : Sg) (a0 : Int32) (sz : Nat) (post : Int32 → Sg → Prop) (hw : wp_isCommand post σ a0) : Met l yH_isCommand wsH_isCommand ({ frames := 0, cells := 0, slots := 0, locals := 0 }) (va_Pc [.int a0] (preX D ca ad σ sz)) (va_Qi post (atX D ca ad (va_A (wX ca ad σ) sz)) (va_A (wX ca ad σ) sz)) 0 0 (va_A (wX ca ad σ) sz) := by
  refine Met.ofW (cc := cH_isCommand) (maxL := 1) (ret := (some .boolean)) (by decide) rfl ?_
  intro p e s m args below meth c s₁ B hml hv
  obtain ⟨rfl, hsz, hP, hK, hD0, hE⟩ := hv
  have hx := B.exec
  have hb := B.bytes
  have hr := B.returns
  have hts : ∀ w ∈ tbG, w.before _ s = true := fun w h => atoms_spec (ws := wsH_isCommand) B.pre w (List.mem_cons_of_mem _ h)
  have hown : s.vm.findClass RH = some m.cls := findClass_of_methodNamed B.named
  have hlocks := B.notSynchronized
  subst hsz
  have hD := hD0.self (sz := s.heap.size)
  generalize hAe : va_A (wX ca ad σ) s.heap.size = A at hD hE ⊢
  have hA : ∀ q : Nat, s.heap.size ≤ q → A q := fun q h => by rw [← hAe]; exact Or.inr h
  clear hAe
  have hS : va_S A s.heap s.heap [] := va_S.rf
  have hl := lv_entry ([.int a0]) (n := 1) (Nat.le_of_ble_eq_true rfl)
  rw [lg_entry_eq]
  generalize (lg_sl ([.int a0]) ++ List.replicate (1 - (lg_sl ([.int a0])).length) Slot.unset).toArray = ls at hl ⊢
  have hl : lv_has ls 1 [(0, .int a0)] := hl
  unfold wp_isCommand at hw
  have hP : va_P D clX (wX ca ad σ) s.heap := hP
  refine lv_iload_n hx hb dH_isCommand_0 rfl (lv_at hl 0 rfl) ?_
  refine lv_if_eq (tgt := 14) hx hb dH_isCommand_1 (by decide) (fun c1 => ?_) (fun c1 => ?_)
  · have hw := hw.1 c1
    refine lv_iconst (v := 1) hx hb dH_isCommand_14 (by decide) ?_
    refine lv_goto (tgt := 19) hx hb dH_isCommand_15 (by decide) ?_
    exact W.zret (ty := .boolean) (v := 1) hx hb hr (by decide) (fun t ht hW => ⟨⟨1, σ, rfl, hw, by rw [ht]; exact hP, va_K.moved hW.alike hK, hD⟩, hS.F ht⟩) hS.2.2 dH_isCommand_19
  · have hw := hw.2 c1
    refine lv_iload_n hx hb dH_isCommand_4 rfl (lv_at hl 0 rfl) ?_
    refine lv_iconst (v := 1) hx hb dH_isCommand_5 (by decide) ?_
    refine lv_icmp_eq (tgt := 14) hx hb dH_isCommand_6 (by decide) (fun c2 => ?_) (fun c2 => ?_)
    · have hw := hw.1 c2
      refine lv_iconst (v := 1) hx hb dH_isCommand_14 (by decide) ?_
      refine lv_goto (tgt := 19) hx hb dH_isCommand_15 (by decide) ?_
      exact W.zret (ty := .boolean) (v := 1) hx hb hr (by decide) (fun t ht hW => ⟨⟨1, σ, rfl, hw, by rw [ht]; exact hP, va_K.moved hW.alike hK, hD⟩, hS.F ht⟩) hS.2.2 dH_isCommand_19
    · have hw := hw.2 c2
      refine lv_iload_n hx hb dH_isCommand_9 rfl (lv_at hl 0 rfl) ?_
      refine lv_iconst (v := 2) hx hb dH_isCommand_10 (by decide) ?_
      refine lv_icmp_ne (tgt := 18) hx hb dH_isCommand_11 (by decide) (fun c3 => ?_) (fun c3 => ?_)
      · have hw := hw.1 c3
        refine lv_iconst (v := 0) hx hb dH_isCommand_18 (by decide) ?_
        exact W.zret (ty := .boolean) (v := 0) hx hb hr (by decide) (fun t ht hW => ⟨⟨0, σ, rfl, hw, by rw [ht]; exact hP, va_K.moved hW.alike hK, hD⟩, hS.F ht⟩) hS.2.2 dH_isCommand_19
      · have hw := hw.2 c3
        refine lv_iconst (v := 1) hx hb dH_isCommand_14 (by decide) ?_
        refine lv_goto (tgt := 19) hx hb dH_isCommand_15 (by decide) ?_
        exact W.zret (ty := .boolean) (v := 1) hx hb hr (by decide) (fun t ht hW => ⟨⟨1, σ, rfl, hw, by rw [ht]; exact hP, va_K.moved hW.alike hK, hD⟩, hS.F ht⟩) hS.2.2 dH_isCommand_19
theorem dP_waits_0 : decode cP_waits 0 = .ok (.aload_n 0, 1) := by decide +kernel
theorem dP_waits_1 : decode cP_waits 1 = .ok (.getfield 25, 3) := by decide +kernel
theorem dP_waits_4 : decode cP_waits 4 = .ok (.ifnull 7, 3) := by decide +kernel
theorem dP_waits_7 : decode cP_waits 7 = .ok (.iconst 1, 1) := by decide +kernel
theorem dP_waits_8 : decode cP_waits 8 = .ok (.goto 4, 3) := by decide +kernel
theorem dP_waits_11 : decode cP_waits 11 = .ok (.iconst 0, 1) := by decide +kernel
theorem dP_waits_12 : decode cP_waits 12 = .ok (.ireturn, 1) := by decide +kernel
def wp_waits (post : Int32 → Sg → Prop) (σ : Sg) (i : Nat) : Prop := (((sR σ i) = none → post 0 σ) ∧ (∀ j1 : Nat, (sR σ i) = some j1 → (j1 < sN σ ∧ post 1 σ)))
set_option maxHeartbeats 4000000 in
set_option maxRecDepth 100000 in
theorem c_waits (l : Launch) (D : va_G) (ca : Nat → ClassId) (ad : Nat → Nat → Nat) (σ : Sg) (i : Nat) (hi : i < 8) (sz : Nat) (post : Int32 → Sg → Prop) (hw : wp_waits post σ i) : Met l yP_waits wsP_waits ({ frames := 0, cells := 0, slots := 0, locals := 0 }) (va_Pc [.ref (ad 6 i)] (preX D ca ad σ sz)) (va_Qi post (atX D ca ad (va_A (wX ca ad σ) sz)) (va_A (wX ca ad σ) sz)) 0 0 (va_A (wX ca ad σ) sz) := by
  refine Met.ofW (cc := cP_waits) (maxL := 1) (ret := (some .boolean)) (by decide) rfl ?_
  intro p e s m args below meth c s₁ B hml hv
  obtain ⟨rfl, hsz, hP, hK, hD0, hE⟩ := hv
  have hx := B.exec
  have hb := B.bytes
  have hr := B.returns
  have hts : ∀ w ∈ tbG, w.before _ s = true := fun w h => atoms_spec (ws := wsP_waits) B.pre w (List.mem_cons_of_mem _ h)
  have hown : s.vm.findClass RP = some m.cls := findClass_of_methodNamed B.named
  have hlocks := B.notSynchronized
  subst hsz
  have hD := hD0.self (sz := s.heap.size)
  generalize hAe : va_A (wX ca ad σ) s.heap.size = A at hD hE ⊢
  have hA : ∀ q : Nat, s.heap.size ≤ q → A q := fun q h => by rw [← hAe]; exact Or.inr h
  clear hAe
  have hS : va_S A s.heap s.heap [] := va_S.rf
  have hl := lv_entry ([.ref (ad 6 i)]) (n := 1) (Nat.le_of_ble_eq_true rfl)
  rw [lg_entry_eq]
  generalize (lg_sl ([.ref (ad 6 i)]) ++ List.replicate (1 - (lg_sl ([.ref (ad 6 i)])).length) Slot.unset).toArray = ls at hl ⊢
  have hl : lv_has ls 1 [(0, .ref (ad 6 i))] := hl
  unfold wp_waits at hw
  have hP : va_P D clX (wX ca ad σ) s.heap := hP
  refine lv_aload_n hx hb dP_waits_0 rfl (lv_at hl 0 rfl) ?_
  refine va_get (D := D) (ci := 1) (v := va_re (ad 10) (sR σ i)) (C := RP) (T := TP) (N := 16) hx hb hts inP hown hK hP (6 + i) (gX_6 hi) rfl 5 (by decide) (hts _ tw_88) (fun _ h9 => h9) rfl dP_waits_1 ?_
  cases e2 : sR σ i with
  | none =>
    have hw := hw.1 e2
    try rw [e2]
    refine lv_ifnullN (tgt := 11) hx hb dP_waits_4 (by decide) ?_
    refine lv_iconst (v := 0) hx hb dP_waits_11 (by decide) ?_
    exact W.zret (ty := .boolean) (v := 0) hx hb hr (by decide) (fun t ht hW => ⟨⟨0, σ, rfl, hw, by rw [ht]; exact hP, va_K.moved hW.alike hK, hD⟩, hS.F ht⟩) hS.2.2 dP_waits_12
  | some j1 =>
    obtain ⟨hj3, hw⟩ := hw.2 j1 e2
    try rw [e2]
    refine lv_ifnull hx hb dP_waits_4 ?_
    refine lv_iconst (v := 1) hx hb dP_waits_7 (by decide) ?_
    refine lv_goto (tgt := 12) hx hb dP_waits_8 (by decide) ?_
    exact W.zret (ty := .boolean) (v := 1) hx hb hr (by decide) (fun t ht hW => ⟨⟨1, σ, rfl, hw, by rw [ht]; exact hP, va_K.moved hW.alike hK, hD⟩, hS.F ht⟩) hS.2.2 dP_waits_12
theorem dP_becomeIdle_0 : decode cP_becomeIdle 0 = .ok (.aload_n 0, 1) := by decide +kernel
theorem dP_becomeIdle_1 : decode cP_becomeIdle 1 = .ok (.aconst_null, 1) := by decide +kernel
theorem dP_becomeIdle_2 : decode cP_becomeIdle 2 = .ok (.putfield 25, 3) := by decide +kernel
theorem dP_becomeIdle_5 : decode cP_becomeIdle 5 = .ok (.aload_n 0, 1) := by decide +kernel
theorem dP_becomeIdle_6 : decode cP_becomeIdle 6 = .ok (.iconst 0, 1) := by decide +kernel
theorem dP_becomeIdle_7 : decode cP_becomeIdle 7 = .ok (.putfield 47, 3) := by decide +kernel
theorem dP_becomeIdle_10 : decode cP_becomeIdle 10 = .ok (.aload_n 0, 1) := by decide +kernel
theorem dP_becomeIdle_11 : decode cP_becomeIdle 11 = .ok (.iconst (-1), 1) := by decide +kernel
theorem dP_becomeIdle_12 : decode cP_becomeIdle 12 = .ok (.putfield 51, 3) := by decide +kernel
theorem dP_becomeIdle_15 : decode cP_becomeIdle 15 = .ok (.aload_n 0, 1) := by decide +kernel
theorem dP_becomeIdle_16 : decode cP_becomeIdle 16 = .ok (.iconst 0, 1) := by decide +kernel
theorem dP_becomeIdle_17 : decode cP_becomeIdle 17 = .ok (.putfield 57, 3) := by decide +kernel
theorem dP_becomeIdle_20 : decode cP_becomeIdle 20 = .ok (.return_, 1) := by decide +kernel
def wp_becomeIdle (post : Sg → Prop) (σ : Sg) (i : Nat) : Prop := post (uF 15 i 0 (uF 13 i (-1) (uF 12 i 0 (uR i none σ))))
set_option maxHeartbeats 4000000 in
set_option maxRecDepth 100000 in
theorem c_becomeIdle (l : Launch) (D : va_G) (ca : Nat → ClassId) (ad : Nat → Nat → Nat) (σ : Sg) (i : Nat) (hi : i < 8) (sz : Nat) (post : Sg → Prop) (hw : wp_becomeIdle post σ i) : Met l yP_becomeIdle wsP_becomeIdle ({ frames := 0, cells := 0, slots := 0, locals := 0 }) (va_Pc [.ref (ad 6 i)] (preX D ca ad σ sz)) (va_Qv post (atX D ca ad (va_A (wX ca ad σ) sz)) (va_A (wX ca ad σ) sz)) 0 0 (va_A (wX ca ad σ) sz) := by
  refine Met.ofW (cc := cP_becomeIdle) (maxL := 1) (ret := none) (by decide) rfl ?_
  intro p e s m args below meth c s₁ B hml hv
  obtain ⟨rfl, hsz, hP, hK, hD0, hE⟩ := hv
  have hx := B.exec
  have hb := B.bytes
  have hr := B.returns
  have hts : ∀ w ∈ tbG, w.before _ s = true := fun w h => atoms_spec (ws := wsP_becomeIdle) B.pre w (List.mem_cons_of_mem _ h)
  have hown : s.vm.findClass RP = some m.cls := findClass_of_methodNamed B.named
  have hlocks := B.notSynchronized
  subst hsz
  have hD := hD0.self (sz := s.heap.size)
  generalize hAe : va_A (wX ca ad σ) s.heap.size = A at hD hE ⊢
  have hA : ∀ q : Nat, s.heap.size ≤ q → A q := fun q h => by rw [← hAe]; exact Or.inr h
  clear hAe
  have hS : va_S A s.heap s.heap [] := va_S.rf
  have hl := lv_entry ([.ref (ad 6 i)]) (n := 1) (Nat.le_of_ble_eq_true rfl)
  rw [lg_entry_eq]
  generalize (lg_sl ([.ref (ad 6 i)]) ++ List.replicate (1 - (lg_sl ([.ref (ad 6 i)])).length) Slot.unset).toArray = ls at hl ⊢
  have hl : lv_has ls 1 [(0, .ref (ad 6 i))] := hl
  unfold wp_becomeIdle at hw
  have hP : va_P D clX (wX ca ad σ) s.heap := hP
  refine lv_aload_n hx hb dP_becomeIdle_0 rfl (lv_at hl 0 rfl) ?_
  refine lv_null hx hb dP_becomeIdle_1 ?_
  refine va_put (D := D) (ci := 1) (v := .null) (ty := (.object "PatronHall$Asking")) (C := RP) (T := TP) (N := 16) hx hb hts inP tyP tyP_ok nmP hown hK hP hD hS (6 + i) (gX_6 hi) rfl 5 (by decide) (hts _ tw_88) (fun _ h9 => h9) rfl (by decide +kernel) rfl rfl (Nat.le_of_ble_eq_true rfl) dP_becomeIdle_2 (fun H locs hP hD hS => ?_)
  rw [sX_6_askN hi] at hP hD
  refine lv_aload_n hx hb dP_becomeIdle_5 rfl (lv_at hl 0 rfl) ?_
  refine lv_iconst (v := 0) hx hb dP_becomeIdle_6 (by decide) ?_
  refine va_put (D := D) (ci := 1) (v := .int 0) (ty := .boolean) (C := RP) (T := TP) (N := 16) hx hb hts inP tyP tyP_ok nmP hown hK hP hD hS (6 + i) (gX_6 hi) rfl 12 (by decide) (hts _ tw_107) (fun _ h9 => h9) rfl (by decide +kernel) (by decide) (by decide) (Nat.le_of_ble_eq_true rfl) dP_becomeIdle_7 (fun H locs hP hD hS => ?_)
  rw [sX_6_12 hi] at hP hD
  refine lv_aload_n hx hb dP_becomeIdle_10 rfl (lv_at hl 0 rfl) ?_
  refine lv_iconst (v := (-1)) hx hb dP_becomeIdle_11 (by decide) ?_
  refine va_put (D := D) (ci := 1) (v := .int (-1)) (ty := .int) (C := RP) (T := TP) (N := 16) hx hb hts inP tyP tyP_ok nmP hown hK hP hD hS (6 + i) (gX_6 hi) rfl 13 (by decide) (hts _ tw_110) (fun _ h9 => h9) rfl (by decide +kernel) rfl rfl (Nat.le_of_ble_eq_true rfl) dP_becomeIdle_12 (fun H locs hP hD hS => ?_)
  rw [sX_6_13 hi] at hP hD
  refine lv_aload_n hx hb dP_becomeIdle_15 rfl (lv_at hl 0 rfl) ?_
  refine lv_iconst (v := 0) hx hb dP_becomeIdle_16 (by decide) ?_
  refine va_put (D := D) (ci := 1) (v := .int 0) (ty := .boolean) (C := RP) (T := TP) (N := 16) hx hb hts inP tyP tyP_ok nmP hown hK hP hD hS (6 + i) (gX_6 hi) rfl 15 (by decide) (hts _ tw_114) (fun _ h9 => h9) rfl (by decide +kernel) (by decide) (by decide) (Nat.le_of_ble_eq_true rfl) dP_becomeIdle_17 (fun H locs hP hD hS => ?_)
  rw [sX_6_15 hi] at hP hD
  exact W.vret hx hb hr (fun t ht hW => ⟨⟨(uF 15 i 0 (uF 13 i (-1) (uF 12 i 0 (uR i none σ)))), rfl, hw, by rw [ht]; exact hP, va_K.moved hW.alike hK, hD⟩, hS.F ht⟩) hS.2.2 dP_becomeIdle_20
theorem dP_turnToNextServer_0 : decode cP_turnToNextServer 0 = .ok (.aload_n 0, 1) := by decide +kernel
theorem dP_turnToNextServer_1 : decode cP_turnToNextServer 1 = .ok (.aload_n 0, 1) := by decide +kernel
theorem dP_turnToNextServer_2 : decode cP_turnToNextServer 2 = .ok (.getfield 32, 3) := by decide +kernel
theorem dP_turnToNextServer_5 : decode cP_turnToNextServer 5 = .ok (.iconst 1, 1) := by decide +kernel
theorem dP_turnToNextServer_6 : decode cP_turnToNextServer 6 = .ok (.iadd, 1) := by decide +kernel
theorem dP_turnToNextServer_7 : decode cP_turnToNextServer 7 = .ok (.bipush 7, 2) := by decide +kernel
theorem dP_turnToNextServer_9 : decode cP_turnToNextServer 9 = .ok (.if_icmp .ge 12, 3) := by decide +kernel
theorem dP_turnToNextServer_12 : decode cP_turnToNextServer 12 = .ok (.aload_n 0, 1) := by decide +kernel
theorem dP_turnToNextServer_13 : decode cP_turnToNextServer 13 = .ok (.getfield 32, 3) := by decide +kernel
theorem dP_turnToNextServer_16 : decode cP_turnToNextServer 16 = .ok (.iconst 1, 1) := by decide +kernel
theorem dP_turnToNextServer_17 : decode cP_turnToNextServer 17 = .ok (.iadd, 1) := by decide +kernel
theorem dP_turnToNextServer_18 : decode cP_turnToNextServer 18 = .ok (.goto 4, 3) := by decide +kernel
theorem dP_turnToNextServer_21 : decode cP_turnToNextServer 21 = .ok (.iconst 0, 1) := by decide +kernel
theorem dP_turnToNextServer_22 : decode cP_turnToNextServer 22 = .ok (.putfield 32, 3) := by decide +kernel
theorem dP_turnToNextServer_25 : decode cP_turnToNextServer 25 = .ok (.return_, 1) := by decide +kernel
def wp_turnToNextServer (post : Sg → Prop) (σ : Sg) (i : Nat) : Prop := (((7 ≤ ((sF σ 7 i) + 1)) → post (uF 7 i 0 σ)) ∧ (¬ (7 ≤ ((sF σ 7 i) + 1)) → post (uF 7 i ((sF σ 7 i) + 1) σ)))
set_option maxHeartbeats 4000000 in
set_option maxRecDepth 100000 in
theorem c_turnToNextServer (l : Launch) (D : va_G) (ca : Nat → ClassId) (ad : Nat → Nat → Nat) (σ : Sg) (i : Nat) (hi : i < 8) (sz : Nat) (post : Sg → Prop) (hw : wp_turnToNextServer post σ i) : Met l yP_turnToNextServer wsP_turnToNextServer ({ frames := 0, cells := 0, slots := 0, locals := 0 }) (va_Pc [.ref (ad 6 i)] (preX D ca ad σ sz)) (va_Qv post (atX D ca ad (va_A (wX ca ad σ) sz)) (va_A (wX ca ad σ) sz)) 0 0 (va_A (wX ca ad σ) sz) := by
  refine Met.ofW (cc := cP_turnToNextServer) (maxL := 1) (ret := none) (by decide) rfl ?_
  intro p e s m args below meth c s₁ B hml hv
  obtain ⟨rfl, hsz, hP, hK, hD0, hE⟩ := hv
  have hx := B.exec
  have hb := B.bytes
  have hr := B.returns
  have hts : ∀ w ∈ tbG, w.before _ s = true := fun w h => atoms_spec (ws := wsP_turnToNextServer) B.pre w (List.mem_cons_of_mem _ h)
  have hown : s.vm.findClass RP = some m.cls := findClass_of_methodNamed B.named
  have hlocks := B.notSynchronized
  subst hsz
  have hD := hD0.self (sz := s.heap.size)
  generalize hAe : va_A (wX ca ad σ) s.heap.size = A at hD hE ⊢
  have hA : ∀ q : Nat, s.heap.size ≤ q → A q := fun q h => by rw [← hAe]; exact Or.inr h
  clear hAe
  have hS : va_S A s.heap s.heap [] := va_S.rf
  have hl := lv_entry ([.ref (ad 6 i)]) (n := 1) (Nat.le_of_ble_eq_true rfl)
  rw [lg_entry_eq]
  generalize (lg_sl ([.ref (ad 6 i)]) ++ List.replicate (1 - (lg_sl ([.ref (ad 6 i)])).length) Slot.unset).toArray = ls at hl ⊢
  have hl : lv_has ls 1 [(0, .ref (ad 6 i))] := hl
  unfold wp_turnToNextServer at hw
  have hP : va_P D clX (wX ca ad σ) s.heap := hP
  refine lv_aload_n hx hb dP_turnToNextServer_0 rfl (lv_at hl 0 rfl) ?_
  refine lv_aload_n hx hb dP_turnToNextServer_1 rfl (lv_at hl 0 rfl) ?_
  refine va_get (D := D) (ci := 1) (v := .int (sF σ 7 i)) (C := RP) (T := TP) (N := 16) hx hb hts inP hown hK hP (6 + i) (gX_6 hi) rfl 7 (by decide) (hts _ tw_93) (fun _ h9 => h9) rfl dP_turnToNextServer_2 ?_
  refine lv_iconst (v := 1) hx hb dP_turnToNextServer_5 (by decide) ?_
  refine lv_iadd hx hb dP_turnToNextServer_6 ?_
  refine lv_bipush (v := 7) hx hb dP_turnToNextServer_7 (by decide) ?_
  refine lv_icmp_ge (tgt := 21) hx hb dP_turnToNextServer_9 (by decide) (fun c1 => ?_) (fun c1 => ?_)
  · have hw := hw.1 c1
    refine lv_iconst (v := 0) hx hb dP_turnToNextServer_21 (by decide) ?_
    refine va_put (D := D) (ci := 1) (v := .int 0) (ty := .int) (C := RP) (T := TP) (N := 16) hx hb hts inP tyP tyP_ok nmP hown hK hP hD hS (6 + i) (gX_6 hi) rfl 7 (by decide) (hts _ tw_93) (fun _ h9 => h9) rfl (by decide +kernel) rfl rfl (Nat.le_of_ble_eq_true rfl) dP_turnToNextServer_22 (fun H locs hP hD hS => ?_)
    rw [sX_6_7 hi] at hP hD
    exact W.vret hx hb hr (fun t ht hW => ⟨⟨(uF 7 i 0 σ), rfl, hw, by rw [ht]; exact hP, va_K.moved hW.alike hK, hD⟩, hS.F ht⟩) hS.2.2 dP_turnToNextServer_25
  · have hw := hw.2 c1
    refine lv_aload_n hx hb dP_turnToNextServer_12 rfl (lv_at hl 0 rfl) ?_
    refine va_get (D := D) (ci := 1) (v := .int (sF σ 7 i)) (C := RP) (T := TP) (N := 16) hx hb hts inP hown hK hP (6 + i) (gX_6 hi) rfl 7 (by decide) (hts _ tw_93) (fun _ h9 => h9) rfl dP_turnToNextServer_13 ?_
    refine lv_iconst (v := 1) hx hb dP_turnToNextServer_16 (by decide) ?_
    refine lv_iadd hx hb dP_turnToNextServer_17 ?_
    refine lv_goto (tgt := 22) hx hb dP_turnToNextServer_18 (by decide) ?_
    refine va_put (D := D) (ci := 1) (v := .int ((sF σ 7 i) + 1)) (ty := .int) (C := RP) (T := TP) (N := 16) hx hb hts inP tyP tyP_ok nmP hown hK hP hD hS (6 + i) (gX_6 hi) rfl 7 (by decide) (hts _ tw_93) (fun _ h9 => h9) rfl (by decide +kernel) rfl rfl (Nat.le_of_ble_eq_true rfl) dP_turnToNextServer_22 (fun H locs hP hD hS => ?_)
    rw [sX_6_7 hi] at hP hD
    exact W.vret hx hb hr (fun t ht hW => ⟨⟨(uF 7 i ((sF σ 7 i) + 1) σ), rfl, hw, by rw [ht]; exact hP, va_K.moved hW.alike hK, hD⟩, hS.F ht⟩) hS.2.2 dP_turnToNextServer_25
theorem dH_nextMoment_0 : decode cH_nextMoment 0 = .ok (.aload_n 0, 1) := by decide +kernel
theorem dH_nextMoment_1 : decode cH_nextMoment 1 = .ok (.getfield 40, 3) := by decide +kernel
theorem dH_nextMoment_4 : decode cH_nextMoment 4 = .ok (.istore_n 1, 1) := by decide +kernel
theorem dH_nextMoment_5 : decode cH_nextMoment 5 = .ok (.aload_n 0, 1) := by decide +kernel
theorem dH_nextMoment_6 : decode cH_nextMoment 6 = .ok (.dup, 1) := by decide +kernel
theorem dH_nextMoment_7 : decode cH_nextMoment 7 = .ok (.getfield 40, 3) := by decide +kernel
theorem dH_nextMoment_10 : decode cH_nextMoment 10 = .ok (.iconst 1, 1) := by decide +kernel
theorem dH_nextMoment_11 : decode cH_nextMoment 11 = .ok (.iadd, 1) := by decide +kernel
theorem dH_nextMoment_12 : decode cH_nextMoment 12 = .ok (.putfield 40, 3) := by decide +kernel
theorem dH_nextMoment_15 : decode cH_nextMoment 15 = .ok (.iload_n 1, 1) := by decide +kernel
theorem dH_nextMoment_16 : decode cH_nextMoment 16 = .ok (.ireturn, 1) := by decide +kernel
def wp_nextMoment (post : Int32 → Sg → Prop) (σ : Sg)  : Prop := post (sG σ 2) (uG 2 ((sG σ 2) + 1) σ)
set_option maxHeartbeats 4000000 in
set_option maxRecDepth 100000 in
theorem c_nextMoment (l : Launch) (D : va_G) (ca : Nat → ClassId) (ad : Nat → Nat → Nat) (σ : Sg)  (sz : Nat) (post : Int32 → Sg → Prop) (hw : wp_nextMoment post σ ) : Met l yH_nextMoment wsH_nextMoment ({ frames := 0, cells := 0, slots := 0, locals := 0 }) (va_Pc [.ref (ad 0 0)] (preX D ca ad σ sz)) (va_Qi post (atX D ca ad (va_A (wX ca ad σ) sz)) (va_A (wX ca ad σ) sz)) 0 0 (va_A (wX ca ad σ) sz) := by
  refine Met.ofW (cc := cH_nextMoment) (maxL := 2) (ret := (some .int)) (by decide) rfl ?_
  intro p e s m args below meth c s₁ B hml hv
  obtain ⟨rfl, hsz, hP, hK, hD0, hE⟩ := hv
  have hx := B.exec
  have hb := B.bytes
  have hr := B.returns
  have hts : ∀ w ∈ tbG, w.before _ s = true := fun w h => atoms_spec (ws := wsH_nextMoment) B.pre w (List.mem_cons_of_mem _ h)
  have hown : s.vm.findClass RH = some m.cls := findClass_of_methodNamed B.named
  have hlocks := B.notSynchronized
  subst hsz
  have hD := hD0.self (sz := s.heap.size)
  generalize hAe : va_A (wX ca ad σ) s.heap.size = A at hD hE ⊢
  have hA : ∀ q : Nat, s.heap.size ≤ q → A q := fun q h => by rw [← hAe]; exact Or.inr h
  clear hAe
  have hS : va_S A s.heap s.heap [] := va_S.rf
  have hl := lv_entry ([.ref (ad 0 0)]) (n := 2) (Nat.le_of_ble_eq_true rfl)
  rw [lg_entry_eq]
  generalize (lg_sl ([.ref (ad 0 0)]) ++ List.replicate (2 - (lg_sl ([.ref (ad 0 0)])).length) Slot.unset).toArray = ls at hl ⊢
  have hl : lv_has ls 2 [(0, .ref (ad 0 0))] := hl
  unfold wp_nextMoment at hw
  have hP : va_P D clX (wX ca ad σ) s.heap := hP
  refine lv_aload_n hx hb dH_nextMoment_0 rfl (lv_at hl 0 rfl) ?_
  refine va_get (D := D) (ci := 0) (v := .int (sG σ 2)) (C := RH) (T := TH) (N := 8) hx hb hts inH hown hK hP 0 gX_0 rfl 6 (by decide) (hts _ tw_156) (fun _ h9 => h9) rfl dH_nextMoment_1 ?_
  refine lv_istore_n (lv' := [(1, .int (sG σ 2)), (0, .ref (ad 0 0))]) hx hb dH_nextMoment_4 rfl hl (by decide) rfl (fun ls hl => ?_)
  refine lv_aload_n hx hb dH_nextMoment_5 rfl (lv_at hl 1 rfl) ?_
  refine lv_dup hx hb dH_nextMoment_6 rfl ?_
  refine va_get (D := D) (ci := 0) (v := .int (sG σ 2)) (C := RH) (T := TH) (N := 8) hx hb hts inH hown hK hP 0 gX_0 rfl 6 (by decide) (hts _ tw_156) (fun _ h9 => h9) rfl dH_nextMoment_7 ?_
  refine lv_iconst (v := 1) hx hb dH_nextMoment_10 (by decide) ?_
  refine lv_iadd hx hb dH_nextMoment_11 ?_
  refine va_put (D := D) (ci := 0) (v := .int ((sG σ 2) + 1)) (ty := .int) (C := RH) (T := TH) (N := 8) hx hb hts inH tyH tyH_ok nmH hown hK hP hD hS 0 gX_0 rfl 6 (by decide) (hts _ tw_156) (fun _ h9 => h9) rfl (by decide +kernel) rfl rfl (Nat.le_of_ble_eq_true rfl) dH_nextMoment_12 (fun H locs hP hD hS => ?_)
  rw [sX_0_6] at hP hD
  refine lv_iload_n hx hb dH_nextMoment_15 rfl (lv_at hl 0 rfl) ?_
  exact W.iret (v := (sG σ 2)) hx hb hr (fun t ht hW => ⟨⟨(sG σ 2), (uG 2 ((sG σ 2) + 1) σ), rfl, hw, by rw [ht]; exact hP, va_K.moved hW.alike hK, hD⟩, hS.F ht⟩) hS.2.2 dH_nextMoment_16
theorem dH_takeTape_0 : decode cH_takeTape 0 = .ok (.aload_n 0, 1) := by decide +kernel
theorem dH_takeTape_1 : decode cH_takeTape 1 = .ok (.getfield 33, 3) := by decide +kernel
theorem dH_takeTape_4 : decode cH_takeTape 4 = .ok (.istore_n 1, 1) := by decide +kernel
theorem dH_takeTape_5 : decode cH_takeTape 5 = .ok (.aload_n 0, 1) := by decide +kernel
theorem dH_takeTape_6 : decode cH_takeTape 6 = .ok (.iconst 0, 1) := by decide +kernel
theorem dH_takeTape_7 : decode cH_takeTape 7 = .ok (.putfield 33, 3) := by decide +kernel
theorem dH_takeTape_10 : decode cH_takeTape 10 = .ok (.iload_n 1, 1) := by decide +kernel
theorem dH_takeTape_11 : decode cH_takeTape 11 = .ok (.ireturn, 1) := by decide +kernel
def wp_takeTape (post : Int32 → Sg → Prop) (σ : Sg)  : Prop := post (sG σ 0) (uG 0 0 σ)
set_option maxHeartbeats 4000000 in
set_option maxRecDepth 100000 in
theorem c_takeTape (l : Launch) (D : va_G) (ca : Nat → ClassId) (ad : Nat → Nat → Nat) (σ : Sg)  (sz : Nat) (post : Int32 → Sg → Prop) (hw : wp_takeTape post σ ) : Met l yH_takeTape wsH_takeTape ({ frames := 0, cells := 0, slots := 0, locals := 0 }) (va_Pc [.ref (ad 0 0)] (preX D ca ad σ sz)) (va_Qi post (atX D ca ad (va_A (wX ca ad σ) sz)) (va_A (wX ca ad σ) sz)) 0 0 (va_A (wX ca ad σ) sz) := by
  refine Met.ofW (cc := cH_takeTape) (maxL := 2) (ret := (some .int)) (by decide) rfl ?_
  intro p e s m args below meth c s₁ B hml hv
  obtain ⟨rfl, hsz, hP, hK, hD0, hE⟩ := hv
  have hx := B.exec
  have hb := B.bytes
  have hr := B.returns
  have hts : ∀ w ∈ tbG, w.before _ s = true := fun w h => atoms_spec (ws := wsH_takeTape) B.pre w (List.mem_cons_of_mem _ h)
  have hown : s.vm.findClass RH = some m.cls := findClass_of_methodNamed B.named
  have hlocks := B.notSynchronized
  subst hsz
  have hD := hD0.self (sz := s.heap.size)
  generalize hAe : va_A (wX ca ad σ) s.heap.size = A at hD hE ⊢
  have hA : ∀ q : Nat, s.heap.size ≤ q → A q := fun q h => by rw [← hAe]; exact Or.inr h
  clear hAe
  have hS : va_S A s.heap s.heap [] := va_S.rf
  have hl := lv_entry ([.ref (ad 0 0)]) (n := 2) (Nat.le_of_ble_eq_true rfl)
  rw [lg_entry_eq]
  generalize (lg_sl ([.ref (ad 0 0)]) ++ List.replicate (2 - (lg_sl ([.ref (ad 0 0)])).length) Slot.unset).toArray = ls at hl ⊢
  have hl : lv_has ls 2 [(0, .ref (ad 0 0))] := hl
  unfold wp_takeTape at hw
  have hP : va_P D clX (wX ca ad σ) s.heap := hP
  refine lv_aload_n hx hb dH_takeTape_0 rfl (lv_at hl 0 rfl) ?_
  refine va_get (D := D) (ci := 0) (v := .int (sG σ 0)) (C := RH) (T := TH) (N := 8) hx hb hts inH hown hK hP 0 gX_0 rfl 4 (by decide) (hts _ tw_154) (fun _ h9 => h9) rfl dH_takeTape_1 ?_
  refine lv_istore_n (lv' := [(1, .int (sG σ 0)), (0, .ref (ad 0 0))]) hx hb dH_takeTape_4 rfl hl (by decide) rfl (fun ls hl => ?_)
  refine lv_aload_n hx hb dH_takeTape_5 rfl (lv_at hl 1 rfl) ?_
  refine lv_iconst (v := 0) hx hb dH_takeTape_6 (by decide) ?_
  refine va_put (D := D) (ci := 0) (v := .int 0) (ty := .int) (C := RH) (T := TH) (N := 8) hx hb hts inH tyH tyH_ok nmH hown hK hP hD hS 0 gX_0 rfl 4 (by decide) (hts _ tw_154) (fun _ h9 => h9) rfl (by decide +kernel) rfl rfl (Nat.le_of_ble_eq_true rfl) dH_takeTape_7 (fun H locs hP hD hS => ?_)
  rw [sX_0_4] at hP hD
  refine lv_iload_n hx hb dH_takeTape_10 rfl (lv_at hl 0 rfl) ?_
  exact W.iret (v := (sG σ 0)) hx hb hr (fun t ht hW => ⟨⟨(sG σ 0), (uG 0 0 σ), rfl, hw, by rw [ht]; exact hP, va_K.moved hW.alike hK, hD⟩, hS.F ht⟩) hS.2.2 dH_takeTape_11
theorem dG_firstCell_0 : decode cG_firstCell 0 = .ok (.iload_n 0, 1) := by decide +kernel
theorem dG_firstCell_1 : decode cG_firstCell 1 = .ok (.bipush 63, 2) := by decide +kernel
theorem dG_firstCell_3 : decode cG_firstCell 3 = .ok (.iand, 1) := by decide +kernel
theorem dG_firstCell_4 : decode cG_firstCell 4 = .ok (.bipush 8, 2) := by decide +kernel
theorem dG_firstCell_6 : decode cG_firstCell 6 = .ok (.imul, 1) := by decide +kernel
theorem dG_firstCell_7 : decode cG_firstCell 7 = .ok (.ireturn, 1) := by decide +kernel
def wp_firstCell (post : Int32 → Sg → Prop) (σ : Sg) (a0 : Int32) : Prop := post ((a0 &&& 63) * 8) σ
set_option maxHeartbeats 4000000 in
set_option maxRecDepth 100000 in
theorem c_firstCell (l : Launch) (D : va_G) (ca : Nat → ClassId) (ad : Nat → Nat → Nat) (σ : Sg) (a0 : Int32) (sz : Nat) (post : Int32 → Sg → Prop) (hw : wp_firstCell post σ a0) : Met l yG_firstCell wsG_firstCell ({ frames := 0, cells := 0, slots := 0, locals := 0 }) (va_Pc [.int a0] (preX D ca ad σ sz)) (va_Qi post (atX D ca ad (va_A (wX ca ad σ) sz)) (va_A (wX ca ad σ) sz)) 0 0 (va_A (wX ca ad σ) sz) := by
  refine Met.ofW (cc := cG_firstCell) (maxL := 1) (ret := (some .int)) (by decide) rfl ?_
  intro p e s m args below meth c s₁ B hml hv
  obtain ⟨rfl, hsz, hP, hK, hD0, hE⟩ := hv
  have hx := B.exec
  have hb := B.bytes
  have hr := B.returns
  have hts : ∀ w ∈ tbG, w.before _ s = true := fun w h => atoms_spec (ws := wsG_firstCell) B.pre w (List.mem_cons_of_mem _ h)
  have hown : s.vm.findClass RG = some m.cls := findClass_of_methodNamed B.named
  have hlocks := B.notSynchronized
  subst hsz
  have hD := hD0.self (sz := s.heap.size)
  generalize hAe : va_A (wX ca ad σ) s.heap.size = A at hD hE ⊢
  have hA : ∀ q : Nat, s.heap.size ≤ q → A q := fun q h => by rw [← hAe]; exact Or.inr h
  clear hAe
  have hS : va_S A s.heap s.heap [] := va_S.rf
  have hl := lv_entry ([.int a0]) (n := 1) (Nat.le_of_ble_eq_true rfl)
  rw [lg_entry_eq]
  generalize (lg_sl ([.int a0]) ++ List.replicate (1 - (lg_sl ([.int a0])).length) Slot.unset).toArray = ls at hl ⊢
  have hl : lv_has ls 1 [(0, .int a0)] := hl
  unfold wp_firstCell at hw
  have hP : va_P D clX (wX ca ad σ) s.heap := hP
  refine lv_iload_n hx hb dG_firstCell_0 rfl (lv_at hl 0 rfl) ?_
  refine lv_bipush (v := 63) hx hb dG_firstCell_1 (by decide) ?_
  refine lv_iand hx hb dG_firstCell_3 ?_
  refine lv_bipush (v := 8) hx hb dG_firstCell_4 (by decide) ?_
  refine lv_imul hx hb dG_firstCell_6 ?_
  exact W.iret (v := ((a0 &&& 63) * 8)) hx hb hr (fun t ht hW => ⟨⟨((a0 &&& 63) * 8), σ, rfl, hw, by rw [ht]; exact hP, va_K.moved hW.alike hK, hD⟩, hS.F ht⟩) hS.2.2 dG_firstCell_7
theorem dH_patronOf_0 : decode cH_patronOf 0 = .ok (.iload_n 1, 1) := by decide +kernel
theorem dH_patronOf_1 : decode cH_patronOf 1 = .ok (.ifCond .lt 9, 3) := by decide +kernel
theorem dH_patronOf_4 : decode cH_patronOf 4 = .ok (.iload_n 1, 1) := by decide +kernel
theorem dH_patronOf_5 : decode cH_patronOf 5 = .ok (.bipush 8, 2) := by decide +kernel
theorem dH_patronOf_7 : decode cH_patronOf 7 = .ok (.if_icmp .lt 13, 3) := by decide +kernel
theorem dH_patronOf_10 : decode cH_patronOf 10 = .ok (.new 172, 3) := by decide +kernel
theorem dH_patronOf_13 : decode cH_patronOf 13 = .ok (.dup, 1) := by decide +kernel
theorem dH_patronOf_14 : decode cH_patronOf 14 = .ok (.ldc 229, 2) := by decide +kernel
theorem dH_patronOf_16 : decode cH_patronOf 16 = .ok (.invokespecial 176, 3) := by decide +kernel
theorem dH_patronOf_19 : decode cH_patronOf 19 = .ok (.athrow, 1) := by decide +kernel
theorem dH_patronOf_20 : decode cH_patronOf 20 = .ok (.aload_n 0, 1) := by decide +kernel
theorem dH_patronOf_21 : decode cH_patronOf 21 = .ok (.getfield 11, 3) := by decide +kernel
theorem dH_patronOf_24 : decode cH_patronOf 24 = .ok (.iload_n 1, 1) := by decide +kernel
theorem dH_patronOf_25 : decode cH_patronOf 25 = .ok (.aaload, 1) := by decide +kernel
theorem dH_patronOf_26 : decode cH_patronOf 26 = .ok (.areturn, 1) := by decide +kernel
def wp_patronOf (post : Option Nat → Sg → Prop) (px : String → Sg → Prop) (σ : Sg) (a0 : Int32) : Prop := (((a0 < 0) → px "java/lang/IndexOutOfBoundsException" σ) ∧ (¬ (a0 < 0) → (((a0 < 8) → (vp_in a0 8 ∧ post (some ((a0).toNatClampNeg)) σ)) ∧ (¬ (a0 < 8) → px "java/lang/IndexOutOfBoundsException" σ))))
set_option maxHeartbeats 4000000 in
set_option maxRecDepth 100000 in
theorem c_patronOf (l : Launch) (D : va_G) (ca : Nat → ClassId) (ad : Nat → Nat → Nat) (σ : Sg) (a0 : Int32) (sz : Nat) (post : Option Nat → Sg → Prop) (px : String → Sg → Prop) (hl0 : l.stackTraces = false) (hw : wp_patronOf post px σ a0) : vx_Met l yH_patronOf wsH_patronOf ({ frames := 8, cells := 1, slots := 6, locals := 120 }) (va_Pc [.ref (ad 0 0), .int a0] (preX D ca ad σ sz)) (va_Qe (ad 6) post (atX D ca ad (va_A (wX ca ad σ) sz)) (va_A (wX ca ad σ) sz)) (vx_X (fun u : String × Sg => px u.1 u.2) (atXx D ca ad (va_A (wX ca ad σ) sz)) (va_A (wX ca ad σ) sz)) 1 6 (va_A (wX ca ad σ) sz) := by
  refine vx_ofW (cc := cH_patronOf) (maxL := 2) (ret := (some (.object "PatronHall$Patron"))) (by decide) rfl ?_
  intro p e s m args below meth c s₁ B hml hexc hv
  obtain ⟨rfl, hsz, hP, hK, hD0, hE⟩ := hv
  have hx := B.exec
  have hb := B.bytes
  have hr := B.returns
  have hts : ∀ w ∈ tbG, w.before _ s = true := fun w h => atoms_spec (ws := wsH_patronOf) B.pre w (List.mem_cons_of_mem _ h)
  have hown : s.vm.findClass RH = some m.cls := findClass_of_methodNamed B.named
  have hlocks := B.notSynchronized
  subst hsz
  have hD := hD0.self (sz := s.heap.size)
  generalize hAe : va_A (wX ca ad σ) s.heap.size = A at hD hE ⊢
  have hA : ∀ q : Nat, s.heap.size ≤ q → A q := fun q h => by rw [← hAe]; exact Or.inr h
  clear hAe
  have hS : va_S A s.heap s.heap [] := va_S.rf
  have hl := lv_entry ([.ref (ad 0 0), .int a0]) (n := 2) (Nat.le_of_ble_eq_true rfl)
  rw [lg_entry_eq]
  generalize (lg_sl ([.ref (ad 0 0), .int a0]) ++ List.replicate (2 - (lg_sl ([.ref (ad 0 0), .int a0])).length) Slot.unset).toArray = ls at hl ⊢
  have hl : lv_has ls 2 [(0, .ref (ad 0 0)), (1, .int a0)] := hl
  unfold wp_patronOf at hw
  have hP : va_P D clX (wX ca ad σ) s.heap := hP
  refine lv_iload_n hx hb dH_patronOf_0 rfl (lv_at hl 1 rfl) ?_
  refine lv_if_lt (tgt := 10) hx hb dH_patronOf_1 (by decide) (fun c1 => ?_) (fun c1 => ?_)
  · have hw := hw.1 c1
    obtain ⟨sa9, hstr⟩ := hE.str 2 _ rfl
    exact vx_throwS (names := ["java/lang/RuntimeException", "java/lang/Exception"]) hx hb hl0 hown (by decide +kernel) (by decide +kernel) (hts _ tw_313) (hts _ tw_13) hstr (hE.hat176 hts) gd_176 hE.1 hE.2.1 hS (hl.1.trans hml.symm) dH_patronOf_10 dH_patronOf_13 dH_patronOf_14 dH_patronOf_16 dH_patronOf_19 (fun x9 h9 => (hexc x9 h9).elim) (by decide) (by decide) (by decide) (by decide) hlocks (fun t hv hz hk => ⟨(_, σ), hw, ⟨rfl, hP.kept (fun k9 q9 h9 => hk _ (va_at.lt (hP k9 q9 h9))), va_K.moved hv hK, hD⟩, va_S.F2 hS hz hk⟩) hS.2.2 (by decide) (by decide)
  · have hw := hw.2 c1
    refine lv_iload_n hx hb dH_patronOf_4 rfl (lv_at hl 1 rfl) ?_
    refine lv_bipush (v := 8) hx hb dH_patronOf_5 (by decide) ?_
    refine lv_icmp_lt (tgt := 20) hx hb dH_patronOf_7 (by decide) (fun c2 => ?_) (fun c2 => ?_)
    · have hw := hw.1 c2
      refine lv_aload_n hx hb dH_patronOf_20 rfl (lv_at hl 0 rfl) ?_
      refine va_get (D := D) (ci := 0) (v := .ref (ad 1 0)) (C := RH) (T := TH) (N := 8) hx hb hts inH hown hK hP 0 gX_0 rfl 0 (by decide) (hts _ tw_150) (fun _ h9 => h9) rfl dH_patronOf_21 ?_
      refine lv_iload_n hx hb dH_patronOf_24 rfl (lv_at hl 1 rfl) ?_
      obtain ⟨hin3, hw⟩ := hw
      have hj4 := px_lt hin3
      refine va_aldq hx hb hK hP 1 2 gX_1 rfl hin3 dH_patronOf_25 ?_
      refine W.eq (g2 := F0 m 26 ls [.ref (ad 6 ((a0).toNatClampNeg))]) rfl ?_
      refine W.widen (k := 1) (n := 6) (by decide) (by decide) ?_
      exact vx_ret (W.aret (v := va_re (ad 6) (some ((a0).toNatClampNeg))) (rt := .object "PatronHall$Patron") hx hb hr (Or.inl ⟨_, rfl⟩) (va_re_or _ _) (fun t ht hW => ⟨⟨(some ((a0).toNatClampNeg)), σ, rfl, hw, by rw [ht]; exact hP, va_K.moved hW.alike hK, hD⟩, hS.F ht⟩) hS.2.2 dH_patronOf_26)
    · have hw := hw.2 c2
      obtain ⟨sa9, hstr⟩ := hE.str 2 _ rfl
      exact vx_throwS (names := ["java/lang/RuntimeException", "java/lang/Exception"]) hx hb hl0 hown (by decide +kernel) (by decide +kernel) (hts _ tw_313) (hts _ tw_13) hstr (hE.hat176 hts) gd_176 hE.1 hE.2.1 hS (hl.1.trans hml.symm) dH_patronOf_10 dH_patronOf_13 dH_patronOf_14 dH_patronOf_16 dH_patronOf_19 (fun x9 h9 => (hexc x9 h9).elim) (by decide) (by decide) (by decide) (by decide) hlocks (fun t hv hz hk => ⟨(_, σ), hw, ⟨rfl, hP.kept (fun k9 q9 h9 => hk _ (va_at.lt (hP k9 q9 h9))), va_K.moved hv hK, hD⟩, va_S.F2 hS hz hk⟩) hS.2.2 (by decide) (by decide)
theorem dH_tell_0 : decode cH_tell 0 = .ok (.aload_n 1, 1) := by decide +kernel
theorem dH_tell_1 : decode cH_tell 1 = .ok (.getfield 251, 3) := by decide +kernel
theorem dH_tell_4 : decode cH_tell 4 = .ok (.astore 4, 2) := by decide +kernel
theorem dH_tell_6 : decode cH_tell 6 = .ok (.aload 4, 2) := by decide +kernel
theorem dH_tell_8 : decode cH_tell 8 = .ok (.ifnonnull 4, 3) := by decide +kernel
theorem dH_tell_11 : decode cH_tell 11 = .ok (.return_, 1) := by decide +kernel
theorem dH_tell_12 : decode cH_tell 12 = .ok (.aload 4, 2) := by decide +kernel
theorem dH_tell_14 : decode cH_tell 14 = .ok (.iload_n 2, 1) := by decide +kernel
theorem dH_tell_15 : decode cH_tell 15 = .ok (.putfield 215, 3) := by decide +kernel
theorem dH_tell_18 : decode cH_tell 18 = .ok (.aload 4, 2) := by decide +kernel
theorem dH_tell_20 : decode cH_tell 20 = .ok (.iload_n 3, 1) := by decide +kernel
theorem dH_tell_21 : decode cH_tell 21 = .ok (.putfield 218, 3) := by decide +kernel
theorem dH_tell_24 : decode cH_tell 24 = .ok (.aload 4, 2) := by decide +kernel
theorem dH_tell_26 : decode cH_tell 26 = .ok (.aload_n 0, 1) := by decide +kernel
theorem dH_tell_27 : decode cH_tell 27 = .ok (.invokevirtual 86, 3) := by decide +kernel
theorem dH_tell_30 : decode cH_tell 30 = .ok (.putfield 212, 3) := by decide +kernel
theorem dH_tell_33 : decode cH_tell 33 = .ok (.aload_n 1, 1) := by decide +kernel
theorem dH_tell_34 : decode cH_tell 34 = .ok (.invokevirtual 255, 3) := by decide +kernel
theorem dH_tell_37 : decode cH_tell 37 = .ok (.return_, 1) := by decide +kernel
def wp_tell (post : Sg → Prop) (σ : Sg) (k0 : Nat) (a1 : Int32) (a2 : Int32) : Prop := (((sR σ k0) = none → post σ) ∧ (∀ j1 : Nat, (sR σ k0) = some j1 → (j1 < sN σ ∧ wp_nextMoment (fun r5 s4 => (j1 < sN s4 ∧ wp_becomeIdle (fun s7 => post s7) (uH 3 j1 r5 s4) k0)) (uH 5 j1 a2 (uH 4 j1 a1 σ)))))
set_option maxHeartbeats 4000000 in
set_option maxRecDepth 100000 in
theorem c_tell (l : Launch) (D : va_G) (ca : Nat → ClassId) (ad : Nat → Nat → Nat) (σ : Sg) (k0 : Nat) (hk0 : k0 < 8) (a1 : Int32) (a2 : Int32) (sz : Nat) (post : Sg → Prop) (hw : wp_tell post σ k0 a1 a2) : Met l yH_tell wsH_tell ({ frames := 1, cells := 0, slots := 0, locals := 21 }) (va_Pc [.ref (ad 0 0), .ref (ad 6 k0), .int a1, .int a2] (preX D ca ad σ sz)) (va_Qv post (atX D ca ad (va_A (wX ca ad σ) sz)) (va_A (wX ca ad σ) sz)) 0 0 (va_A (wX ca ad σ) sz) := by
  refine Met.ofW (cc := cH_tell) (maxL := 5) (ret := none) (by decide) rfl ?_
  intro p e s m args below meth c s₁ B hml hv
  obtain ⟨rfl, hsz, hP, hK, hD0, hE⟩ := hv
  have hx := B.exec
  have hb := B.bytes
  have hr := B.returns
  have hts : ∀ w ∈ tbG, w.before _ s = true := fun w h => atoms_spec (ws := wsH_tell) B.pre w (List.mem_cons_of_mem _ h)
  have hown : s.vm.findClass RH = some m.cls := findClass_of_methodNamed B.named
  have hlocks := B.notSynchronized
  subst hsz
  have hD := hD0.self (sz := s.heap.size)
  generalize hAe : va_A (wX ca ad σ) s.heap.size = A at hD hE ⊢
  have hA : ∀ q : Nat, s.heap.size ≤ q → A q := fun q h => by rw [← hAe]; exact Or.inr h
  clear hAe
  have hS : va_S A s.heap s.heap [] := va_S.rf
  have hl := lv_entry ([.ref (ad 0 0), .ref (ad 6 k0), .int a1, .int a2]) (n := 5) (Nat.le_of_ble_eq_true rfl)
  rw [lg_entry_eq]
  generalize (lg_sl ([.ref (ad 0 0), .ref (ad 6 k0), .int a1, .int a2]) ++ List.replicate (5 - (lg_sl ([.ref (ad 0 0), .ref (ad 6 k0), .int a1, .int a2])).length) Slot.unset).toArray = ls at hl ⊢
  have hl : lv_has ls 5 [(0, .ref (ad 0 0)), (1, .ref (ad 6 k0)), (2, .int a1), (3, .int a2)] := hl
  unfold wp_tell at hw
  have hP : va_P D clX (wX ca ad σ) s.heap := hP
  refine lv_aload_n hx hb dH_tell_0 rfl (lv_at hl 1 rfl) ?_
  refine va_get (D := D) (ci := 1) (v := va_re (ad 10) (sR σ k0)) (C := RP) (T := TP) (N := 16) hx hb hts inP hown hK hP (6 + k0) (gX_6 hk0) rfl 5 (by decide) (hts _ tw_89) (fun _ h9 => h9) rfl dH_tell_1 ?_
  cases e2 : sR σ k0 with
  | none =>
    have hw := hw.1 e2
    try rw [e2]
    refine lv_astoreN (lv' := [(4, .null), (0, .ref (ad 0 0)), (1, .ref (ad 6 k0)), (2, .int a1), (3, .int a2)]) hx hb dH_tell_4 hl (by decide) rfl (fun ls hl => ?_)
    refine lv_aloadN hx hb dH_tell_6 (lv_at hl 0 rfl) ?_
    refine lv_ifnonnullN hx hb dH_tell_8 ?_
    exact W.vret hx hb hr (fun t ht hW => ⟨⟨σ, rfl, hw, by rw [ht]; exact hP, va_K.moved hW.alike hK, hD⟩, hS.F ht⟩) hS.2.2 dH_tell_11
  | some j1 =>
    obtain ⟨hj3, hw⟩ := hw.2 j1 e2
    try rw [e2]
    refine lv_astore (lv' := [(4, .ref (ad 10 j1)), (0, .ref (ad 0 0)), (1, .ref (ad 6 k0)), (2, .int a1), (3, .int a2)]) hx hb dH_tell_4 hl (by decide) rfl (fun ls hl => ?_)
    refine lv_aload hx hb dH_tell_6 (lv_at hl 0 rfl) ?_
    refine lv_ifnonnull (tgt := 12) hx hb dH_tell_8 (by decide) ?_
    refine lv_aload hx hb dH_tell_12 (lv_at hl 0 rfl) ?_
    refine lv_iload_n hx hb dH_tell_14 rfl (lv_at hl 3 rfl) ?_
    refine va_put (D := D) (ci := 2) (v := .int a1) (ty := .int) (C := RQ) (T := TQ) (N := 6) hx hb hts inQ tyQ tyQ_ok nmQ hown hK hP hD hS (6 + (8 + (8 + (8 + j1)))) (gX_10 hj3) rfl 4 (by decide) (hts _ tw_360) (fun _ h9 => h9) rfl (by decide +kernel) rfl rfl (Nat.le_of_ble_eq_true rfl) dH_tell_15 (fun H locs hP hD hS => ?_)
    rw [sX_10_4 (σ := σ) hj3] at hP hD
    refine lv_aload hx hb dH_tell_18 (lv_at hl 0 rfl) ?_
    refine lv_iload_n hx hb dH_tell_20 rfl (lv_at hl 4 rfl) ?_
    refine va_put (D := D) (ci := 2) (v := .int a2) (ty := .int) (C := RQ) (T := TQ) (N := 6) hx hb hts inQ tyQ tyQ_ok nmQ hown hK hP hD hS (6 + (8 + (8 + (8 + j1)))) (gX_10 hj3) rfl 5 (by decide) (hts _ tw_362) (fun _ h9 => h9) rfl (by decide +kernel) rfl rfl (Nat.le_of_ble_eq_true rfl) dH_tell_21 (fun H locs hP hD hS => ?_)
    rw [sX_10_5 (σ := (uH 4 j1 a1 σ)) hj3] at hP hD
    refine lv_aload hx hb dH_tell_24 (lv_at hl 0 rfl) ?_
    refine lv_aload_n hx hb dH_tell_26 rfl (lv_at hl 1 rfl) ?_
    have hFc := px_free hD hS hA
    refine va_calli (va_runV (As := []) (rest := [.ref (ad 10 j1)]) ⟨hx, hb, hml, hown, hts⟩ (c_nextMoment l D ca ad (uH 5 j1 a2 (uH 4 j1 a1 σ))  _ _ hw) (cwV 0 hts (gV tw_342 tw_344 tp_4 tw_1 tw_345) rfl rfl rfl (by decide +kernel) ⟨Nat.le_of_ble_eq_true rfl, Nat.le_of_ble_eq_true rfl⟩) ⟨px_blind, (px_recv hK hP gX_0 rfl), fun U hU hW => px_pre hP hK hD hE hS hFc hU hW⟩ rfl rfl hl.1 rfl (lv_room (Nat.le_of_ble_eq_true rfl)) dH_tell_27 ⟨Nat.le_of_ble_eq_true rfl, Nat.le_of_ble_eq_true rfl⟩) hS (fun q _ h => hFc q h) hFc (fun r5 s4 t H locs ht hvm hw hB _ _ hS => ?_)
    obtain ⟨hP, -, hD⟩ := hB
    rw [ht] at hP
    have hD := hD.weaken (fun _ _ _ h9 => hFc _ h9)
    obtain ⟨hb6, hw⟩ := hw
    refine va_put (D := D) (ci := 2) (v := .int r5) (ty := .int) (C := RQ) (T := TQ) (N := 6) hx hb hts inQ tyQ tyQ_ok nmQ hown hK hP hD hS (6 + (8 + (8 + (8 + j1)))) (gX_10 hb6) rfl 3 (by decide) (hts _ tw_358) (fun _ h9 => h9) rfl (by decide +kernel) rfl rfl (Nat.le_of_ble_eq_true rfl) dH_tell_30 (fun H locs hP hD hS => ?_)
    rw [sX_10_3 (σ := s4) hb6] at hP hD
    refine lv_aload_n hx hb dH_tell_33 rfl (lv_at hl 2 rfl) ?_
    have hFc := px_free hD hS hA
    refine va_callv (va_runV (As := []) (rest := []) ⟨hx, hb, hml, hown, hts⟩ (c_becomeIdle l D ca ad (uH 3 j1 r5 s4) k0 hk0 _ _ hw) (cwV 0 hts (gV tw_459 tw_460 tw_461 tw_6 tw_462) rfl rfl rfl (by decide +kernel) ⟨Nat.le_of_ble_eq_true rfl, Nat.le_of_ble_eq_true rfl⟩) ⟨px_blind, (px_recv hK hP (gX_6 hk0) rfl), fun U hU hW => px_pre hP hK hD hE hS hFc hU hW⟩ rfl rfl hl.1 rfl (lv_room (Nat.le_of_ble_eq_true rfl)) dH_tell_34 ⟨Nat.le_of_ble_eq_true rfl, Nat.le_of_ble_eq_true rfl⟩) hS (fun q _ h => hFc q h) hFc (fun s7 t H locs ht hvm hw hB _ _ hS => ?_)
    obtain ⟨hP, -, hD⟩ := hB
    rw [ht] at hP
    have hD := hD.weaken (fun _ _ _ h9 => hFc _ h9)
    exact W.vret hx hb hr (fun t ht hW => ⟨⟨s7, rfl, hw, by rw [ht]; exact hP, va_K.moved hW.alike hK, hD⟩, hS.F ht⟩) hS.2.2 dH_tell_37
end
section
theorem dH_isKeySize_0 : decode cH_isKeySize 0 = .ok (.iload_n 0, 1) := by decide +kernel
theorem dH_isKeySize_1 : decode cH_isKeySize 1 = .ok (.iconst 1, 1) := by decide +kernel
theorem dH_isKeySize_2 : decode cH_isKeySize 2 = .ok (.if_icmp .lt 13, 3) := by decide +kernel
theorem dH_isKeySize_5 : decode cH_isKeySize 5 = .ok (.iload_n 0, 1) := by decide +kernel
theorem dH_isKeySize_6 : decode cH_isKeySize 6 = .ok (.bipush 32, 2) := by decide +kernel
theorem dH_isKeySize_8 : decode cH_isKeySize 8 = .ok (.if_icmp .gt 7, 3) := by decide +kernel
theorem dH_isKeySize_11 : decode cH_isKeySize 11 = .ok (.iconst 1, 1) := by decide +kernel
theorem dH_isKeySize_12 : decode cH_isKeySize 12 = .ok (.goto 4, 3) := by decide +kernel
theorem dH_isKeySize_15 : decode cH_isKeySize 15 = .ok (.iconst 0, 1) := by decide +kernel
theorem dH_isKeySize_16 : decode cH_isKeySize 16 = .ok (.ireturn, 1) := by decide +kernel
def wp_isKeySize (post : Int32 → Sg → Prop) (σ : Sg) (a0 : Int32) : Prop := (((a0 < 1) → post 0 σ) ∧ (¬ (a0 < 1) → (((32 < a0) → post 0 σ) ∧ (¬ (32 < a0) → post 1 σ))))
set_option maxHeartbeats 4000000 in
set_option maxRecDepth 100000 in
theorem c_isKeySize (l : Launch) (D : va_G) (ca : Nat → ClassId) (ad : Nat → Nat → Nat) (σ : Sg) (a0 : Int32) (sz : Nat) (post : Int32 → Sg → Prop) (hw : wp_isKeySize post σ a0) : Met l yH_isKeySize wsH_isKeySize ({ frames := 0, cells := 0, slots := 0, locals := 0 }) (va_Pc [.int a0] (preX D ca ad σ sz)) (va_Qi post (atX D ca ad (va_A (wX ca ad σ) sz)) (va_A (wX ca ad σ) sz)) 0 0 (va_A (wX ca ad σ) sz) := by
  refine Met.ofW (cc := cH_isKeySize) (maxL := 1) (ret := (some .boolean)) (by decide) rfl ?_
  intro p e s m args below meth c s₁ B hml hv
  obtain ⟨rfl, hsz, hP, hK, hD0, hE⟩ := hv
  have hx := B.exec
  have hb := B.bytes
  have hr := B.returns
  have hts : ∀ w ∈ tbG, w.before _ s = true := fun w h => atoms_spec (ws := wsH_isKeySize) B.pre w (List.mem_cons_of_mem _ h)
  have hown : s.vm.findClass RH = some m.cls := findClass_of_methodNamed B.named
  have hlocks := B.notSynchronized
  subst hsz
  have hD := hD0.self (sz := s.heap.size)
  generalize hAe : va_A (wX ca ad σ) s.heap.size = A at hD hE ⊢
  have hA : ∀ q : Nat, s.heap.size ≤ q → A q := fun q h => by rw [← hAe]; exact Or.inr h
  clear hAe
  have hS : va_S A s.heap s.heap [] := va_S.rf
  have hl := lv_entry ([.int a0]) (n := 1) (Nat.le_of_ble_eq_true rfl)
  rw [lg_entry_eq]
  generalize (lg_sl ([.int a0]) ++ List.replicate (1 - (lg_sl ([.int a0])).length) Slot.unset).toArray = ls at hl ⊢
  have hl : lv_has ls 1 [(0, .int a0)] := hl
  unfold wp_isKeySize at hw
  have hP : va_P D clX (wX ca ad σ) s.heap := hP
  refine lv_iload_n hx hb dH_isKeySize_0 rfl (lv_at hl 0 rfl) ?_
  refine lv_iconst (v := 1) hx hb dH_isKeySize_1 (by decide) ?_
  refine lv_icmp_lt (tgt := 15) hx hb dH_isKeySize_2 (by decide) (fun c1 => ?_) (fun c1 => ?_)
  · have hw := hw.1 c1
    refine lv_iconst (v := 0) hx hb dH_isKeySize_15 (by decide) ?_
    exact W.zret (ty := .boolean) (v := 0) hx hb hr (by decide) (fun t ht hW => ⟨⟨0, σ, rfl, hw, by rw [ht]; exact hP, va_K.moved hW.alike hK, hD⟩, hS.F ht⟩) hS.2.2 dH_isKeySize_16
  · have hw := hw.2 c1
    refine lv_iload_n hx hb dH_isKeySize_5 rfl (lv_at hl 0 rfl) ?_
    refine lv_bipush (v := 32) hx hb dH_isKeySize_6 (by decide) ?_
    refine lv_icmp_gt (tgt := 15) hx hb dH_isKeySize_8 (by decide) (fun c2 => ?_) (fun c2 => ?_)
    · have hw := hw.1 c2
      refine lv_iconst (v := 0) hx hb dH_isKeySize_15 (by decide) ?_
      exact W.zret (ty := .boolean) (v := 0) hx hb hr (by decide) (fun t ht hW => ⟨⟨0, σ, rfl, hw, by rw [ht]; exact hP, va_K.moved hW.alike hK, hD⟩, hS.F ht⟩) hS.2.2 dH_isKeySize_16
    · have hw := hw.2 c2
      refine lv_iconst (v := 1) hx hb dH_isKeySize_11 (by decide) ?_
      refine lv_goto (tgt := 16) hx hb dH_isKeySize_12 (by decide) ?_
      exact W.zret (ty := .boolean) (v := 1) hx hb hr (by decide) (fun t ht hW => ⟨⟨1, σ, rfl, hw, by rw [ht]; exact hP, va_K.moved hW.alike hK, hD⟩, hS.F ht⟩) hS.2.2 dH_isKeySize_16
theorem dH_isValueSize_0 : decode cH_isValueSize 0 = .ok (.iload_n 0, 1) := by decide +kernel
theorem dH_isValueSize_1 : decode cH_isValueSize 1 = .ok (.ifCond .lt 13, 3) := by decide +kernel
theorem dH_isValueSize_4 : decode cH_isValueSize 4 = .ok (.iload_n 0, 1) := by decide +kernel
theorem dH_isValueSize_5 : decode cH_isValueSize 5 = .ok (.bipush 100, 2) := by decide +kernel
theorem dH_isValueSize_7 : decode cH_isValueSize 7 = .ok (.if_icmp .gt 7, 3) := by decide +kernel
theorem dH_isValueSize_10 : decode cH_isValueSize 10 = .ok (.iconst 1, 1) := by decide +kernel
theorem dH_isValueSize_11 : decode cH_isValueSize 11 = .ok (.goto 4, 3) := by decide +kernel
theorem dH_isValueSize_14 : decode cH_isValueSize 14 = .ok (.iconst 0, 1) := by decide +kernel
theorem dH_isValueSize_15 : decode cH_isValueSize 15 = .ok (.ireturn, 1) := by decide +kernel
def wp_isValueSize (post : Int32 → Sg → Prop) (σ : Sg) (a0 : Int32) : Prop := (((a0 < 0) → post 0 σ) ∧ (¬ (a0 < 0) → (((100 < a0) → post 0 σ) ∧ (¬ (100 < a0) → post 1 σ))))
set_option maxHeartbeats 4000000 in
set_option maxRecDepth 100000 in
theorem c_isValueSize (l : Launch) (D : va_G) (ca : Nat → ClassId) (ad : Nat → Nat → Nat) (σ : Sg) (a0 : Int32) (sz : Nat) (post : Int32 → Sg → Prop) (hw : wp_isValueSize post σ a0) : Met l yH_isValueSize wsH_isValueSize ({ frames := 0, cells := 0, slots := 0, locals := 0 }) (va_Pc [.int a0] (preX D ca ad σ sz)) (va_Qi post (atX D ca ad (va_A (wX ca ad σ) sz)) (va_A (wX ca ad σ) sz)) 0 0 (va_A (wX ca ad σ) sz) := by
  refine Met.ofW (cc := cH_isValueSize) (maxL := 1) (ret := (some .boolean)) (by decide) rfl ?_
  intro p e s m args below meth c s₁ B hml hv
  obtain ⟨rfl, hsz, hP, hK, hD0, hE⟩ := hv
  have hx := B.exec
  have hb := B.bytes
  have hr := B.returns
  have hts : ∀ w ∈ tbG, w.before _ s = true := fun w h => atoms_spec (ws := wsH_isValueSize) B.pre w (List.mem_cons_of_mem _ h)
  have hown : s.vm.findClass RH = some m.cls := findClass_of_methodNamed B.named
  have hlocks := B.notSynchronized
  subst hsz
  have hD := hD0.self (sz := s.heap.size)
  generalize hAe : va_A (wX ca ad σ) s.heap.size = A at hD hE ⊢
  have hA : ∀ q : Nat, s.heap.size ≤ q → A q := fun q h => by rw [← hAe]; exact Or.inr h
  clear hAe
  have hS : va_S A s.heap s.heap [] := va_S.rf
  have hl := lv_entry ([.int a0]) (n := 1) (Nat.le_of_ble_eq_true rfl)
  rw [lg_entry_eq]
  generalize (lg_sl ([.int a0]) ++ List.replicate (1 - (lg_sl ([.int a0])).length) Slot.unset).toArray = ls at hl ⊢
  have hl : lv_has ls 1 [(0, .int a0)] := hl
  unfold wp_isValueSize at hw
  have hP : va_P D clX (wX ca ad σ) s.heap := hP
  refine lv_iload_n hx hb dH_isValueSize_0 rfl (lv_at hl 0 rfl) ?_
  refine lv_if_lt (tgt := 14) hx hb dH_isValueSize_1 (by decide) (fun c1 => ?_) (fun c1 => ?_)
  · have hw := hw.1 c1
    refine lv_iconst (v := 0) hx hb dH_isValueSize_14 (by decide) ?_
    exact W.zret (ty := .boolean) (v := 0) hx hb hr (by decide) (fun t ht hW => ⟨⟨0, σ, rfl, hw, by rw [ht]; exact hP, va_K.moved hW.alike hK, hD⟩, hS.F ht⟩) hS.2.2 dH_isValueSize_15
  · have hw := hw.2 c1
    refine lv_iload_n hx hb dH_isValueSize_4 rfl (lv_at hl 0 rfl) ?_
    refine lv_bipush (v := 100) hx hb dH_isValueSize_5 (by decide) ?_
    refine lv_icmp_gt (tgt := 14) hx hb dH_isValueSize_7 (by decide) (fun c2 => ?_) (fun c2 => ?_)
    · have hw := hw.1 c2
      refine lv_iconst (v := 0) hx hb dH_isValueSize_14 (by decide) ?_
      exact W.zret (ty := .boolean) (v := 0) hx hb hr (by decide) (fun t ht hW => ⟨⟨0, σ, rfl, hw, by rw [ht]; exact hP, va_K.moved hW.alike hK, hD⟩, hS.F ht⟩) hS.2.2 dH_isValueSize_15
    · have hw := hw.2 c2
      refine lv_iconst (v := 1) hx hb dH_isValueSize_10 (by decide) ?_
      refine lv_goto (tgt := 15) hx hb dH_isValueSize_11 (by decide) ?_
      exact W.zret (ty := .boolean) (v := 1) hx hb hr (by decide) (fun t ht hW => ⟨⟨1, σ, rfl, hw, by rw [ht]; exact hP, va_K.moved hW.alike hK, hD⟩, hS.F ht⟩) hS.2.2 dH_isValueSize_15
theorem dH_canBeAsked_0 : decode cH_canBeAsked 0 = .ok (.iload_n 1, 1) := by decide +kernel
theorem dH_canBeAsked_1 : decode cH_canBeAsked 1 = .ok (.invokestatic 258, 3) := by decide +kernel
theorem dH_canBeAsked_4 : decode cH_canBeAsked 4 = .ok (.ifCond .eq 19, 3) := by decide +kernel
theorem dH_canBeAsked_7 : decode cH_canBeAsked 7 = .ok (.iload_n 2, 1) := by decide +kernel
theorem dH_canBeAsked_8 : decode cH_canBeAsked 8 = .ok (.invokestatic 261, 3) := by decide +kernel
theorem dH_canBeAsked_11 : decode cH_canBeAsked 11 = .ok (.ifCond .eq 12, 3) := by decide +kernel
theorem dH_canBeAsked_14 : decode cH_canBeAsked 14 = .ok (.iload_n 2, 1) := by decide +kernel
theorem dH_canBeAsked_15 : decode cH_canBeAsked 15 = .ok (.ifCond .eq 10, 3) := by decide +kernel
theorem dH_canBeAsked_18 : decode cH_canBeAsked 18 = .ok (.iload_n 0, 1) := by decide +kernel
theorem dH_canBeAsked_19 : decode cH_canBeAsked 19 = .ok (.iconst 1, 1) := by decide +kernel
theorem dH_canBeAsked_20 : decode cH_canBeAsked 20 = .ok (.if_icmp .eq 5, 3) := by decide +kernel
theorem dH_canBeAsked_23 : decode cH_canBeAsked 23 = .ok (.iconst 0, 1) := by decide +kernel
theorem dH_canBeAsked_24 : decode cH_canBeAsked 24 = .ok (.ireturn, 1) := by decide +kernel
theorem dH_canBeAsked_25 : decode cH_canBeAsked 25 = .ok (.iload_n 3, 1) := by decide +kernel
theorem dH_canBeAsked_26 : decode cH_canBeAsked 26 = .ok (.iload_n 1, 1) := by decide +kernel
theorem dH_canBeAsked_27 : decode cH_canBeAsked 27 = .ok (.isub, 1) := by decide +kernel
theorem dH_canBeAsked_28 : decode cH_canBeAsked 28 = .ok (.iload_n 2, 1) := by decide +kernel
theorem dH_canBeAsked_29 : decode cH_canBeAsked 29 = .ok (.isub, 1) := by decide +kernel
theorem dH_canBeAsked_30 : decode cH_canBeAsked 30 = .ok (.istore 4, 2) := by decide +kernel
theorem dH_canBeAsked_32 : decode cH_canBeAsked 32 = .ok (.iload_n 0, 1) := by decide +kernel
theorem dH_canBeAsked_33 : decode cH_canBeAsked 33 = .ok (.tableswitch 62 0 5 #[39, 39, 45, 45, 56, 45], 39) := by decide +kernel
theorem dH_canBeAsked_72 : decode cH_canBeAsked 72 = .ok (.iload 4, 2) := by decide +kernel
theorem dH_canBeAsked_74 : decode cH_canBeAsked 74 = .ok (.invokestatic 261, 3) := by decide +kernel
theorem dH_canBeAsked_77 : decode cH_canBeAsked 77 = .ok (.ireturn, 1) := by decide +kernel
theorem dH_canBeAsked_78 : decode cH_canBeAsked 78 = .ok (.iload 4, 2) := by decide +kernel
theorem dH_canBeAsked_80 : decode cH_canBeAsked 80 = .ok (.ifCond .ne 7, 3) := by decide +kernel
theorem dH_canBeAsked_83 : decode cH_canBeAsked 83 = .ok (.iconst 1, 1) := by decide +kernel
theorem dH_canBeAsked_84 : decode cH_canBeAsked 84 = .ok (.goto 4, 3) := by decide +kernel
theorem dH_canBeAsked_87 : decode cH_canBeAsked 87 = .ok (.iconst 0, 1) := by decide +kernel
theorem dH_canBeAsked_88 : decode cH_canBeAsked 88 = .ok (.ireturn, 1) := by decide +kernel
theorem dH_canBeAsked_89 : decode cH_canBeAsked 89 = .ok (.iload 4, 2) := by decide +kernel
theorem dH_canBeAsked_91 : decode cH_canBeAsked 91 = .ok (.invokestatic 258, 3) := by decide +kernel
theorem dH_canBeAsked_94 : decode cH_canBeAsked 94 = .ok (.ireturn, 1) := by decide +kernel
theorem dH_canBeAsked_95 : decode cH_canBeAsked 95 = .ok (.iconst 0, 1) := by decide +kernel
theorem dH_canBeAsked_96 : decode cH_canBeAsked 96 = .ok (.ireturn, 1) := by decide +kernel
def wp_canBeAsked (post : Int32 → Sg → Prop) (σ : Sg) (a0 : Int32) (a1 : Int32) (a2 : Int32) (a3 : Int32) : Prop := wp_isKeySize (fun r2 s1 => (((r2 = 0) → post 0 s1) ∧ (¬ (r2 = 0) → wp_isValueSize (fun r5 s4 => (((r5 = 0) → post 0 s4) ∧ (¬ (r5 = 0) → (((a2 = 0) → ((a0 = 0 → wp_isValueSize (fun r10 s9 => (narrow .boolean (.int r10) = .int r10 ∧ post r10 s9)) s4 ((a3 - a1) - a2)) ∧ (¬ (a0 = 0) → ((a0 = 1 → wp_isValueSize (fun r13 s12 => (narrow .boolean (.int r13) = .int r13 ∧ post r13 s12)) s4 ((a3 - a1) - a2)) ∧ (¬ (a0 = 1) → ((a0 = 2 → ((¬ (((a3 - a1) - a2) = 0) → post 0 s4) ∧ ((((a3 - a1) - a2) = 0) → post 1 s4))) ∧ (¬ (a0 = 2) → ((a0 = 3 → ((¬ (((a3 - a1) - a2) = 0) → post 0 s4) ∧ ((((a3 - a1) - a2) = 0) → post 1 s4))) ∧ (¬ (a0 = 3) → ((a0 = 4 → wp_isKeySize (fun r20 s19 => (narrow .boolean (.int r20) = .int r20 ∧ post r20 s19)) s4 ((a3 - a1) - a2)) ∧ (¬ (a0 = 4) → ((a0 = 5 → ((¬ (((a3 - a1) - a2) = 0) → post 0 s4) ∧ ((((a3 - a1) - a2) = 0) → post 1 s4))) ∧ (¬ (a0 = 5) → post 0 s4))))))))))))) ∧ (¬ (a2 = 0) → (((a0 = 1) → ((a0 = 0 → wp_isValueSize (fun r26 s25 => (narrow .boolean (.int r26) = .int r26 ∧ post r26 s25)) s4 ((a3 - a1) - a2)) ∧ (¬ (a0 = 0) → ((a0 = 1 → wp_isValueSize (fun r29 s28 => (narrow .boolean (.int r29) = .int r29 ∧ post r29 s28)) s4 ((a3 - a1) - a2)) ∧ (¬ (a0 = 1) → ((a0 = 2 → ((¬ (((a3 - a1) - a2) = 0) → post 0 s4) ∧ ((((a3 - a1) - a2) = 0) → post 1 s4))) ∧ (¬ (a0 = 2) → ((a0 = 3 → ((¬ (((a3 - a1) - a2) = 0) → post 0 s4) ∧ ((((a3 - a1) - a2) = 0) → post 1 s4))) ∧ (¬ (a0 = 3) → ((a0 = 4 → wp_isKeySize (fun r36 s35 => (narrow .boolean (.int r36) = .int r36 ∧ post r36 s35)) s4 ((a3 - a1) - a2)) ∧ (¬ (a0 = 4) → ((a0 = 5 → ((¬ (((a3 - a1) - a2) = 0) → post 0 s4) ∧ ((((a3 - a1) - a2) = 0) → post 1 s4))) ∧ (¬ (a0 = 5) → post 0 s4))))))))))))) ∧ (¬ (a0 = 1) → post 0 s4))))))) s1 a2))) σ a1
set_option maxHeartbeats 4000000 in
set_option maxRecDepth 100000 in
theorem c_canBeAsked (l : Launch) (D : va_G) (ca : Nat → ClassId) (ad : Nat → Nat → Nat) (σ : Sg) (a0 : Int32) (a1 : Int32) (a2 : Int32) (a3 : Int32) (sz : Nat) (post : Int32 → Sg → Prop) (hw : wp_canBeAsked post σ a0 a1 a2 a3) : Met l yH_canBeAsked wsH_canBeAsked ({ frames := 1, cells := 0, slots := 0, locals := 20 }) (va_Pc [.int a0, .int a1, .int a2, .int a3] (preX D ca ad σ sz)) (va_Qi post (atX D ca ad (va_A (wX ca ad σ) sz)) (va_A (wX ca ad σ) sz)) 0 0 (va_A (wX ca ad σ) sz) := by
  refine Met.ofW (cc := cH_canBeAsked) (maxL := 5) (ret := (some .boolean)) (by decide) rfl ?_
  intro p e s m args below meth c s₁ B hml hv
  obtain ⟨rfl, hsz, hP, hK, hD0, hE⟩ := hv
  have hx := B.exec
  have hb := B.bytes
  have hr := B.returns
  have hts : ∀ w ∈ tbG, w.before _ s = true := fun w h => atoms_spec (ws := wsH_canBeAsked) B.pre w (List.mem_cons_of_mem _ h)
  have hown : s.vm.findClass RH = some m.cls := findClass_of_methodNamed B.named
  have hlocks := B.notSynchronized
  subst hsz
  have hD := hD0.self (sz := s.heap.size)
  generalize hAe : va_A (wX ca ad σ) s.heap.size = A at hD hE ⊢
  have hA : ∀ q : Nat, s.heap.size ≤ q → A q := fun q h => by rw [← hAe]; exact Or.inr h
  clear hAe
  have hS : va_S A s.heap s.heap [] := va_S.rf
  have hl := lv_entry ([.int a0, .int a1, .int a2, .int a3]) (n := 5) (Nat.le_of_ble_eq_true rfl)
  rw [lg_entry_eq]
  generalize (lg_sl ([.int a0, .int a1, .int a2, .int a3]) ++ List.replicate (5 - (lg_sl ([.int a0, .int a1, .int a2, .int a3])).length) Slot.unset).toArray = ls at hl ⊢
  have hl : lv_has ls 5 [(0, .int a0), (1, .int a1), (2, .int a2), (3, .int a3)] := hl
  unfold wp_canBeAsked at hw
  have hP : va_P D clX (wX ca ad σ) s.heap := hP
  refine lv_iload_n hx hb dH_canBeAsked_0 rfl (lv_at hl 1 rfl) ?_
  have hFc := px_free hD hS hA
  refine va_calli (va_runS (As := [.int a1]) (rest := []) ⟨hx, hb, hml, hown, hts⟩ (c_isKeySize l D ca ad σ a1 _ _ hw) (va_cwS 1 hts (gS tw_332 tw_333 tw_1 tw_334) rfl rfl rfl (by decide +kernel) ⟨Nat.le_of_ble_eq_true rfl, Nat.le_of_ble_eq_true rfl⟩) ⟨px_blind, fun U hU hW => px_pre hP hK hD hE hS hFc hU hW⟩ rfl rfl hl.1 rfl (lv_room (Nat.le_of_ble_eq_true rfl)) dH_canBeAsked_1 ⟨Nat.le_of_ble_eq_true rfl, Nat.le_of_ble_eq_true rfl⟩) hS (fun q _ h => hFc q h) hFc (fun r2 s1 t H locs ht hvm hw hB _ _ hS => ?_)
  obtain ⟨hP, -, hD⟩ := hB
  rw [ht] at hP
  have hD := hD.weaken (fun _ _ _ h9 => hFc _ h9)
  refine lv_if_eq (tgt := 23) hx hb dH_canBeAsked_4 (by decide) (fun c3 => ?_) (fun c3 => ?_)
  · have hw := hw.1 c3
    refine lv_iconst (v := 0) hx hb dH_canBeAsked_23 (by decide) ?_
    exact W.zret (ty := .boolean) (v := 0) hx hb hr (by decide) (fun t ht hW => ⟨⟨0, s1, rfl, hw, by rw [ht]; exact hP, va_K.moved hW.alike hK, hD⟩, hS.F ht⟩) hS.2.2 dH_canBeAsked_24
  · have hw := hw.2 c3
    refine lv_iload_n hx hb dH_canBeAsked_7 rfl (lv_at hl 2 rfl) ?_
    have hFc := px_free hD hS hA
    refine va_calli (va_runS (As := [.int a2]) (rest := []) ⟨hx, hb, hml, hown, hts⟩ (c_isValueSize l D ca ad s1 a2 _ _ hw) (va_cwS 1 hts (gS tw_335 tw_336 tw_1 tw_337) rfl rfl rfl (by decide +kernel) ⟨Nat.le_of_ble_eq_true rfl, Nat.le_of_ble_eq_true rfl⟩) ⟨px_blind, fun U hU hW => px_pre hP hK hD hE hS hFc hU hW⟩ rfl rfl hl.1 rfl (lv_room (Nat.le_of_ble_eq_true rfl)) dH_canBeAsked_8 ⟨Nat.le_of_ble_eq_true rfl, Nat.le_of_ble_eq_true rfl⟩) hS (fun q _ h => hFc q h) hFc (fun r5 s4 t H locs ht hvm hw hB _ _ hS => ?_)
    obtain ⟨hP, -, hD⟩ := hB
    rw [ht] at hP
    have hD := hD.weaken (fun _ _ _ h9 => hFc _ h9)
    refine lv_if_eq (tgt := 23) hx hb dH_canBeAsked_11 (by decide) (fun c6 => ?_) (fun c6 => ?_)
    · have hw := hw.1 c6
      refine lv_iconst (v := 0) hx hb dH_canBeAsked_23 (by decide) ?_
      exact W.zret (ty := .boolean) (v := 0) hx hb hr (by decide) (fun t ht hW => ⟨⟨0, s4, rfl, hw, by rw [ht]; exact hP, va_K.moved hW.alike hK, hD⟩, hS.F ht⟩) hS.2.2 dH_canBeAsked_24
    · have hw := hw.2 c6
      refine lv_iload_n hx hb dH_canBeAsked_14 rfl (lv_at hl 2 rfl) ?_
      refine lv_if_eq (tgt := 25) hx hb dH_canBeAsked_15 (by decide) (fun c7 => ?_) (fun c7 => ?_)
      · have hw := hw.1 c7
        refine lv_iload_n hx hb dH_canBeAsked_25 rfl (lv_at hl 3 rfl) ?_
        refine lv_iload_n hx hb dH_canBeAsked_26 rfl (lv_at hl 1 rfl) ?_
        refine lv_isub hx hb dH_canBeAsked_27 ?_
        refine lv_iload_n hx hb dH_canBeAsked_28 rfl (lv_at hl 2 rfl) ?_
        refine lv_isub hx hb dH_canBeAsked_29 ?_
        refine lv_istore (lv' := [(4, .int ((a3 - a1) - a2)), (0, .int a0), (1, .int a1), (2, .int a2), (3, .int a3)]) hx hb dH_canBeAsked_30 hl (by decide) rfl (fun ls hl => ?_)
        refine lv_iload_n hx hb dH_canBeAsked_32 rfl (lv_at hl 1 rfl) ?_
        by_cases c8 : a0 = 0
        · have hw := hw.1 c8
          refine lv_tableIn (tgt := 72) hx hb dH_canBeAsked_33 (by rw [c8]; decide) (by rw [c8]; decide) (by rw [c8]; rfl) (by decide) ?_
          refine lv_iload hx hb dH_canBeAsked_72 (lv_at hl 0 rfl) ?_
          have hFc := px_free hD hS hA
          refine va_calli (va_runS (As := [.int ((a3 - a1) - a2)]) (rest := []) ⟨hx, hb, hml, hown, hts⟩ (c_isValueSize l D ca ad s4 ((a3 - a1) - a2) _ _ hw) (va_cwS 1 hts (gS tw_335 tw_336 tw_1 tw_337) rfl rfl rfl (by decide +kernel) ⟨Nat.le_of_ble_eq_true rfl, Nat.le_of_ble_eq_true rfl⟩) ⟨px_blind, fun U hU hW => px_pre hP hK hD hE hS hFc hU hW⟩ rfl rfl hl.1 rfl (lv_room (Nat.le_of_ble_eq_true rfl)) dH_canBeAsked_74 ⟨Nat.le_of_ble_eq_true rfl, Nat.le_of_ble_eq_true rfl⟩) hS (fun q _ h => hFc q h) hFc (fun r10 s9 t H locs ht hvm hw hB _ _ hS => ?_)
          obtain ⟨hP, -, hD⟩ := hB
          rw [ht] at hP
          have hD := hD.weaken (fun _ _ _ h9 => hFc _ h9)
          obtain ⟨hz, hw⟩ := hw
          exact W.zret (ty := .boolean) (v := r10) hx hb hr hz (fun t ht hW => ⟨⟨r10, s9, rfl, hw, by rw [ht]; exact hP, va_K.moved hW.alike hK, hD⟩, hS.F ht⟩) hS.2.2 dH_canBeAsked_77
        · have hw := hw.2 c8
          by_cases c11 : a0 = 1
          · have hw := hw.1 c11
            refine lv_tableIn (tgt := 72) hx hb dH_canBeAsked_33 (by rw [c11]; decide) (by rw [c11]; decide) (by rw [c11]; rfl) (by decide) ?_
            refine lv_iload hx hb dH_canBeAsked_72 (lv_at hl 0 rfl) ?_
            have hFc := px_free hD hS hA
            refine va_calli (va_runS (As := [.int ((a3 - a1) - a2)]) (rest := []) ⟨hx, hb, hml, hown, hts⟩ (c_isValueSize l D ca ad s4 ((a3 - a1) - a2) _ _ hw) (va_cwS 1 hts (gS tw_335 tw_336 tw_1 tw_337) rfl rfl rfl (by decide +kernel) ⟨Nat.le_of_ble_eq_true rfl, Nat.le_of_ble_eq_true rfl⟩) ⟨px_blind, fun U hU hW => px_pre hP hK hD hE hS hFc hU hW⟩ rfl rfl hl.1 rfl (lv_room (Nat.le_of_ble_eq_true rfl)) dH_canBeAsked_74 ⟨Nat.le_of_ble_eq_true rfl, Nat.le_of_ble_eq_true rfl⟩) hS (fun q _ h => hFc q h) hFc (fun r13 s12 t H locs ht hvm hw hB _ _ hS => ?_)
            obtain ⟨hP, -, hD⟩ := hB
            rw [ht] at hP
            have hD := hD.weaken (fun _ _ _ h9 => hFc _ h9)
            obtain ⟨hz, hw⟩ := hw
            exact W.zret (ty := .boolean) (v := r13) hx hb hr hz (fun t ht hW => ⟨⟨r13, s12, rfl, hw, by rw [ht]; exact hP, va_K.moved hW.alike hK, hD⟩, hS.F ht⟩) hS.2.2 dH_canBeAsked_77
          · have hw := hw.2 c11
            by_cases c14 : a0 = 2
            · have hw := hw.1 c14
              refine lv_tableIn (tgt := 78) hx hb dH_canBeAsked_33 (by rw [c14]; decide) (by rw [c14]; decide) (by rw [c14]; rfl) (by decide) ?_
              refine lv_iload hx hb dH_canBeAsked_78 (lv_at hl 0 rfl) ?_
              refine lv_if_ne (tgt := 87) hx hb dH_canBeAsked_80 (by decide) (fun c15 => ?_) (fun c15 => ?_)
              · have hw := hw.1 c15
                refine lv_iconst (v := 0) hx hb dH_canBeAsked_87 (by decide) ?_
                exact W.zret (ty := .boolean) (v := 0) hx hb hr (by decide) (fun t ht hW => ⟨⟨0, s4, rfl, hw, by rw [ht]; exact hP, va_K.moved hW.alike hK, hD⟩, hS.F ht⟩) hS.2.2 dH_canBeAsked_88
              · have hw := hw.2 c15
                refine lv_iconst (v := 1) hx hb dH_canBeAsked_83 (by decide) ?_
                refine lv_goto (tgt := 88) hx hb dH_canBeAsked_84 (by decide) ?_
                exact W.zret (ty := .boolean) (v := 1) hx hb hr (by decide) (fun t ht hW => ⟨⟨1, s4, rfl, hw, by rw [ht]; exact hP, va_K.moved hW.alike hK, hD⟩, hS.F ht⟩) hS.2.2 dH_canBeAsked_88
            · have hw := hw.2 c14
              by_cases c16 : a0 = 3
              · have hw := hw.1 c16
                refine lv_tableIn (tgt := 78) hx hb dH_canBeAsked_33 (by rw [c16]; decide) (by rw [c16]; decide) (by rw [c16]; rfl) (by decide) ?_
                refine lv_iload hx hb dH_canBeAsked_78 (lv_at hl 0 rfl) ?_
                refine lv_if_ne (tgt := 87) hx hb dH_canBeAsked_80 (by decide) (fun c17 => ?_) (fun c17 => ?_)
                · have hw := hw.1 c17
                  refine lv_iconst (v := 0) hx hb dH_canBeAsked_87 (by decide) ?_
                  exact W.zret (ty := .boolean) (v := 0) hx hb hr (by decide) (fun t ht hW => ⟨⟨0, s4, rfl, hw, by rw [ht]; exact hP, va_K.moved hW.alike hK, hD⟩, hS.F ht⟩) hS.2.2 dH_canBeAsked_88
                · have hw := hw.2 c17
                  refine lv_iconst (v := 1) hx hb dH_canBeAsked_83 (by decide) ?_
                  refine lv_goto (tgt := 88) hx hb dH_canBeAsked_84 (by decide) ?_
                  exact W.zret (ty := .boolean) (v := 1) hx hb hr (by decide) (fun t ht hW => ⟨⟨1, s4, rfl, hw, by rw [ht]; exact hP, va_K.moved hW.alike hK, hD⟩, hS.F ht⟩) hS.2.2 dH_canBeAsked_88
              · have hw := hw.2 c16
                by_cases c18 : a0 = 4
                · have hw := hw.1 c18
                  refine lv_tableIn (tgt := 89) hx hb dH_canBeAsked_33 (by rw [c18]; decide) (by rw [c18]; decide) (by rw [c18]; rfl) (by decide) ?_
                  refine lv_iload hx hb dH_canBeAsked_89 (lv_at hl 0 rfl) ?_
                  have hFc := px_free hD hS hA
                  refine va_calli (va_runS (As := [.int ((a3 - a1) - a2)]) (rest := []) ⟨hx, hb, hml, hown, hts⟩ (c_isKeySize l D ca ad s4 ((a3 - a1) - a2) _ _ hw) (va_cwS 1 hts (gS tw_332 tw_333 tw_1 tw_334) rfl rfl rfl (by decide +kernel) ⟨Nat.le_of_ble_eq_true rfl, Nat.le_of_ble_eq_true rfl⟩) ⟨px_blind, fun U hU hW => px_pre hP hK hD hE hS hFc hU hW⟩ rfl rfl hl.1 rfl (lv_room (Nat.le_of_ble_eq_true rfl)) dH_canBeAsked_91 ⟨Nat.le_of_ble_eq_true rfl, Nat.le_of_ble_eq_true rfl⟩) hS (fun q _ h => hFc q h) hFc (fun r20 s19 t H locs ht hvm hw hB _ _ hS => ?_)
                  obtain ⟨hP, -, hD⟩ := hB
                  rw [ht] at hP
                  have hD := hD.weaken (fun _ _ _ h9 => hFc _ h9)
                  obtain ⟨hz, hw⟩ := hw
                  exact W.zret (ty := .boolean) (v := r20) hx hb hr hz (fun t ht hW => ⟨⟨r20, s19, rfl, hw, by rw [ht]; exact hP, va_K.moved hW.alike hK, hD⟩, hS.F ht⟩) hS.2.2 dH_canBeAsked_94
                · have hw := hw.2 c18
                  by_cases c21 : a0 = 5
                  · have hw := hw.1 c21
                    refine lv_tableIn (tgt := 78) hx hb dH_canBeAsked_33 (by rw [c21]; decide) (by rw [c21]; decide) (by rw [c21]; rfl) (by decide) ?_
                    refine lv_iload hx hb dH_canBeAsked_78 (lv_at hl 0 rfl) ?_
                    refine lv_if_ne (tgt := 87) hx hb dH_canBeAsked_80 (by decide) (fun c22 => ?_) (fun c22 => ?_)
                    · have hw := hw.1 c22
                      refine lv_iconst (v := 0) hx hb dH_canBeAsked_87 (by decide) ?_
                      exact W.zret (ty := .boolean) (v := 0) hx hb hr (by decide) (fun t ht hW => ⟨⟨0, s4, rfl, hw, by rw [ht]; exact hP, va_K.moved hW.alike hK, hD⟩, hS.F ht⟩) hS.2.2 dH_canBeAsked_88
                    · have hw := hw.2 c22
                      refine lv_iconst (v := 1) hx hb dH_canBeAsked_83 (by decide) ?_
                      refine lv_goto (tgt := 88) hx hb dH_canBeAsked_84 (by decide) ?_
                      exact W.zret (ty := .boolean) (v := 1) hx hb hr (by decide) (fun t ht hW => ⟨⟨1, s4, rfl, hw, by rw [ht]; exact hP, va_K.moved hW.alike hK, hD⟩, hS.F ht⟩) hS.2.2 dH_canBeAsked_88
                  · have hw := hw.2 c21
                    refine lv_tableOut (tgt := 95) hx hb dH_canBeAsked_33 (by first | exact px_out6 c8 c11 c14 c16 c18 c21) (by decide) ?_
                    refine lv_iconst (v := 0) hx hb dH_canBeAsked_95 (by decide) ?_
                    exact W.zret (ty := .boolean) (v := 0) hx hb hr (by decide) (fun t ht hW => ⟨⟨0, s4, rfl, hw, by rw [ht]; exact hP, va_K.moved hW.alike hK, hD⟩, hS.F ht⟩) hS.2.2 dH_canBeAsked_96
      · have hw := hw.2 c7
        refine lv_iload_n hx hb dH_canBeAsked_18 rfl (lv_at hl 0 rfl) ?_
        refine lv_iconst (v := 1) hx hb dH_canBeAsked_19 (by decide) ?_
        refine lv_icmp_eq (tgt := 25) hx hb dH_canBeAsked_20 (by decide) (fun c23 => ?_) (fun c23 => ?_)
        · have hw := hw.1 c23
          refine lv_iload_n hx hb dH_canBeAsked_25 rfl (lv_at hl 3 rfl) ?_
          refine lv_iload_n hx hb dH_canBeAsked_26 rfl (lv_at hl 1 rfl) ?_
          refine lv_isub hx hb dH_canBeAsked_27 ?_
          refine lv_iload_n hx hb dH_canBeAsked_28 rfl (lv_at hl 2 rfl) ?_
          refine lv_isub hx hb dH_canBeAsked_29 ?_
          refine lv_istore (lv' := [(4, .int ((a3 - a1) - a2)), (0, .int a0), (1, .int a1), (2, .int a2), (3, .int a3)]) hx hb dH_canBeAsked_30 hl (by decide) rfl (fun ls hl => ?_)
          refine lv_iload_n hx hb dH_canBeAsked_32 rfl (lv_at hl 1 rfl) ?_
          by_cases c24 : a0 = 0
          · have hw := hw.1 c24
            refine lv_tableIn (tgt := 72) hx hb dH_canBeAsked_33 (by rw [c24]; decide) (by rw [c24]; decide) (by rw [c24]; rfl) (by decide) ?_
            refine lv_iload hx hb dH_canBeAsked_72 (lv_at hl 0 rfl) ?_
            have hFc := px_free hD hS hA
            refine va_calli (va_runS (As := [.int ((a3 - a1) - a2)]) (rest := []) ⟨hx, hb, hml, hown, hts⟩ (c_isValueSize l D ca ad s4 ((a3 - a1) - a2) _ _ hw) (va_cwS 1 hts (gS tw_335 tw_336 tw_1 tw_337) rfl rfl rfl (by decide +kernel) ⟨Nat.le_of_ble_eq_true rfl, Nat.le_of_ble_eq_true rfl⟩) ⟨px_blind, fun U hU hW => px_pre hP hK hD hE hS hFc hU hW⟩ rfl rfl hl.1 rfl (lv_room (Nat.le_of_ble_eq_true rfl)) dH_canBeAsked_74 ⟨Nat.le_of_ble_eq_true rfl, Nat.le_of_ble_eq_true rfl⟩) hS (fun q _ h => hFc q h) hFc (fun r26 s25 t H locs ht hvm hw hB _ _ hS => ?_)
            obtain ⟨hP, -, hD⟩ := hB
            rw [ht] at hP
            have hD := hD.weaken (fun _ _ _ h9 => hFc _ h9)
            obtain ⟨hz, hw⟩ := hw
            exact W.zret (ty := .boolean) (v := r26) hx hb hr hz (fun t ht hW => ⟨⟨r26, s25, rfl, hw, by rw [ht]; exact hP, va_K.moved hW.alike hK, hD⟩, hS.F ht⟩) hS.2.2 dH_canBeAsked_77
          · have hw := hw.2 c24
            by_cases c27 : a0 = 1
            · have hw := hw.1 c27
              refine lv_tableIn (tgt := 72) hx hb dH_canBeAsked_33 (by rw [c27]; decide) (by rw [c27]; decide) (by rw [c27]; rfl) (by decide) ?_
              refine lv_iload hx hb dH_canBeAsked_72 (lv_at hl 0 rfl) ?_
              have hFc := px_free hD hS hA
              refine va_calli (va_runS (As := [.int ((a3 - a1) - a2)]) (rest := []) ⟨hx, hb, hml, hown, hts⟩ (c_isValueSize l D ca ad s4 ((a3 - a1) - a2) _ _ hw) (va_cwS 1 hts (gS tw_335 tw_336 tw_1 tw_337) rfl rfl rfl (by decide +kernel) ⟨Nat.le_of_ble_eq_true rfl, Nat.le_of_ble_eq_true rfl⟩) ⟨px_blind, fun U hU hW => px_pre hP hK hD hE hS hFc hU hW⟩ rfl rfl hl.1 rfl (lv_room (Nat.le_of_ble_eq_true rfl)) dH_canBeAsked_74 ⟨Nat.le_of_ble_eq_true rfl, Nat.le_of_ble_eq_true rfl⟩) hS (fun q _ h => hFc q h) hFc (fun r29 s28 t H locs ht hvm hw hB _ _ hS => ?_)
              obtain ⟨hP, -, hD⟩ := hB
              rw [ht] at hP
              have hD := hD.weaken (fun _ _ _ h9 => hFc _ h9)
              obtain ⟨hz, hw⟩ := hw
              exact W.zret (ty := .boolean) (v := r29) hx hb hr hz (fun t ht hW => ⟨⟨r29, s28, rfl, hw, by rw [ht]; exact hP, va_K.moved hW.alike hK, hD⟩, hS.F ht⟩) hS.2.2 dH_canBeAsked_77
            · have hw := hw.2 c27
              by_cases c30 : a0 = 2
              · have hw := hw.1 c30
                refine lv_tableIn (tgt := 78) hx hb dH_canBeAsked_33 (by rw [c30]; decide) (by rw [c30]; decide) (by rw [c30]; rfl) (by decide) ?_
                refine lv_iload hx hb dH_canBeAsked_78 (lv_at hl 0 rfl) ?_
                refine lv_if_ne (tgt := 87) hx hb dH_canBeAsked_80 (by decide) (fun c31 => ?_) (fun c31 => ?_)
                · have hw := hw.1 c31
                  refine lv_iconst (v := 0) hx hb dH_canBeAsked_87 (by decide) ?_
                  exact W.zret (ty := .boolean) (v := 0) hx hb hr (by decide) (fun t ht hW => ⟨⟨0, s4, rfl, hw, by rw [ht]; exact hP, va_K.moved hW.alike hK, hD⟩, hS.F ht⟩) hS.2.2 dH_canBeAsked_88
                · have hw := hw.2 c31
                  refine lv_iconst (v := 1) hx hb dH_canBeAsked_83 (by decide) ?_
                  refine lv_goto (tgt := 88) hx hb dH_canBeAsked_84 (by decide) ?_
                  exact W.zret (ty := .boolean) (v := 1) hx hb hr (by decide) (fun t ht hW => ⟨⟨1, s4, rfl, hw, by rw [ht]; exact hP, va_K.moved hW.alike hK, hD⟩, hS.F ht⟩) hS.2.2 dH_canBeAsked_88
              · have hw := hw.2 c30
                by_cases c32 : a0 = 3
                · have hw := hw.1 c32
                  refine lv_tableIn (tgt := 78) hx hb dH_canBeAsked_33 (by rw [c32]; decide) (by rw [c32]; decide) (by rw [c32]; rfl) (by decide) ?_
                  refine lv_iload hx hb dH_canBeAsked_78 (lv_at hl 0 rfl) ?_
                  refine lv_if_ne (tgt := 87) hx hb dH_canBeAsked_80 (by decide) (fun c33 => ?_) (fun c33 => ?_)
                  · have hw := hw.1 c33
                    refine lv_iconst (v := 0) hx hb dH_canBeAsked_87 (by decide) ?_
                    exact W.zret (ty := .boolean) (v := 0) hx hb hr (by decide) (fun t ht hW => ⟨⟨0, s4, rfl, hw, by rw [ht]; exact hP, va_K.moved hW.alike hK, hD⟩, hS.F ht⟩) hS.2.2 dH_canBeAsked_88
                  · have hw := hw.2 c33
                    refine lv_iconst (v := 1) hx hb dH_canBeAsked_83 (by decide) ?_
                    refine lv_goto (tgt := 88) hx hb dH_canBeAsked_84 (by decide) ?_
                    exact W.zret (ty := .boolean) (v := 1) hx hb hr (by decide) (fun t ht hW => ⟨⟨1, s4, rfl, hw, by rw [ht]; exact hP, va_K.moved hW.alike hK, hD⟩, hS.F ht⟩) hS.2.2 dH_canBeAsked_88
                · have hw := hw.2 c32
                  by_cases c34 : a0 = 4
                  · have hw := hw.1 c34
                    refine lv_tableIn (tgt := 89) hx hb dH_canBeAsked_33 (by rw [c34]; decide) (by rw [c34]; decide) (by rw [c34]; rfl) (by decide) ?_
                    refine lv_iload hx hb dH_canBeAsked_89 (lv_at hl 0 rfl) ?_
                    have hFc := px_free hD hS hA
                    refine va_calli (va_runS (As := [.int ((a3 - a1) - a2)]) (rest := []) ⟨hx, hb, hml, hown, hts⟩ (c_isKeySize l D ca ad s4 ((a3 - a1) - a2) _ _ hw) (va_cwS 1 hts (gS tw_332 tw_333 tw_1 tw_334) rfl rfl rfl (by decide +kernel) ⟨Nat.le_of_ble_eq_true rfl, Nat.le_of_ble_eq_true rfl⟩) ⟨px_blind, fun U hU hW => px_pre hP hK hD hE hS hFc hU hW⟩ rfl rfl hl.1 rfl (lv_room (Nat.le_of_ble_eq_true rfl)) dH_canBeAsked_91 ⟨Nat.le_of_ble_eq_true rfl, Nat.le_of_ble_eq_true rfl⟩) hS (fun q _ h => hFc q h) hFc (fun r36 s35 t H locs ht hvm hw hB _ _ hS => ?_)
                    obtain ⟨hP, -, hD⟩ := hB
                    rw [ht] at hP
                    have hD := hD.weaken (fun _ _ _ h9 => hFc _ h9)
                    obtain ⟨hz, hw⟩ := hw
                    exact W.zret (ty := .boolean) (v := r36) hx hb hr hz (fun t ht hW => ⟨⟨r36, s35, rfl, hw, by rw [ht]; exact hP, va_K.moved hW.alike hK, hD⟩, hS.F ht⟩) hS.2.2 dH_canBeAsked_94
                  · have hw := hw.2 c34
                    by_cases c37 : a0 = 5
                    · have hw := hw.1 c37
                      refine lv_tableIn (tgt := 78) hx hb dH_canBeAsked_33 (by rw [c37]; decide) (by rw [c37]; decide) (by rw [c37]; rfl) (by decide) ?_
                      refine lv_iload hx hb dH_canBeAsked_78 (lv_at hl 0 rfl) ?_
                      refine lv_if_ne (tgt := 87) hx hb dH_canBeAsked_80 (by decide) (fun c38 => ?_) (fun c38 => ?_)
                      · have hw := hw.1 c38
                        refine lv_iconst (v := 0) hx hb dH_canBeAsked_87 (by decide) ?_
                        exact W.zret (ty := .boolean) (v := 0) hx hb hr (by decide) (fun t ht hW => ⟨⟨0, s4, rfl, hw, by rw [ht]; exact hP, va_K.moved hW.alike hK, hD⟩, hS.F ht⟩) hS.2.2 dH_canBeAsked_88
                      · have hw := hw.2 c38
                        refine lv_iconst (v := 1) hx hb dH_canBeAsked_83 (by decide) ?_
                        refine lv_goto (tgt := 88) hx hb dH_canBeAsked_84 (by decide) ?_
                        exact W.zret (ty := .boolean) (v := 1) hx hb hr (by decide) (fun t ht hW => ⟨⟨1, s4, rfl, hw, by rw [ht]; exact hP, va_K.moved hW.alike hK, hD⟩, hS.F ht⟩) hS.2.2 dH_canBeAsked_88
                    · have hw := hw.2 c37
                      refine lv_tableOut (tgt := 95) hx hb dH_canBeAsked_33 (by first | exact px_out6 c24 c27 c30 c32 c34 c37) (by decide) ?_
                      refine lv_iconst (v := 0) hx hb dH_canBeAsked_95 (by decide) ?_
                      exact W.zret (ty := .boolean) (v := 0) hx hb hr (by decide) (fun t ht hW => ⟨⟨0, s4, rfl, hw, by rw [ht]; exact hP, va_K.moved hW.alike hK, hD⟩, hS.F ht⟩) hS.2.2 dH_canBeAsked_96
        · have hw := hw.2 c23
          refine lv_iconst (v := 0) hx hb dH_canBeAsked_23 (by decide) ?_
          exact W.zret (ty := .boolean) (v := 0) hx hb hr (by decide) (fun t ht hW => ⟨⟨0, s4, rfl, hw, by rw [ht]; exact hP, va_K.moved hW.alike hK, hD⟩, hS.F ht⟩) hS.2.2 dH_canBeAsked_24
theorem dH_canBeReplied_0 : decode cH_canBeReplied 0 = .ok (.iload_n 0, 1) := by decide +kernel
theorem dH_canBeReplied_1 : decode cH_canBeReplied 1 = .ok (.tableswitch 95 0 3 #[31, 56, 81, 81], 31) := by decide +kernel
theorem dH_canBeReplied_32 : decode cH_canBeReplied 32 = .ok (.iload_n 1, 1) := by decide +kernel
theorem dH_canBeReplied_33 : decode cH_canBeReplied 33 = .ok (.iconst 1, 1) := by decide +kernel
theorem dH_canBeReplied_34 : decode cH_canBeReplied 34 = .ok (.if_icmp .lt 21, 3) := by decide +kernel
theorem dH_canBeReplied_37 : decode cH_canBeReplied 37 = .ok (.iload_n 1, 1) := by decide +kernel
theorem dH_canBeReplied_38 : decode cH_canBeReplied 38 = .ok (.ldc_w 264, 3) := by decide +kernel
theorem dH_canBeReplied_41 : decode cH_canBeReplied 41 = .ok (.if_icmp .gt 14, 3) := by decide +kernel
theorem dH_canBeReplied_44 : decode cH_canBeReplied 44 = .ok (.iload_n 2, 1) := by decide +kernel
theorem dH_canBeReplied_45 : decode cH_canBeReplied 45 = .ok (.sipush 134, 3) := by decide +kernel
theorem dH_canBeReplied_48 : decode cH_canBeReplied 48 = .ok (.if_icmp .gt 7, 3) := by decide +kernel
theorem dH_canBeReplied_51 : decode cH_canBeReplied 51 = .ok (.iconst 1, 1) := by decide +kernel
theorem dH_canBeReplied_52 : decode cH_canBeReplied 52 = .ok (.goto 4, 3) := by decide +kernel
theorem dH_canBeReplied_55 : decode cH_canBeReplied 55 = .ok (.iconst 0, 1) := by decide +kernel
theorem dH_canBeReplied_56 : decode cH_canBeReplied 56 = .ok (.ireturn, 1) := by decide +kernel
theorem dH_canBeReplied_57 : decode cH_canBeReplied 57 = .ok (.iload_n 1, 1) := by decide +kernel
theorem dH_canBeReplied_58 : decode cH_canBeReplied 58 = .ok (.iconst (-1), 1) := by decide +kernel
theorem dH_canBeReplied_59 : decode cH_canBeReplied 59 = .ok (.if_icmp .eq 13, 3) := by decide +kernel
theorem dH_canBeReplied_62 : decode cH_canBeReplied 62 = .ok (.iload_n 1, 1) := by decide +kernel
theorem dH_canBeReplied_63 : decode cH_canBeReplied 63 = .ok (.ifCond .lt 17, 3) := by decide +kernel
theorem dH_canBeReplied_66 : decode cH_canBeReplied 66 = .ok (.iload_n 1, 1) := by decide +kernel
theorem dH_canBeReplied_67 : decode cH_canBeReplied 67 = .ok (.bipush 7, 2) := by decide +kernel
theorem dH_canBeReplied_69 : decode cH_canBeReplied 69 = .ok (.if_icmp .ge 11, 3) := by decide +kernel
theorem dH_canBeReplied_72 : decode cH_canBeReplied 72 = .ok (.iload_n 2, 1) := by decide +kernel
theorem dH_canBeReplied_73 : decode cH_canBeReplied 73 = .ok (.ifCond .ne 7, 3) := by decide +kernel
theorem dH_canBeReplied_76 : decode cH_canBeReplied 76 = .ok (.iconst 1, 1) := by decide +kernel
theorem dH_canBeReplied_77 : decode cH_canBeReplied 77 = .ok (.goto 4, 3) := by decide +kernel
theorem dH_canBeReplied_80 : decode cH_canBeReplied 80 = .ok (.iconst 0, 1) := by decide +kernel
theorem dH_canBeReplied_81 : decode cH_canBeReplied 81 = .ok (.ireturn, 1) := by decide +kernel
theorem dH_canBeReplied_82 : decode cH_canBeReplied 82 = .ok (.iload_n 1, 1) := by decide +kernel
theorem dH_canBeReplied_83 : decode cH_canBeReplied 83 = .ok (.ifCond .ne 11, 3) := by decide +kernel
theorem dH_canBeReplied_86 : decode cH_canBeReplied 86 = .ok (.iload_n 2, 1) := by decide +kernel
theorem dH_canBeReplied_87 : decode cH_canBeReplied 87 = .ok (.ifCond .ne 7, 3) := by decide +kernel
theorem dH_canBeReplied_90 : decode cH_canBeReplied 90 = .ok (.iconst 1, 1) := by decide +kernel
theorem dH_canBeReplied_91 : decode cH_canBeReplied 91 = .ok (.goto 4, 3) := by decide +kernel
theorem dH_canBeReplied_94 : decode cH_canBeReplied 94 = .ok (.iconst 0, 1) := by decide +kernel
theorem dH_canBeReplied_95 : decode cH_canBeReplied 95 = .ok (.ireturn, 1) := by decide +kernel
theorem dH_canBeReplied_96 : decode cH_canBeReplied 96 = .ok (.iconst 0, 1) := by decide +kernel
theorem dH_canBeReplied_97 : decode cH_canBeReplied 97 = .ok (.ireturn, 1) := by decide +kernel
def wp_canBeReplied (post : Int32 → Sg → Prop) (σ : Sg) (a0 : Int32) (a1 : Int32) (a2 : Int32) : Prop := ((a0 = 0 → (((a1 < 1) → post 0 σ) ∧ (¬ (a1 < 1) → (((1000000 < a1) → post 0 σ) ∧ (¬ (1000000 < a1) → (((134 < a2) → post 0 σ) ∧ (¬ (134 < a2) → post 1 σ))))))) ∧ (¬ (a0 = 0) → ((a0 = 1 → (((a1 = (-1)) → ((¬ (a2 = 0) → post 0 σ) ∧ ((a2 = 0) → post 1 σ))) ∧ (¬ (a1 = (-1)) → (((a1 < 0) → post 0 σ) ∧ (¬ (a1 < 0) → (((7 ≤ a1) → post 0 σ) ∧ (¬ (7 ≤ a1) → ((¬ (a2 = 0) → post 0 σ) ∧ ((a2 = 0) → post 1 σ))))))))) ∧ (¬ (a0 = 1) → ((a0 = 2 → ((¬ (a1 = 0) → post 0 σ) ∧ ((a1 = 0) → ((¬ (a2 = 0) → post 0 σ) ∧ ((a2 = 0) → post 1 σ))))) ∧ (¬ (a0 = 2) → ((a0 = 3 → ((¬ (a1 = 0) → post 0 σ) ∧ ((a1 = 0) → ((¬ (a2 = 0) → post 0 σ) ∧ ((a2 = 0) → post 1 σ))))) ∧ (¬ (a0 = 3) → post 0 σ))))))))
set_option maxHeartbeats 4000000 in
set_option maxRecDepth 100000 in
theorem c_canBeReplied (l : Launch) (D : va_G) (ca : Nat → ClassId) (ad : Nat → Nat → Nat) (σ : Sg) (a0 : Int32) (a1 : Int32) (a2 : Int32) (sz : Nat) (post : Int32 → Sg → Prop) (hw : wp_canBeReplied post σ a0 a1 a2) : Met l yH_canBeReplied wsH_canBeReplied ({ frames := 0, cells := 0, slots := 0, locals := 0 }) (va_Pc [.int a0, .int a1, .int a2] (preX D ca ad σ sz)) (va_Qi post (atX D ca ad (va_A (wX ca ad σ) sz)) (va_A (wX ca ad σ) sz)) 0 0 (va_A (wX ca ad σ) sz) := by
  refine Met.ofW (cc := cH_canBeReplied) (maxL := 3) (ret := (some .boolean)) (by decide) rfl ?_
  intro p e s m args below meth c s₁ B hml hv
  obtain ⟨rfl, hsz, hP, hK, hD0, hE⟩ := hv
  have hx := B.exec
  have hb := B.bytes
  have hr := B.returns
  have hts : ∀ w ∈ tbG, w.before _ s = true := fun w h => atoms_spec (ws := wsH_canBeReplied) B.pre w (List.mem_cons_of_mem _ h)
  have hown : s.vm.findClass RH = some m.cls := findClass_of_methodNamed B.named
  have hlocks := B.notSynchronized
  subst hsz
  have hD := hD0.self (sz := s.heap.size)
  generalize hAe : va_A (wX ca ad σ) s.heap.size = A at hD hE ⊢
  have hA : ∀ q : Nat, s.heap.size ≤ q → A q := fun q h => by rw [← hAe]; exact Or.inr h
  clear hAe
  have hS : va_S A s.heap s.heap [] := va_S.rf
  have hl := lv_entry ([.int a0, .int a1, .int a2]) (n := 3) (Nat.le_of_ble_eq_true rfl)
  rw [lg_entry_eq]
  generalize (lg_sl ([.int a0, .int a1, .int a2]) ++ List.replicate (3 - (lg_sl ([.int a0, .int a1, .int a2])).length) Slot.unset).toArray = ls at hl ⊢
  have hl : lv_has ls 3 [(0, .int a0), (1, .int a1), (2, .int a2)] := hl
  unfold wp_canBeReplied at hw
  have hP : va_P D clX (wX ca ad σ) s.heap := hP
  refine lv_iload_n hx hb dH_canBeReplied_0 rfl (lv_at hl 0 rfl) ?_
  by_cases c1 : a0 = 0
  · have hw := hw.1 c1
    refine lv_tableIn (tgt := 32) hx hb dH_canBeReplied_1 (by rw [c1]; decide) (by rw [c1]; decide) (by rw [c1]; rfl) (by decide) ?_
    refine lv_iload_n hx hb dH_canBeReplied_32 rfl (lv_at hl 1 rfl) ?_
    refine lv_iconst (v := 1) hx hb dH_canBeReplied_33 (by decide) ?_
    refine lv_icmp_lt (tgt := 55) hx hb dH_canBeReplied_34 (by decide) (fun c2 => ?_) (fun c2 => ?_)
    · have hw := hw.1 c2
      refine lv_iconst (v := 0) hx hb dH_canBeReplied_55 (by decide) ?_
      exact W.zret (ty := .boolean) (v := 0) hx hb hr (by decide) (fun t ht hW => ⟨⟨0, σ, rfl, hw, by rw [ht]; exact hP, va_K.moved hW.alike hK, hD⟩, hS.F ht⟩) hS.2.2 dH_canBeReplied_56
    · have hw := hw.2 c2
      refine lv_iload_n hx hb dH_canBeReplied_37 rfl (lv_at hl 1 rfl) ?_
      refine lv_ldcw (own := RH) (index := 264) (v := 1000000) hx hb hown (hts _ tw_493) dH_canBeReplied_38 ?_
      refine lv_icmp_gt (tgt := 55) hx hb dH_canBeReplied_41 (by decide) (fun c3 => ?_) (fun c3 => ?_)
      · have hw := hw.1 c3
        refine lv_iconst (v := 0) hx hb dH_canBeReplied_55 (by decide) ?_
        exact W.zret (ty := .boolean) (v := 0) hx hb hr (by decide) (fun t ht hW => ⟨⟨0, σ, rfl, hw, by rw [ht]; exact hP, va_K.moved hW.alike hK, hD⟩, hS.F ht⟩) hS.2.2 dH_canBeReplied_56
      · have hw := hw.2 c3
        refine lv_iload_n hx hb dH_canBeReplied_44 rfl (lv_at hl 2 rfl) ?_
        refine lv_sipush (v := 134) hx hb dH_canBeReplied_45 (by decide) ?_
        refine lv_icmp_gt (tgt := 55) hx hb dH_canBeReplied_48 (by decide) (fun c4 => ?_) (fun c4 => ?_)
        · have hw := hw.1 c4
          refine lv_iconst (v := 0) hx hb dH_canBeReplied_55 (by decide) ?_
          exact W.zret (ty := .boolean) (v := 0) hx hb hr (by decide) (fun t ht hW => ⟨⟨0, σ, rfl, hw, by rw [ht]; exact hP, va_K.moved hW.alike hK, hD⟩, hS.F ht⟩) hS.2.2 dH_canBeReplied_56
        · have hw := hw.2 c4
          refine lv_iconst (v := 1) hx hb dH_canBeReplied_51 (by decide) ?_
          refine lv_goto (tgt := 56) hx hb dH_canBeReplied_52 (by decide) ?_
          exact W.zret (ty := .boolean) (v := 1) hx hb hr (by decide) (fun t ht hW => ⟨⟨1, σ, rfl, hw, by rw [ht]; exact hP, va_K.moved hW.alike hK, hD⟩, hS.F ht⟩) hS.2.2 dH_canBeReplied_56
  · have hw := hw.2 c1
    by_cases c5 : a0 = 1
    · have hw := hw.1 c5
      refine lv_tableIn (tgt := 57) hx hb dH_canBeReplied_1 (by rw [c5]; decide) (by rw [c5]; decide) (by rw [c5]; rfl) (by decide) ?_
      refine lv_iload_n hx hb dH_canBeReplied_57 rfl (lv_at hl 1 rfl) ?_
      refine lv_iconst (v := (-1)) hx hb dH_canBeReplied_58 (by decide) ?_
      refine lv_icmp_eq (tgt := 72) hx hb dH_canBeReplied_59 (by decide) (fun c6 => ?_) (fun c6 => ?_)
      · have hw := hw.1 c6
        refine lv_iload_n hx hb dH_canBeReplied_72 rfl (lv_at hl 2 rfl) ?_
        refine lv_if_ne (tgt := 80) hx hb dH_canBeReplied_73 (by decide) (fun c7 => ?_) (fun c7 => ?_)
        · have hw := hw.1 c7
          refine lv_iconst (v := 0) hx hb dH_canBeReplied_80 (by decide) ?_
          exact W.zret (ty := .boolean) (v := 0) hx hb hr (by decide) (fun t ht hW => ⟨⟨0, σ, rfl, hw, by rw [ht]; exact hP, va_K.moved hW.alike hK, hD⟩, hS.F ht⟩) hS.2.2 dH_canBeReplied_81
        · have hw := hw.2 c7
          refine lv_iconst (v := 1) hx hb dH_canBeReplied_76 (by decide) ?_
          refine lv_goto (tgt := 81) hx hb dH_canBeReplied_77 (by decide) ?_
          exact W.zret (ty := .boolean) (v := 1) hx hb hr (by decide) (fun t ht hW => ⟨⟨1, σ, rfl, hw, by rw [ht]; exact hP, va_K.moved hW.alike hK, hD⟩, hS.F ht⟩) hS.2.2 dH_canBeReplied_81
      · have hw := hw.2 c6
        refine lv_iload_n hx hb dH_canBeReplied_62 rfl (lv_at hl 1 rfl) ?_
        refine lv_if_lt (tgt := 80) hx hb dH_canBeReplied_63 (by decide) (fun c8 => ?_) (fun c8 => ?_)
        · have hw := hw.1 c8
          refine lv_iconst (v := 0) hx hb dH_canBeReplied_80 (by decide) ?_
          exact W.zret (ty := .boolean) (v := 0) hx hb hr (by decide) (fun t ht hW => ⟨⟨0, σ, rfl, hw, by rw [ht]; exact hP, va_K.moved hW.alike hK, hD⟩, hS.F ht⟩) hS.2.2 dH_canBeReplied_81
        · have hw := hw.2 c8
          refine lv_iload_n hx hb dH_canBeReplied_66 rfl (lv_at hl 1 rfl) ?_
          refine lv_bipush (v := 7) hx hb dH_canBeReplied_67 (by decide) ?_
          refine lv_icmp_ge (tgt := 80) hx hb dH_canBeReplied_69 (by decide) (fun c9 => ?_) (fun c9 => ?_)
          · have hw := hw.1 c9
            refine lv_iconst (v := 0) hx hb dH_canBeReplied_80 (by decide) ?_
            exact W.zret (ty := .boolean) (v := 0) hx hb hr (by decide) (fun t ht hW => ⟨⟨0, σ, rfl, hw, by rw [ht]; exact hP, va_K.moved hW.alike hK, hD⟩, hS.F ht⟩) hS.2.2 dH_canBeReplied_81
          · have hw := hw.2 c9
            refine lv_iload_n hx hb dH_canBeReplied_72 rfl (lv_at hl 2 rfl) ?_
            refine lv_if_ne (tgt := 80) hx hb dH_canBeReplied_73 (by decide) (fun c10 => ?_) (fun c10 => ?_)
            · have hw := hw.1 c10
              refine lv_iconst (v := 0) hx hb dH_canBeReplied_80 (by decide) ?_
              exact W.zret (ty := .boolean) (v := 0) hx hb hr (by decide) (fun t ht hW => ⟨⟨0, σ, rfl, hw, by rw [ht]; exact hP, va_K.moved hW.alike hK, hD⟩, hS.F ht⟩) hS.2.2 dH_canBeReplied_81
            · have hw := hw.2 c10
              refine lv_iconst (v := 1) hx hb dH_canBeReplied_76 (by decide) ?_
              refine lv_goto (tgt := 81) hx hb dH_canBeReplied_77 (by decide) ?_
              exact W.zret (ty := .boolean) (v := 1) hx hb hr (by decide) (fun t ht hW => ⟨⟨1, σ, rfl, hw, by rw [ht]; exact hP, va_K.moved hW.alike hK, hD⟩, hS.F ht⟩) hS.2.2 dH_canBeReplied_81
    · have hw := hw.2 c5
      by_cases c11 : a0 = 2
      · have hw := hw.1 c11
        refine lv_tableIn (tgt := 82) hx hb dH_canBeReplied_1 (by rw [c11]; decide) (by rw [c11]; decide) (by rw [c11]; rfl) (by decide) ?_
        refine lv_iload_n hx hb dH_canBeReplied_82 rfl (lv_at hl 1 rfl) ?_
        refine lv_if_ne (tgt := 94) hx hb dH_canBeReplied_83 (by decide) (fun c12 => ?_) (fun c12 => ?_)
        · have hw := hw.1 c12
          refine lv_iconst (v := 0) hx hb dH_canBeReplied_94 (by decide) ?_
          exact W.zret (ty := .boolean) (v := 0) hx hb hr (by decide) (fun t ht hW => ⟨⟨0, σ, rfl, hw, by rw [ht]; exact hP, va_K.moved hW.alike hK, hD⟩, hS.F ht⟩) hS.2.2 dH_canBeReplied_95
        · have hw := hw.2 c12
          refine lv_iload_n hx hb dH_canBeReplied_86 rfl (lv_at hl 2 rfl) ?_
          refine lv_if_ne (tgt := 94) hx hb dH_canBeReplied_87 (by decide) (fun c13 => ?_) (fun c13 => ?_)
          · have hw := hw.1 c13
            refine lv_iconst (v := 0) hx hb dH_canBeReplied_94 (by decide) ?_
            exact W.zret (ty := .boolean) (v := 0) hx hb hr (by decide) (fun t ht hW => ⟨⟨0, σ, rfl, hw, by rw [ht]; exact hP, va_K.moved hW.alike hK, hD⟩, hS.F ht⟩) hS.2.2 dH_canBeReplied_95
          · have hw := hw.2 c13
            refine lv_iconst (v := 1) hx hb dH_canBeReplied_90 (by decide) ?_
            refine lv_goto (tgt := 95) hx hb dH_canBeReplied_91 (by decide) ?_
            exact W.zret (ty := .boolean) (v := 1) hx hb hr (by decide) (fun t ht hW => ⟨⟨1, σ, rfl, hw, by rw [ht]; exact hP, va_K.moved hW.alike hK, hD⟩, hS.F ht⟩) hS.2.2 dH_canBeReplied_95
      · have hw := hw.2 c11
        by_cases c14 : a0 = 3
        · have hw := hw.1 c14
          refine lv_tableIn (tgt := 82) hx hb dH_canBeReplied_1 (by rw [c14]; decide) (by rw [c14]; decide) (by rw [c14]; rfl) (by decide) ?_
          refine lv_iload_n hx hb dH_canBeReplied_82 rfl (lv_at hl 1 rfl) ?_
          refine lv_if_ne (tgt := 94) hx hb dH_canBeReplied_83 (by decide) (fun c15 => ?_) (fun c15 => ?_)
          · have hw := hw.1 c15
            refine lv_iconst (v := 0) hx hb dH_canBeReplied_94 (by decide) ?_
            exact W.zret (ty := .boolean) (v := 0) hx hb hr (by decide) (fun t ht hW => ⟨⟨0, σ, rfl, hw, by rw [ht]; exact hP, va_K.moved hW.alike hK, hD⟩, hS.F ht⟩) hS.2.2 dH_canBeReplied_95
          · have hw := hw.2 c15
            refine lv_iload_n hx hb dH_canBeReplied_86 rfl (lv_at hl 2 rfl) ?_
            refine lv_if_ne (tgt := 94) hx hb dH_canBeReplied_87 (by decide) (fun c16 => ?_) (fun c16 => ?_)
            · have hw := hw.1 c16
              refine lv_iconst (v := 0) hx hb dH_canBeReplied_94 (by decide) ?_
              exact W.zret (ty := .boolean) (v := 0) hx hb hr (by decide) (fun t ht hW => ⟨⟨0, σ, rfl, hw, by rw [ht]; exact hP, va_K.moved hW.alike hK, hD⟩, hS.F ht⟩) hS.2.2 dH_canBeReplied_95
            · have hw := hw.2 c16
              refine lv_iconst (v := 1) hx hb dH_canBeReplied_90 (by decide) ?_
              refine lv_goto (tgt := 95) hx hb dH_canBeReplied_91 (by decide) ?_
              exact W.zret (ty := .boolean) (v := 1) hx hb hr (by decide) (fun t ht hW => ⟨⟨1, σ, rfl, hw, by rw [ht]; exact hP, va_K.moved hW.alike hK, hD⟩, hS.F ht⟩) hS.2.2 dH_canBeReplied_95
        · have hw := hw.2 c14
          refine lv_tableOut (tgt := 96) hx hb dH_canBeReplied_1 (by first | exact px_out4 c1 c5 c11 c14) (by decide) ?_
          refine lv_iconst (v := 0) hx hb dH_canBeReplied_96 (by decide) ?_
          exact W.zret (ty := .boolean) (v := 0) hx hb hr (by decide) (fun t ht hW => ⟨⟨0, σ, rfl, hw, by rw [ht]; exact hP, va_K.moved hW.alike hK, hD⟩, hS.F ht⟩) hS.2.2 dH_canBeReplied_97
theorem dP_ringsBefore_0 : decode cP_ringsBefore 0 = .ok (.aload_n 0, 1) := by decide +kernel
theorem dP_ringsBefore_1 : decode cP_ringsBefore 1 = .ok (.getfield 51, 3) := by decide +kernel
theorem dP_ringsBefore_4 : decode cP_ringsBefore 4 = .ok (.aload_n 1, 1) := by decide +kernel
theorem dP_ringsBefore_5 : decode cP_ringsBefore 5 = .ok (.getfield 51, 3) := by decide +kernel
theorem dP_ringsBefore_8 : decode cP_ringsBefore 8 = .ok (.if_icmp .lt 25, 3) := by decide +kernel
theorem dP_ringsBefore_11 : decode cP_ringsBefore 11 = .ok (.aload_n 0, 1) := by decide +kernel
theorem dP_ringsBefore_12 : decode cP_ringsBefore 12 = .ok (.getfield 51, 3) := by decide +kernel
theorem dP_ringsBefore_15 : decode cP_ringsBefore 15 = .ok (.aload_n 1, 1) := by decide +kernel
theorem dP_ringsBefore_16 : decode cP_ringsBefore 16 = .ok (.getfield 51, 3) := by decide +kernel
theorem dP_ringsBefore_19 : decode cP_ringsBefore 19 = .ok (.if_icmp .ne 18, 3) := by decide +kernel
theorem dP_ringsBefore_22 : decode cP_ringsBefore 22 = .ok (.aload_n 0, 1) := by decide +kernel
theorem dP_ringsBefore_23 : decode cP_ringsBefore 23 = .ok (.getfield 54, 3) := by decide +kernel
theorem dP_ringsBefore_26 : decode cP_ringsBefore 26 = .ok (.aload_n 1, 1) := by decide +kernel
theorem dP_ringsBefore_27 : decode cP_ringsBefore 27 = .ok (.getfield 54, 3) := by decide +kernel
theorem dP_ringsBefore_30 : decode cP_ringsBefore 30 = .ok (.if_icmp .ge 7, 3) := by decide +kernel
theorem dP_ringsBefore_33 : decode cP_ringsBefore 33 = .ok (.iconst 1, 1) := by decide +kernel
theorem dP_ringsBefore_34 : decode cP_ringsBefore 34 = .ok (.goto 4, 3) := by decide +kernel
theorem dP_ringsBefore_37 : decode cP_ringsBefore 37 = .ok (.iconst 0, 1) := by decide +kernel
theorem dP_ringsBefore_38 : decode cP_ringsBefore 38 = .ok (.ireturn, 1) := by decide +kernel
def wp_ringsBefore (post : Int32 → Sg → Prop) (σ : Sg) (i : Nat) (k0 : Nat) : Prop := ((((sF σ 13 i) < (sF σ 13 k0)) → post 1 σ) ∧ (¬ ((sF σ 13 i) < (sF σ 13 k0)) → ((¬ ((sF σ 13 i) = (sF σ 13 k0)) → post 0 σ) ∧ (((sF σ 13 i) = (sF σ 13 k0)) → ((((sF σ 14 k0) ≤ (sF σ 14 i)) → post 0 σ) ∧ (¬ ((sF σ 14 k0) ≤ (sF σ 14 i)) → post 1 σ))))))
set_option maxHeartbeats 4000000 in
set_option maxRecDepth 100000 in
theorem c_ringsBefore (l : Launch) (D : va_G) (ca : Nat → ClassId) (ad : Nat → Nat → Nat) (σ : Sg) (i : Nat) (hi : i < 8) (k0 : Nat) (hk0 : k0 < 8) (sz : Nat) (post : Int32 → Sg → Prop) (hw : wp_ringsBefore post σ i k0) : Met l yP_ringsBefore wsP_ringsBefore ({ frames := 0, cells := 0, slots := 0, locals := 0 }) (va_Pc [.ref (ad 6 i), .ref (ad 6 k0)] (preX D ca ad σ sz)) (va_Qi post (atX D ca ad (va_A (wX ca ad σ) sz)) (va_A (wX ca ad σ) sz)) 0 0 (va_A (wX ca ad σ) sz) := by
  refine Met.ofW (cc := cP_ringsBefore) (maxL := 2) (ret := (some .boolean)) (by decide) rfl ?_
  intro p e s m args below meth c s₁ B hml hv
  obtain ⟨rfl, hsz, hP, hK, hD0, hE⟩ := hv
  have hx := B.exec
  have hb := B.bytes
  have hr := B.returns
  have hts : ∀ w ∈ tbG, w.before _ s = true := fun w h => atoms_spec (ws := wsP_ringsBefore) B.pre w (List.mem_cons_of_mem _ h)
  have hown : s.vm.findClass RP = some m.cls := findClass_of_methodNamed B.named
  have hlocks := B.notSynchronized
  subst hsz
  have hD := hD0.self (sz := s.heap.size)
  generalize hAe : va_A (wX ca ad σ) s.heap.size = A at hD hE ⊢
  have hA : ∀ q : Nat, s.heap.size ≤ q → A q := fun q h => by rw [← hAe]; exact Or.inr h
  clear hAe
  have hS : va_S A s.heap s.heap [] := va_S.rf
  have hl := lv_entry ([.ref (ad 6 i), .ref (ad 6 k0)]) (n := 2) (Nat.le_of_ble_eq_true rfl)
  rw [lg_entry_eq]
  generalize (lg_sl ([.ref (ad 6 i), .ref (ad 6 k0)]) ++ List.replicate (2 - (lg_sl ([.ref (ad 6 i), .ref (ad 6 k0)])).length) Slot.unset).toArray = ls at hl ⊢
  have hl : lv_has ls 2 [(0, .ref (ad 6 i)), (1, .ref (ad 6 k0))] := hl
  unfold wp_ringsBefore at hw
  have hP : va_P D clX (wX ca ad σ) s.heap := hP
  refine lv_aload_n hx hb dP_ringsBefore_0 rfl (lv_at hl 0 rfl) ?_
  refine va_get (D := D) (ci := 1) (v := .int (sF σ 13 i)) (C := RP) (T := TP) (N := 16) hx hb hts inP hown hK hP (6 + i) (gX_6 hi) rfl 13 (by decide) (hts _ tw_110) (fun _ h9 => h9) rfl dP_ringsBefore_1 ?_
  refine lv_aload_n hx hb dP_ringsBefore_4 rfl (lv_at hl 1 rfl) ?_
  refine va_get (D := D) (ci := 1) (v := .int (sF σ 13 k0)) (C := RP) (T := TP) (N := 16) hx hb hts inP hown hK hP (6 + k0) (gX_6 hk0) rfl 13 (by decide) (hts _ tw_110) (fun _ h9 => h9) rfl dP_ringsBefore_5 ?_
  refine lv_icmp_lt (tgt := 33) hx hb dP_ringsBefore_8 (by decide) (fun c1 => ?_) (fun c1 => ?_)
  · have hw := hw.1 c1
    refine lv_iconst (v := 1) hx hb dP_ringsBefore_33 (by decide) ?_
    refine lv_goto (tgt := 38) hx hb dP_ringsBefore_34 (by decide) ?_
    exact W.zret (ty := .boolean) (v := 1) hx hb hr (by decide) (fun t ht hW => ⟨⟨1, σ, rfl, hw, by rw [ht]; exact hP, va_K.moved hW.alike hK, hD⟩, hS.F ht⟩) hS.2.2 dP_ringsBefore_38
  · have hw := hw.2 c1
    refine lv_aload_n hx hb dP_ringsBefore_11 rfl (lv_at hl 0 rfl) ?_
    refine va_get (D := D) (ci := 1) (v := .int (sF σ 13 i)) (C := RP) (T := TP) (N := 16) hx hb hts inP hown hK hP (6 + i) (gX_6 hi) rfl 13 (by decide) (hts _ tw_110) (fun _ h9 => h9) rfl dP_ringsBefore_12 ?_
    refine lv_aload_n hx hb dP_ringsBefore_15 rfl (lv_at hl 1 rfl) ?_
    refine va_get (D := D) (ci := 1) (v := .int (sF σ 13 k0)) (C := RP) (T := TP) (N := 16) hx hb hts inP hown hK hP (6 + k0) (gX_6 hk0) rfl 13 (by decide) (hts _ tw_110) (fun _ h9 => h9) rfl dP_ringsBefore_16 ?_
    refine lv_icmp_ne (tgt := 37) hx hb dP_ringsBefore_19 (by decide) (fun c2 => ?_) (fun c2 => ?_)
    · have hw := hw.1 c2
      refine lv_iconst (v := 0) hx hb dP_ringsBefore_37 (by decide) ?_
      exact W.zret (ty := .boolean) (v := 0) hx hb hr (by decide) (fun t ht hW => ⟨⟨0, σ, rfl, hw, by rw [ht]; exact hP, va_K.moved hW.alike hK, hD⟩, hS.F ht⟩) hS.2.2 dP_ringsBefore_38
    · have hw := hw.2 c2
      refine lv_aload_n hx hb dP_ringsBefore_22 rfl (lv_at hl 0 rfl) ?_
      refine va_get (D := D) (ci := 1) (v := .int (sF σ 14 i)) (C := RP) (T := TP) (N := 16) hx hb hts inP hown hK hP (6 + i) (gX_6 hi) rfl 14 (by decide) (hts _ tw_112) (fun _ h9 => h9) rfl dP_ringsBefore_23 ?_
      refine lv_aload_n hx hb dP_ringsBefore_26 rfl (lv_at hl 1 rfl) ?_
      refine va_get (D := D) (ci := 1) (v := .int (sF σ 14 k0)) (C := RP) (T := TP) (N := 16) hx hb hts inP hown hK hP (6 + k0) (gX_6 hk0) rfl 14 (by decide) (hts _ tw_112) (fun _ h9 => h9) rfl dP_ringsBefore_27 ?_
      refine lv_icmp_ge (tgt := 37) hx hb dP_ringsBefore_30 (by decide) (fun c3 => ?_) (fun c3 => ?_)
      · have hw := hw.1 c3
        refine lv_iconst (v := 0) hx hb dP_ringsBefore_37 (by decide) ?_
        exact W.zret (ty := .boolean) (v := 0) hx hb hr (by decide) (fun t ht hW => ⟨⟨0, σ, rfl, hw, by rw [ht]; exact hP, va_K.moved hW.alike hK, hD⟩, hS.F ht⟩) hS.2.2 dP_ringsBefore_38
      · have hw := hw.2 c3
        refine lv_iconst (v := 1) hx hb dP_ringsBefore_33 (by decide) ?_
        refine lv_goto (tgt := 38) hx hb dP_ringsBefore_34 (by decide) ?_
        exact W.zret (ty := .boolean) (v := 1) hx hb hr (by decide) (fun t ht hW => ⟨⟨1, σ, rfl, hw, by rw [ht]; exact hP, va_K.moved hW.alike hK, hD⟩, hS.F ht⟩) hS.2.2 dP_ringsBefore_38
theorem dP_copyInto_0 : decode cP_copyInto 0 = .ok (.iload_n 2, 1) := by decide +kernel
theorem dP_copyInto_1 : decode cP_copyInto 1 = .ok (.aload_n 0, 1) := by decide +kernel
theorem dP_copyInto_2 : decode cP_copyInto 2 = .ok (.arraylength, 1) := by decide +kernel
theorem dP_copyInto_3 : decode cP_copyInto 3 = .ok (.aload_n 1, 1) := by decide +kernel
theorem dP_copyInto_4 : decode cP_copyInto 4 = .ok (.arraylength, 1) := by decide +kernel
theorem dP_copyInto_5 : decode cP_copyInto 5 = .ok (.invokestatic 70, 3) := by decide +kernel
theorem dP_copyInto_8 : decode cP_copyInto 8 = .ok (.invokestatic 70, 3) := by decide +kernel
theorem dP_copyInto_11 : decode cP_copyInto 11 = .ok (.istore_n 3, 1) := by decide +kernel
theorem dP_copyInto_12 : decode cP_copyInto 12 = .ok (.iconst 0, 1) := by decide +kernel
theorem dP_copyInto_13 : decode cP_copyInto 13 = .ok (.istore 4, 2) := by decide +kernel
theorem dP_copyInto_15 : decode cP_copyInto 15 = .ok (.iload 4, 2) := by decide +kernel
theorem dP_copyInto_17 : decode cP_copyInto 17 = .ok (.iload_n 3, 1) := by decide +kernel
theorem dP_copyInto_18 : decode cP_copyInto 18 = .ok (.if_icmp .ge 17, 3) := by decide +kernel
theorem dP_copyInto_21 : decode cP_copyInto 21 = .ok (.aload_n 0, 1) := by decide +kernel
theorem dP_copyInto_22 : decode cP_copyInto 22 = .ok (.iload 4, 2) := by decide +kernel
theorem dP_copyInto_24 : decode cP_copyInto 24 = .ok (.aload_n 1, 1) := by decide +kernel
theorem dP_copyInto_25 : decode cP_copyInto 25 = .ok (.iload 4, 2) := by decide +kernel
theorem dP_copyInto_27 : decode cP_copyInto 27 = .ok (.baload, 1) := by decide +kernel
theorem dP_copyInto_28 : decode cP_copyInto 28 = .ok (.bastore, 1) := by decide +kernel
theorem dP_copyInto_29 : decode cP_copyInto 29 = .ok (.iinc 4 1, 3) := by decide +kernel
theorem dP_copyInto_32 : decode cP_copyInto 32 = .ok (.goto (-17), 3) := by decide +kernel
theorem dP_copyInto_35 : decode cP_copyInto 35 = .ok (.iload_n 3, 1) := by decide +kernel
theorem dP_copyInto_36 : decode cP_copyInto 36 = .ok (.ireturn, 1) := by decide +kernel
def wpl_copyD_L15 : Nat → (Int32 → Sg → Prop) → Sg → Nat → Int32 → Int32 → Int32 → Prop
  | 0, _, _, _, _, _, _ => False
  | n + 1, post, σ, k0, x2, x3, x4 => (((x3 ≤ x4) → post x3 σ) ∧ (¬ (x3 ≤ x4) → (vp_in x4 240 ∧ (vp_in x4 232 ∧ wpl_copyD_L15 n post (uB 0 k0 (upd (sB σ 0 k0) (x4).toNatClampNeg (vp_nar .byte ((sA σ 0) (x4).toNatClampNeg))) σ) k0 x2 x3 (x4 + 1)))))
def wp_copyD (post : Int32 → Sg → Prop) (σ : Sg) (k0 : Nat) (a2 : Int32) : Prop := (∃ n : Nat, wpl_copyD_L15 n post σ k0 a2 (if (if 240 < 232 then 240 else 232) < a2 then (if 240 < 232 then 240 else 232) else a2) 0)
set_option maxHeartbeats 4000000 in
set_option maxRecDepth 100000 in
theorem l_copyD_L15 {p : Program} {l : Launch} {e : Env} {s : State} {m : MethodId} {args : Array Value} {below : List Frame} {meth : Method} {c : Code} {D : va_G} {ca : Nat → ClassId} {ad : Nat → Nat → Nat} {A : Nat → Prop} (k0 : Nat) (hk0 : k0 < 8) {post : Int32 → Sg → Prop} (hx : p.tables.exec = Jvm.exec) (hb : c.code = cP_copyInto) (hr : meth.sig.returnType = (some .int)) (hml : c.maxLocals = 5) (hts : ∀ w ∈ tbG, w.before args s = true) (hown : s.vm.findClass RP = some m.cls) (hlocks : meth.locks = false) (hA : ∀ q : Nat, s.heap.size ≤ q → A q) (hK : va_K D clX (tyA ca) s) (hE : eX A s) : ∀ (n : Nat) (σ : Sg) (x2 : Int32) (x3 : Int32) (x4 : Int32), wpl_copyD_L15 n post σ k0 x2 x3 x4 → ∀ (H : Heap) (locs : List Loc), va_P D clX (wX ca ad σ) H → va_D A (wX ca ad σ) → va_S A s.heap H locs → ∀ ls : Array Slot, lv_has ls 5 [(0, .ref (ad 7 k0)), (1, .ref (ad 4 0)), (2, .int x2), (3, .int x3), (4, .int x4)] → W p l e (headSpec wsP_copyInto ({ frames := 1, cells := 0, slots := 0, locals := 21 })).room s m args below meth c H locs 0 0 (MQ below (va_Qi post (atX D ca ad A) A) args s 0 0 A) (F0 m 15 ls []) := by
  intro n
  induction n with
  | zero => intro σ x2 x3 x4 hw; exact hw.elim
  | succ n ih =>
    intro σ x2 x3 x4 hw H locs hP hD hS ls hl
    refine lv_iload hx hb dP_copyInto_15 (lv_at hl 4 rfl) ?_
    refine lv_iload_n hx hb dP_copyInto_17 rfl (lv_at hl 3 rfl) ?_
    refine lv_icmp_ge (tgt := 35) hx hb dP_copyInto_18 (by decide) (fun c1 => ?_) (fun c1 => ?_)
    · have hw := hw.1 c1
      refine lv_iload_n hx hb dP_copyInto_35 rfl (lv_at hl 3 rfl) ?_
      exact W.iret (v := x3) hx hb hr (fun t ht hW => ⟨⟨x3, σ, rfl, hw, by rw [ht]; exact hP, va_K.moved hW.alike hK, hD⟩, hS.F ht⟩) hS.2.2 dP_copyInto_36
    · have hw := hw.2 c1
      refine lv_aload_n hx hb dP_copyInto_21 rfl (lv_at hl 0 rfl) ?_
      refine lv_iload hx hb dP_copyInto_22 (lv_at hl 4 rfl) ?_
      refine lv_aload_n hx hb dP_copyInto_24 rfl (lv_at hl 1 rfl) ?_
      refine lv_iload hx hb dP_copyInto_25 (lv_at hl 4 rfl) ?_
      obtain ⟨hin2, hw⟩ := hw
      refine va_bald hx hb hK hP 4 1 gX_4 rfl hin2 dP_copyInto_27 ?_
      obtain ⟨hin3, hw⟩ := hw
      refine va_bast hx hb hK hP hD hS (6 + (8 + k0)) 1 (gX_7 hk0) rfl hin3 dP_copyInto_28 (fun H locs hP hD hS => ?_)
      rw [sX_7 hk0] at hP hD
      refine lv_iinc (v := x4 + 1) (lv' := [(4, .int (x4 + 1)), (0, .ref (ad 7 k0)), (1, .ref (ad 4 0)), (2, .int x2), (3, .int x3)]) hx hb dP_copyInto_29 hl (k := 4) rfl rfl (by decide) rfl (fun ls hl => ?_)
      refine lv_goto (tgt := 15) hx hb dP_copyInto_32 (by decide) ?_
      exact ih (uB 0 k0 (upd (sB σ 0 k0) (x4).toNatClampNeg (vp_nar .byte ((sA σ 0) (x4).toNatClampNeg))) σ) x2 x3 (x4 + 1) hw _ _ hP hD hS ls (lv_sub hl [1, 2, 3, 4, 0] rfl)
set_option maxHeartbeats 4000000 in
set_option maxRecDepth 100000 in
theorem c_copyD (l : Launch) (D : va_G) (ca : Nat → ClassId) (ad : Nat → Nat → Nat) (σ : Sg) (k0 : Nat) (hk0 : k0 < 8) (a2 : Int32) (sz : Nat) (post : Int32 → Sg → Prop) (hw : wp_copyD post σ k0 a2) : Met l yP_copyInto wsP_copyInto ({ frames := 1, cells := 0, slots := 0, locals := 21 }) (va_Pc [.ref (ad 7 k0), .ref (ad 4 0), .int a2] (preX D ca ad σ sz)) (va_Qi post (atX D ca ad (va_A (wX ca ad σ) sz)) (va_A (wX ca ad σ) sz)) 0 0 (va_A (wX ca ad σ) sz) := by
  refine Met.ofW (cc := cP_copyInto) (maxL := 5) (ret := (some .int)) (by decide) rfl ?_
  intro p e s m args below meth c s₁ B hml hv
  obtain ⟨rfl, hsz, hP, hK, hD0, hE⟩ := hv
  have hx := B.exec
  have hb := B.bytes
  have hr := B.returns
  have hts : ∀ w ∈ tbG, w.before _ s = true := fun w h => atoms_spec (ws := wsP_copyInto) B.pre w (List.mem_cons_of_mem _ h)
  have hown : s.vm.findClass RP = some m.cls := findClass_of_methodNamed B.named
  have hlocks := B.notSynchronized
  subst hsz
  have hD := hD0.self (sz := s.heap.size)
  generalize hAe : va_A (wX ca ad σ) s.heap.size = A at hD hE ⊢
  have hA : ∀ q : Nat, s.heap.size ≤ q → A q := fun q h => by rw [← hAe]; exact Or.inr h
  clear hAe
  have hS : va_S A s.heap s.heap [] := va_S.rf
  have hl := lv_entry ([.ref (ad 7 k0), .ref (ad 4 0), .int a2]) (n := 5) (Nat.le_of_ble_eq_true rfl)
  rw [lg_entry_eq]
  generalize (lg_sl ([.ref (ad 7 k0), .ref (ad 4 0), .int a2]) ++ List.replicate (5 - (lg_sl ([.ref (ad 7 k0), .ref (ad 4 0), .int a2])).length) Slot.unset).toArray = ls at hl ⊢
  have hl : lv_has ls 5 [(0, .ref (ad 7 k0)), (1, .ref (ad 4 0)), (2, .int a2)] := hl
  unfold wp_copyD at hw
  have hP : va_P D clX (wX ca ad σ) s.heap := hP
  refine lv_iload_n hx hb dP_copyInto_0 rfl (lv_at hl 2 rfl) ?_
  refine lv_aload_n hx hb dP_copyInto_1 rfl (lv_at hl 0 rfl) ?_
  refine va_alen (v := 232) hx hb hK hP (6 + (8 + k0)) 1 (gX_7 hk0) rfl (show Int32.ofNat 232 = (232 : Int32) from by decide) dP_copyInto_2 ?_
  refine lv_aload_n hx hb dP_copyInto_3 rfl (lv_at hl 1 rfl) ?_
  refine va_alen (v := 240) hx hb hK hP 4 1 gX_4 rfl (show Int32.ofNat 240 = (240 : Int32) from by decide) dP_copyInto_4 ?_
  refine va_mmin hx hb (hml.trans hl.1.symm) hown (hts _ tw_439) (hts _ tw_425) (hts _ tw_16) (hts _ tw_426) (by decide) (Nat.le_of_ble_eq_true rfl) (by decide) (by decide) dP_copyInto_5 ?_
  refine va_mmin hx hb (hml.trans hl.1.symm) hown (hts _ tw_439) (hts _ tw_425) (hts _ tw_16) (hts _ tw_426) (by decide) (Nat.le_of_ble_eq_true rfl) (by decide) (by decide) dP_copyInto_8 ?_
  refine lv_istore_n (lv' := [(3, .int (if (if 240 < 232 then 240 else 232) < a2 then (if 240 < 232 then 240 else 232) else a2)), (0, .ref (ad 7 k0)), (1, .ref (ad 4 0)), (2, .int a2)]) hx hb dP_copyInto_11 rfl hl (by decide) rfl (fun ls hl => ?_)
  refine lv_iconst (v := 0) hx hb dP_copyInto_12 (by decide) ?_
  refine lv_istore (lv' := [(4, .int 0), (3, .int (if (if 240 < 232 then 240 else 232) < a2 then (if 240 < 232 then 240 else 232) else a2)), (0, .ref (ad 7 k0)), (1, .ref (ad 4 0)), (2, .int a2)]) hx hb dP_copyInto_13 hl (by decide) rfl (fun ls hl => ?_)
  obtain ⟨n, hw⟩ := hw
  exact l_copyD_L15 (D := D) (ca := ca) (ad := ad) k0 hk0 hx hb hr hml hts hown hlocks hA hK hE n σ a2 (if (if 240 < 232 then 240 else 232) < a2 then (if 240 < 232 then 240 else 232) else a2) 0 hw _ _ hP hD hS ls (lv_sub hl [2, 3, 4, 1, 0] rfl)
def wpl_copyA_L15 : Nat → (Int32 → Sg → Prop) → Sg → Nat → Int32 → Int32 → Int32 → Prop
  | 0, _, _, _, _, _, _ => False
  | n + 1, post, σ, k0, x2, x3, x4 => (((x3 ≤ x4) → post x3 σ) ∧ (¬ (x3 ≤ x4) → (vp_in x4 240 ∧ (vp_in x4 134 ∧ wpl_copyA_L15 n post (uB 1 k0 (upd (sB σ 1 k0) (x4).toNatClampNeg (vp_nar .byte ((sA σ 0) (x4).toNatClampNeg))) σ) k0 x2 x3 (x4 + 1)))))
def wp_copyA (post : Int32 → Sg → Prop) (σ : Sg) (k0 : Nat) (a2 : Int32) : Prop := (∃ n : Nat, wpl_copyA_L15 n post σ k0 a2 (if (if 240 < 134 then 240 else 134) < a2 then (if 240 < 134 then 240 else 134) else a2) 0)
set_option maxHeartbeats 4000000 in
set_option maxRecDepth 100000 in
theorem l_copyA_L15 {p : Program} {l : Launch} {e : Env} {s : State} {m : MethodId} {args : Array Value} {below : List Frame} {meth : Method} {c : Code} {D : va_G} {ca : Nat → ClassId} {ad : Nat → Nat → Nat} {A : Nat → Prop} (k0 : Nat) (hk0 : k0 < 8) {post : Int32 → Sg → Prop} (hx : p.tables.exec = Jvm.exec) (hb : c.code = cP_copyInto) (hr : meth.sig.returnType = (some .int)) (hml : c.maxLocals = 5) (hts : ∀ w ∈ tbG, w.before args s = true) (hown : s.vm.findClass RP = some m.cls) (hlocks : meth.locks = false) (hA : ∀ q : Nat, s.heap.size ≤ q → A q) (hK : va_K D clX (tyA ca) s) (hE : eX A s) : ∀ (n : Nat) (σ : Sg) (x2 : Int32) (x3 : Int32) (x4 : Int32), wpl_copyA_L15 n post σ k0 x2 x3 x4 → ∀ (H : Heap) (locs : List Loc), va_P D clX (wX ca ad σ) H → va_D A (wX ca ad σ) → va_S A s.heap H locs → ∀ ls : Array Slot, lv_has ls 5 [(0, .ref (ad 8 k0)), (1, .ref (ad 4 0)), (2, .int x2), (3, .int x3), (4, .int x4)] → W p l e (headSpec wsP_copyInto ({ frames := 1, cells := 0, slots := 0, locals := 21 })).room s m args below meth c H locs 0 0 (MQ below (va_Qi post (atX D ca ad A) A) args s 0 0 A) (F0 m 15 ls []) := by
  intro n
  induction n with
  | zero => intro σ x2 x3 x4 hw; exact hw.elim
  | succ n ih =>
    intro σ x2 x3 x4 hw H locs hP hD hS ls hl
    refine lv_iload hx hb dP_copyInto_15 (lv_at hl 4 rfl) ?_
    refine lv_iload_n hx hb dP_copyInto_17 rfl (lv_at hl 3 rfl) ?_
    refine lv_icmp_ge (tgt := 35) hx hb dP_copyInto_18 (by decide) (fun c1 => ?_) (fun c1 => ?_)
    · have hw := hw.1 c1
      refine lv_iload_n hx hb dP_copyInto_35 rfl (lv_at hl 3 rfl) ?_
      exact W.iret (v := x3) hx hb hr (fun t ht hW => ⟨⟨x3, σ, rfl, hw, by rw [ht]; exact hP, va_K.moved hW.alike hK, hD⟩, hS.F ht⟩) hS.2.2 dP_copyInto_36
    · have hw := hw.2 c1
      refine lv_aload_n hx hb dP_copyInto_21 rfl (lv_at hl 0 rfl) ?_
      refine lv_iload hx hb dP_copyInto_22 (lv_at hl 4 rfl) ?_
      refine lv_aload_n hx hb dP_copyInto_24 rfl (lv_at hl 1 rfl) ?_
      refine lv_iload hx hb dP_copyInto_25 (lv_at hl 4 rfl) ?_
      obtain ⟨hin2, hw⟩ := hw
      refine va_bald hx hb hK hP 4 1 gX_4 rfl hin2 dP_copyInto_27 ?_
      obtain ⟨hin3, hw⟩ := hw
      refine va_bast hx hb hK hP hD hS (6 + (8 + (8 + k0))) 1 (gX_8 hk0) rfl hin3 dP_copyInto_28 (fun H locs hP hD hS => ?_)
      rw [sX_8 hk0] at hP hD
      refine lv_iinc (v := x4 + 1) (lv' := [(4, .int (x4 + 1)), (0, .ref (ad 8 k0)), (1, .ref (ad 4 0)), (2, .int x2), (3, .int x3)]) hx hb dP_copyInto_29 hl (k := 4) rfl rfl (by decide) rfl (fun ls hl => ?_)
      refine lv_goto (tgt := 15) hx hb dP_copyInto_32 (by decide) ?_
      exact ih (uB 1 k0 (upd (sB σ 1 k0) (x4).toNatClampNeg (vp_nar .byte ((sA σ 0) (x4).toNatClampNeg))) σ) x2 x3 (x4 + 1) hw _ _ hP hD hS ls (lv_sub hl [1, 2, 3, 4, 0] rfl)
set_option maxHeartbeats 4000000 in
set_option maxRecDepth 100000 in
theorem c_copyA (l : Launch) (D : va_G) (ca : Nat → ClassId) (ad : Nat → Nat → Nat) (σ : Sg) (k0 : Nat) (hk0 : k0 < 8) (a2 : Int32) (sz : Nat) (post : Int32 → Sg → Prop) (hw : wp_copyA post σ k0 a2) : Met l yP_copyInto wsP_copyInto ({ frames := 1, cells := 0, slots := 0, locals := 21 }) (va_Pc [.ref (ad 8 k0), .ref (ad 4 0), .int a2] (preX D ca ad σ sz)) (va_Qi post (atX D ca ad (va_A (wX ca ad σ) sz)) (va_A (wX ca ad σ) sz)) 0 0 (va_A (wX ca ad σ) sz) := by
  refine Met.ofW (cc := cP_copyInto) (maxL := 5) (ret := (some .int)) (by decide) rfl ?_
  intro p e s m args below meth c s₁ B hml hv
  obtain ⟨rfl, hsz, hP, hK, hD0, hE⟩ := hv
  have hx := B.exec
  have hb := B.bytes
  have hr := B.returns
  have hts : ∀ w ∈ tbG, w.before _ s = true := fun w h => atoms_spec (ws := wsP_copyInto) B.pre w (List.mem_cons_of_mem _ h)
  have hown : s.vm.findClass RP = some m.cls := findClass_of_methodNamed B.named
  have hlocks := B.notSynchronized
  subst hsz
  have hD := hD0.self (sz := s.heap.size)
  generalize hAe : va_A (wX ca ad σ) s.heap.size = A at hD hE ⊢
  have hA : ∀ q : Nat, s.heap.size ≤ q → A q := fun q h => by rw [← hAe]; exact Or.inr h
  clear hAe
  have hS : va_S A s.heap s.heap [] := va_S.rf
  have hl := lv_entry ([.ref (ad 8 k0), .ref (ad 4 0), .int a2]) (n := 5) (Nat.le_of_ble_eq_true rfl)
  rw [lg_entry_eq]
  generalize (lg_sl ([.ref (ad 8 k0), .ref (ad 4 0), .int a2]) ++ List.replicate (5 - (lg_sl ([.ref (ad 8 k0), .ref (ad 4 0), .int a2])).length) Slot.unset).toArray = ls at hl ⊢
  have hl : lv_has ls 5 [(0, .ref (ad 8 k0)), (1, .ref (ad 4 0)), (2, .int a2)] := hl
  unfold wp_copyA at hw
  have hP : va_P D clX (wX ca ad σ) s.heap := hP
  refine lv_iload_n hx hb dP_copyInto_0 rfl (lv_at hl 2 rfl) ?_
  refine lv_aload_n hx hb dP_copyInto_1 rfl (lv_at hl 0 rfl) ?_
  refine va_alen (v := 134) hx hb hK hP (6 + (8 + (8 + k0))) 1 (gX_8 hk0) rfl (show Int32.ofNat 134 = (134 : Int32) from by decide) dP_copyInto_2 ?_
  refine lv_aload_n hx hb dP_copyInto_3 rfl (lv_at hl 1 rfl) ?_
  refine va_alen (v := 240) hx hb hK hP 4 1 gX_4 rfl (show Int32.ofNat 240 = (240 : Int32) from by decide) dP_copyInto_4 ?_
  refine va_mmin hx hb (hml.trans hl.1.symm) hown (hts _ tw_439) (hts _ tw_425) (hts _ tw_16) (hts _ tw_426) (by decide) (Nat.le_of_ble_eq_true rfl) (by decide) (by decide) dP_copyInto_5 ?_
  refine va_mmin hx hb (hml.trans hl.1.symm) hown (hts _ tw_439) (hts _ tw_425) (hts _ tw_16) (hts _ tw_426) (by decide) (Nat.le_of_ble_eq_true rfl) (by decide) (by decide) dP_copyInto_8 ?_
  refine lv_istore_n (lv' := [(3, .int (if (if 240 < 134 then 240 else 134) < a2 then (if 240 < 134 then 240 else 134) else a2)), (0, .ref (ad 8 k0)), (1, .ref (ad 4 0)), (2, .int a2)]) hx hb dP_copyInto_11 rfl hl (by decide) rfl (fun ls hl => ?_)
  refine lv_iconst (v := 0) hx hb dP_copyInto_12 (by decide) ?_
  refine lv_istore (lv' := [(4, .int 0), (3, .int (if (if 240 < 134 then 240 else 134) < a2 then (if 240 < 134 then 240 else 134) else a2)), (0, .ref (ad 8 k0)), (1, .ref (ad 4 0)), (2, .int a2)]) hx hb dP_copyInto_13 hl (by decide) rfl (fun ls hl => ?_)
  obtain ⟨n, hw⟩ := hw
  exact l_copyA_L15 (D := D) (ca := ca) (ad := ad) k0 hk0 hx hb hr hml hts hown hlocks hA hK hE n σ a2 (if (if 240 < 134 then 240 else 134) < a2 then (if 240 < 134 then 240 else 134) else a2) 0 hw _ _ hP hD hS ls (lv_sub hl [2, 3, 4, 1, 0] rfl)
theorem dP_begin_0 : decode cP_begin 0 = .ok (.aload_n 0, 1) := by decide +kernel
theorem dP_begin_1 : decode cP_begin 1 = .ok (.aload_n 1, 1) := by decide +kernel
theorem dP_begin_2 : decode cP_begin 2 = .ok (.putfield 25, 3) := by decide +kernel
theorem dP_begin_5 : decode cP_begin 5 = .ok (.aload_n 0, 1) := by decide +kernel
theorem dP_begin_6 : decode cP_begin 6 = .ok (.aload_n 1, 1) := by decide +kernel
theorem dP_begin_7 : decode cP_begin 7 = .ok (.getfield 63, 3) := by decide +kernel
theorem dP_begin_10 : decode cP_begin 10 = .ok (.putfield 29, 3) := by decide +kernel
theorem dP_begin_13 : decode cP_begin 13 = .ok (.aload_n 0, 1) := by decide +kernel
theorem dP_begin_14 : decode cP_begin 14 = .ok (.iconst 0, 1) := by decide +kernel
theorem dP_begin_15 : decode cP_begin 15 = .ok (.putfield 44, 3) := by decide +kernel
theorem dP_begin_18 : decode cP_begin 18 = .ok (.aload_n 0, 1) := by decide +kernel
theorem dP_begin_19 : decode cP_begin 19 = .ok (.aload_n 0, 1) := by decide +kernel
theorem dP_begin_20 : decode cP_begin 20 = .ok (.getfield 9, 3) := by decide +kernel
theorem dP_begin_23 : decode cP_begin 23 = .ok (.aload_n 2, 1) := by decide +kernel
theorem dP_begin_24 : decode cP_begin 24 = .ok (.iload_n 3, 1) := by decide +kernel
theorem dP_begin_25 : decode cP_begin 25 = .ok (.invokestatic 66, 3) := by decide +kernel
theorem dP_begin_28 : decode cP_begin 28 = .ok (.putfield 18, 3) := by decide +kernel
theorem dP_begin_31 : decode cP_begin 31 = .ok (.return_, 1) := by decide +kernel
def wp_begin (post : Sg → Prop) (σ : Sg) (i : Nat) (k0 : Nat) (a2 : Int32) : Prop := (i < 8 ∧ wp_copyD (fun r3 s2 => post (uF 3 i r3 s2)) (uF 11 i 0 (uF 6 i (sH σ 1 k0) (uR i (some k0) σ))) i a2)
set_option maxHeartbeats 4000000 in
set_option maxRecDepth 100000 in
theorem c_begin (l : Launch) (D : va_G) (ca : Nat → ClassId) (ad : Nat → Nat → Nat) (σ : Sg) (i : Nat) (hi : i < 8) (k0 : Nat) (hk0 : k0 < sN σ) (a2 : Int32) (sz : Nat) (post : Sg → Prop) (hw : wp_begin post σ i k0 a2) : Met l yP_begin wsP_begin ({ frames := 2, cells := 0, slots := 0, locals := 45 }) (va_Pc [.ref (ad 6 i), .ref (ad 10 k0), .ref (ad 4 0), .int a2] (preX D ca ad σ sz)) (va_Qv post (atX D ca ad (va_A (wX ca ad σ) sz)) (va_A (wX ca ad σ) sz)) 0 0 (va_A (wX ca ad σ) sz) := by
  refine Met.ofW (cc := cP_begin) (maxL := 4) (ret := none) (by decide) rfl ?_
  intro p e s m args below meth c s₁ B hml hv
  obtain ⟨rfl, hsz, hP, hK, hD0, hE⟩ := hv
  have hx := B.exec
  have hb := B.bytes
  have hr := B.returns
  have hts : ∀ w ∈ tbG, w.before _ s = true := fun w h => atoms_spec (ws := wsP_begin) B.pre w (List.mem_cons_of_mem _ h)
  have hown : s.vm.findClass RP = some m.cls := findClass_of_methodNamed B.named
  have hlocks := B.notSynchronized
  subst hsz
  have hD := hD0.self (sz := s.heap.size)
  generalize hAe : va_A (wX ca ad σ) s.heap.size = A at hD hE ⊢
  have hA : ∀ q : Nat, s.heap.size ≤ q → A q := fun q h => by rw [← hAe]; exact Or.inr h
  clear hAe
  have hS : va_S A s.heap s.heap [] := va_S.rf
  have hl := lv_entry ([.ref (ad 6 i), .ref (ad 10 k0), .ref (ad 4 0), .int a2]) (n := 4) (Nat.le_of_ble_eq_true rfl)
  rw [lg_entry_eq]
  generalize (lg_sl ([.ref (ad 6 i), .ref (ad 10 k0), .ref (ad 4 0), .int a2]) ++ List.replicate (4 - (lg_sl ([.ref (ad 6 i), .ref (ad 10 k0), .ref (ad 4 0), .int a2])).length) Slot.unset).toArray = ls at hl ⊢
  have hl : lv_has ls 4 [(0, .ref (ad 6 i)), (1, .ref (ad 10 k0)), (2, .ref (ad 4 0)), (3, .int a2)] := hl
  unfold wp_begin at hw
  have hP : va_P D clX (wX ca ad σ) s.heap := hP
  refine lv_aload_n hx hb dP_begin_0 rfl (lv_at hl 0 rfl) ?_
  refine lv_aload_n hx hb dP_begin_1 rfl (lv_at hl 1 rfl) ?_
  refine va_put (D := D) (ci := 1) (v := .ref (ad 10 k0)) (ty := (.object "PatronHall$Asking")) (C := RP) (T := TP) (N := 16) hx hb hts inP tyP tyP_ok nmP hown hK hP hD hS (6 + i) (gX_6 hi) rfl 5 (by decide) (hts _ tw_88) (fun _ h9 => h9) rfl (by decide +kernel) rfl rfl (Nat.le_of_ble_eq_true rfl) dP_begin_2 (fun H locs hP hD hS => ?_)
  rw [sX_6_ask hi] at hP hD
  refine lv_aload_n hx hb dP_begin_5 rfl (lv_at hl 0 rfl) ?_
  refine lv_aload_n hx hb dP_begin_6 rfl (lv_at hl 1 rfl) ?_
  refine va_get (D := D) (ci := 2) (v := .int (sH σ 1 k0)) (C := RQ) (T := TQ) (N := 6) hx hb hts inQ hown hK hP (6 + (8 + (8 + (8 + k0)))) (gX_10 hk0) rfl 1 (by decide) (hts _ tw_353) (fun _ h9 => h9) rfl dP_begin_7 ?_
  refine va_put (D := D) (ci := 1) (v := .int (sH σ 1 k0)) (ty := .int) (C := RP) (T := TP) (N := 16) hx hb hts inP tyP tyP_ok nmP hown hK hP hD hS (6 + i) (gX_6 hi) rfl 6 (by decide) (hts _ tw_90) (fun _ h9 => h9) rfl (by decide +kernel) rfl rfl (Nat.le_of_ble_eq_true rfl) dP_begin_10 (fun H locs hP hD hS => ?_)
  rw [sX_6_6 hi] at hP hD
  refine lv_aload_n hx hb dP_begin_13 rfl (lv_at hl 0 rfl) ?_
  refine lv_iconst (v := 0) hx hb dP_begin_14 (by decide) ?_
  refine va_put (D := D) (ci := 1) (v := .int 0) (ty := .int) (C := RP) (T := TP) (N := 16) hx hb hts inP tyP tyP_ok nmP hown hK hP hD hS (6 + i) (gX_6 hi) rfl 11 (by decide) (hts _ tw_105) (fun _ h9 => h9) rfl (by decide +kernel) rfl rfl (Nat.le_of_ble_eq_true rfl) dP_begin_15 (fun H locs hP hD hS => ?_)
  rw [sX_6_11 hi] at hP hD
  refine lv_aload_n hx hb dP_begin_18 rfl (lv_at hl 0 rfl) ?_
  refine lv_aload_n hx hb dP_begin_19 rfl (lv_at hl 0 rfl) ?_
  refine va_get (D := D) (ci := 1) (v := .ref (ad 7 i)) (C := RP) (T := TP) (N := 16) hx hb hts inP hown hK hP (6 + i) (gX_6 hi) rfl 1 (by decide) (hts _ tw_79) (fun _ h9 => h9) rfl dP_begin_20 ?_
  refine lv_aload_n hx hb dP_begin_23 rfl (lv_at hl 2 rfl) ?_
  refine lv_iload_n hx hb dP_begin_24 rfl (lv_at hl 3 rfl) ?_
  obtain ⟨hb1, hw⟩ := hw
  have hFc := px_free hD hS hA
  refine va_calli (va_runS (As := [.ref (ad 7 i), .ref (ad 4 0), .int a2]) (rest := [.ref (ad 6 i)]) ⟨hx, hb, hml, hown, hts⟩ (c_copyD l D ca ad (uF 11 i 0 (uF 6 i (sH σ 1 k0) (uR i (some k0) σ))) i hb1 a2 _ _ hw) (va_cwS 3 hts (gS tw_436 tw_437 tw_6 tw_438) rfl rfl rfl (by decide +kernel) ⟨Nat.le_of_ble_eq_true rfl, Nat.le_of_ble_eq_true rfl⟩) ⟨px_blind, fun U hU hW => px_pre hP hK hD hE hS hFc hU hW⟩ rfl rfl hl.1 rfl (lv_room (Nat.le_of_ble_eq_true rfl)) dP_begin_25 ⟨Nat.le_of_ble_eq_true rfl, Nat.le_of_ble_eq_true rfl⟩) hS (fun q _ h => hFc q h) hFc (fun r3 s2 t H locs ht hvm hw hB _ _ hS => ?_)
  obtain ⟨hP, -, hD⟩ := hB
  rw [ht] at hP
  have hD := hD.weaken (fun _ _ _ h9 => hFc _ h9)
  refine va_put (D := D) (ci := 1) (v := .int r3) (ty := .int) (C := RP) (T := TP) (N := 16) hx hb hts inP tyP tyP_ok nmP hown hK hP hD hS (6 + i) (gX_6 hi) rfl 3 (by decide) (hts _ tw_83) (fun _ h9 => h9) rfl (by decide +kernel) rfl rfl (Nat.le_of_ble_eq_true rfl) dP_begin_28 (fun H locs hP hD hS => ?_)
  rw [sX_6_3 hi] at hP hD
  exact W.vret hx hb hr (fun t ht hW => ⟨⟨(uF 3 i r3 s2), rfl, hw, by rw [ht]; exact hP, va_K.moved hW.alike hK, hD⟩, hS.F ht⟩) hS.2.2 dP_begin_31
theorem dP_keepAnswer_0 : decode cP_keepAnswer 0 = .ok (.aload_n 0, 1) := by decide +kernel
theorem dP_keepAnswer_1 : decode cP_keepAnswer 1 = .ok (.aload_n 0, 1) := by decide +kernel
theorem dP_keepAnswer_2 : decode cP_keepAnswer 2 = .ok (.getfield 15, 3) := by decide +kernel
theorem dP_keepAnswer_5 : decode cP_keepAnswer 5 = .ok (.aload_n 1, 1) := by decide +kernel
theorem dP_keepAnswer_6 : decode cP_keepAnswer 6 = .ok (.iload_n 2, 1) := by decide +kernel
theorem dP_keepAnswer_7 : decode cP_keepAnswer 7 = .ok (.invokestatic 66, 3) := by decide +kernel
theorem dP_keepAnswer_10 : decode cP_keepAnswer 10 = .ok (.putfield 22, 3) := by decide +kernel
theorem dP_keepAnswer_13 : decode cP_keepAnswer 13 = .ok (.return_, 1) := by decide +kernel
def wp_keepAnswer (post : Sg → Prop) (σ : Sg) (i : Nat) (a1 : Int32) : Prop := (i < 8 ∧ wp_copyA (fun r3 s2 => post (uF 4 i r3 s2)) σ i a1)
set_option maxHeartbeats 4000000 in
set_option maxRecDepth 100000 in
theorem c_keepAnswer (l : Launch) (D : va_G) (ca : Nat → ClassId) (ad : Nat → Nat → Nat) (σ : Sg) (i : Nat) (hi : i < 8) (a1 : Int32) (sz : Nat) (post : Sg → Prop) (hw : wp_keepAnswer post σ i a1) : Met l yP_keepAnswer wsP_keepAnswer ({ frames := 2, cells := 0, slots := 0, locals := 45 }) (va_Pc [.ref (ad 6 i), .ref (ad 4 0), .int a1] (preX D ca ad σ sz)) (va_Qv post (atX D ca ad (va_A (wX ca ad σ) sz)) (va_A (wX ca ad σ) sz)) 0 0 (va_A (wX ca ad σ) sz) := by
  refine Met.ofW (cc := cP_keepAnswer) (maxL := 3) (ret := none) (by decide) rfl ?_
  intro p e s m args below meth c s₁ B hml hv
  obtain ⟨rfl, hsz, hP, hK, hD0, hE⟩ := hv
  have hx := B.exec
  have hb := B.bytes
  have hr := B.returns
  have hts : ∀ w ∈ tbG, w.before _ s = true := fun w h => atoms_spec (ws := wsP_keepAnswer) B.pre w (List.mem_cons_of_mem _ h)
  have hown : s.vm.findClass RP = some m.cls := findClass_of_methodNamed B.named
  have hlocks := B.notSynchronized
  subst hsz
  have hD := hD0.self (sz := s.heap.size)
  generalize hAe : va_A (wX ca ad σ) s.heap.size = A at hD hE ⊢
  have hA : ∀ q : Nat, s.heap.size ≤ q → A q := fun q h => by rw [← hAe]; exact Or.inr h
  clear hAe
  have hS : va_S A s.heap s.heap [] := va_S.rf
  have hl := lv_entry ([.ref (ad 6 i), .ref (ad 4 0), .int a1]) (n := 3) (Nat.le_of_ble_eq_true rfl)
  rw [lg_entry_eq]
  generalize (lg_sl ([.ref (ad 6 i), .ref (ad 4 0), .int a1]) ++ List.replicate (3 - (lg_sl ([.ref (ad 6 i), .ref (ad 4 0), .int a1])).length) Slot.unset).toArray = ls at hl ⊢
  have hl : lv_has ls 3 [(0, .ref (ad 6 i)), (1, .ref (ad 4 0)), (2, .int a1)] := hl
  unfold wp_keepAnswer at hw
  have hP : va_P D clX (wX ca ad σ) s.heap := hP
  refine lv_aload_n hx hb dP_keepAnswer_0 rfl (lv_at hl 0 rfl) ?_
  refine lv_aload_n hx hb dP_keepAnswer_1 rfl (lv_at hl 0 rfl) ?_
  refine va_get (D := D) (ci := 1) (v := .ref (ad 8 i)) (C := RP) (T := TP) (N := 16) hx hb hts inP hown hK hP (6 + i) (gX_6 hi) rfl 2 (by decide) (hts _ tw_81) (fun _ h9 => h9) rfl dP_keepAnswer_2 ?_
  refine lv_aload_n hx hb dP_keepAnswer_5 rfl (lv_at hl 1 rfl) ?_
  refine lv_iload_n hx hb dP_keepAnswer_6 rfl (lv_at hl 2 rfl) ?_
  obtain ⟨hb1, hw⟩ := hw
  have hFc := px_free hD hS hA
  refine va_calli (va_runS (As := [.ref (ad 8 i), .ref (ad 4 0), .int a1]) (rest := [.ref (ad 6 i)]) ⟨hx, hb, hml, hown, hts⟩ (c_copyA l D ca ad σ i hb1 a1 _ _ hw) (va_cwS 3 hts (gS tw_436 tw_437 tw_6 tw_438) rfl rfl rfl (by decide +kernel) ⟨Nat.le_of_ble_eq_true rfl, Nat.le_of_ble_eq_true rfl⟩) ⟨px_blind, fun U hU hW => px_pre hP hK hD hE hS hFc hU hW⟩ rfl rfl hl.1 rfl (lv_room (Nat.le_of_ble_eq_true rfl)) dP_keepAnswer_7 ⟨Nat.le_of_ble_eq_true rfl, Nat.le_of_ble_eq_true rfl⟩) hS (fun q _ h => hFc q h) hFc (fun r3 s2 t H locs ht hvm hw hB _ _ hS => ?_)
  obtain ⟨hP, -, hD⟩ := hB
  rw [ht] at hP
  have hD := hD.weaken (fun _ _ _ h9 => hFc _ h9)
  refine va_put (D := D) (ci := 1) (v := .int r3) (ty := .int) (C := RP) (T := TP) (N := 16) hx hb hts inP tyP tyP_ok nmP hown hK hP hD hS (6 + i) (gX_6 hi) rfl 4 (by decide) (hts _ tw_86) (fun _ h9 => h9) rfl (by decide +kernel) rfl rfl (Nat.le_of_ble_eq_true rfl) dP_keepAnswer_10 (fun H locs hP hD hS => ?_)
  rw [sX_6_4 hi] at hP hD
  exact W.vret hx hb hr (fun t ht hW => ⟨⟨(uF 4 i r3 s2), rfl, hw, by rw [ht]; exact hP, va_K.moved hW.alike hK, hD⟩, hS.F ht⟩) hS.2.2 dP_keepAnswer_13
theorem dG_cell_0 : decode cG_cell 0 = .ok (.iload_n 1, 1) := by decide +kernel
theorem dG_cell_1 : decode cG_cell 1 = .ok (.ifCond .lt 27, 3) := by decide +kernel
theorem dG_cell_4 : decode cG_cell 4 = .ok (.iload_n 1, 1) := by decide +kernel
theorem dG_cell_5 : decode cG_cell 5 = .ok (.bipush 64, 2) := by decide +kernel
theorem dG_cell_7 : decode cG_cell 7 = .ok (.if_icmp .ge 21, 3) := by decide +kernel
theorem dG_cell_10 : decode cG_cell 10 = .ok (.iload_n 1, 1) := by decide +kernel
theorem dG_cell_11 : decode cG_cell 11 = .ok (.aload_n 0, 1) := by decide +kernel
theorem dG_cell_12 : decode cG_cell 12 = .ok (.getfield 15, 3) := by decide +kernel
theorem dG_cell_15 : decode cG_cell 15 = .ok (.if_icmp .ge 13, 3) := by decide +kernel
theorem dG_cell_18 : decode cG_cell 18 = .ok (.iload_n 2, 1) := by decide +kernel
theorem dG_cell_19 : decode cG_cell 19 = .ok (.ifCond .lt 9, 3) := by decide +kernel
theorem dG_cell_22 : decode cG_cell 22 = .ok (.iload_n 2, 1) := by decide +kernel
theorem dG_cell_23 : decode cG_cell 23 = .ok (.bipush 8, 2) := by decide +kernel
theorem dG_cell_25 : decode cG_cell 25 = .ok (.if_icmp .lt 5, 3) := by decide +kernel
theorem dG_cell_28 : decode cG_cell 28 = .ok (.iconst (-1), 1) := by decide +kernel
theorem dG_cell_29 : decode cG_cell 29 = .ok (.ireturn, 1) := by decide +kernel
theorem dG_cell_30 : decode cG_cell 30 = .ok (.aload_n 0, 1) := by decide +kernel
theorem dG_cell_31 : decode cG_cell 31 = .ok (.getfield 11, 3) := by decide +kernel
theorem dG_cell_34 : decode cG_cell 34 = .ok (.aload_n 0, 1) := by decide +kernel
theorem dG_cell_35 : decode cG_cell 35 = .ok (.getfield 15, 3) := by decide +kernel
theorem dG_cell_38 : decode cG_cell 38 = .ok (.iconst 1, 1) := by decide +kernel
theorem dG_cell_39 : decode cG_cell 39 = .ok (.isub, 1) := by decide +kernel
theorem dG_cell_40 : decode cG_cell 40 = .ok (.iload_n 1, 1) := by decide +kernel
theorem dG_cell_41 : decode cG_cell 41 = .ok (.isub, 1) := by decide +kernel
theorem dG_cell_42 : decode cG_cell 42 = .ok (.invokestatic 32, 3) := by decide +kernel
theorem dG_cell_45 : decode cG_cell 45 = .ok (.iload_n 2, 1) := by decide +kernel
theorem dG_cell_46 : decode cG_cell 46 = .ok (.iadd, 1) := by decide +kernel
theorem dG_cell_47 : decode cG_cell 47 = .ok (.iaload, 1) := by decide +kernel
theorem dG_cell_48 : decode cG_cell 48 = .ok (.ireturn, 1) := by decide +kernel
def wp_cell (post : Int32 → Sg → Prop) (σ : Sg) (a0 : Int32) (a1 : Int32) : Prop := (((a0 < 0) → post (-1) σ) ∧ (¬ (a0 < 0) → (((64 ≤ a0) → post (-1) σ) ∧ (¬ (64 ≤ a0) → ((((sG σ 4) ≤ a0) → post (-1) σ) ∧ (¬ ((sG σ 4) ≤ a0) → (((a1 < 0) → post (-1) σ) ∧ (¬ (a1 < 0) → (((a1 < 8) → wp_firstCell (fun r7 s6 => (vp_in (r7 + a1) 512 ∧ post ((sA s6 1) (r7 + a1).toNatClampNeg) s6)) σ (((sG σ 4) - 1) - a0)) ∧ (¬ (a1 < 8) → post (-1) σ))))))))))
set_option maxHeartbeats 4000000 in
set_option maxRecDepth 100000 in
theorem c_cell (l : Launch) (D : va_G) (ca : Nat → ClassId) (ad : Nat → Nat → Nat) (σ : Sg) (a0 : Int32) (a1 : Int32) (sz : Nat) (post : Int32 → Sg → Prop) (hw : wp_cell post σ a0 a1) : Met l yG_cell wsG_cell ({ frames := 1, cells := 0, slots := 0, locals := 20 }) (va_Pc [.ref (ad 3 0), .int a0, .int a1] (preX D ca ad σ sz)) (va_Qi post (atX D ca ad (va_A (wX ca ad σ) sz)) (va_A (wX ca ad σ) sz)) 0 0 (va_A (wX ca ad σ) sz) := by
  refine Met.ofW (cc := cG_cell) (maxL := 3) (ret := (some .int)) (by decide) rfl ?_
  intro p e s m args below meth c s₁ B hml hv
  obtain ⟨rfl, hsz, hP, hK, hD0, hE⟩ := hv
  have hx := B.exec
  have hb := B.bytes
  have hr := B.returns
  have hts : ∀ w ∈ tbG, w.before _ s = true := fun w h => atoms_spec (ws := wsG_cell) B.pre w (List.mem_cons_of_mem _ h)
  have hown : s.vm.findClass RG = some m.cls := findClass_of_methodNamed B.named
  have hlocks := B.notSynchronized
  subst hsz
  have hD := hD0.self (sz := s.heap.size)
  generalize hAe : va_A (wX ca ad σ) s.heap.size = A at hD hE ⊢
  have hA : ∀ q : Nat, s.heap.size ≤ q → A q := fun q h => by rw [← hAe]; exact Or.inr h
  clear hAe
  have hS : va_S A s.heap s.heap [] := va_S.rf
  have hl := lv_entry ([.ref (ad 3 0), .int a0, .int a1]) (n := 3) (Nat.le_of_ble_eq_true rfl)
  rw [lg_entry_eq]
  generalize (lg_sl ([.ref (ad 3 0), .int a0, .int a1]) ++ List.replicate (3 - (lg_sl ([.ref (ad 3 0), .int a0, .int a1])).length) Slot.unset).toArray = ls at hl ⊢
  have hl : lv_has ls 3 [(0, .ref (ad 3 0)), (1, .int a0), (2, .int a1)] := hl
  unfold wp_cell at hw
  have hP : va_P D clX (wX ca ad σ) s.heap := hP
  refine lv_iload_n hx hb dG_cell_0 rfl (lv_at hl 1 rfl) ?_
  refine lv_if_lt (tgt := 28) hx hb dG_cell_1 (by decide) (fun c1 => ?_) (fun c1 => ?_)
  · have hw := hw.1 c1
    refine lv_iconst (v := (-1)) hx hb dG_cell_28 (by decide) ?_
    exact W.iret (v := (-1)) hx hb hr (fun t ht hW => ⟨⟨(-1), σ, rfl, hw, by rw [ht]; exact hP, va_K.moved hW.alike hK, hD⟩, hS.F ht⟩) hS.2.2 dG_cell_29
  · have hw := hw.2 c1
    refine lv_iload_n hx hb dG_cell_4 rfl (lv_at hl 1 rfl) ?_
    refine lv_bipush (v := 64) hx hb dG_cell_5 (by decide) ?_
    refine lv_icmp_ge (tgt := 28) hx hb dG_cell_7 (by decide) (fun c2 => ?_) (fun c2 => ?_)
    · have hw := hw.1 c2
      refine lv_iconst (v := (-1)) hx hb dG_cell_28 (by decide) ?_
      exact W.iret (v := (-1)) hx hb hr (fun t ht hW => ⟨⟨(-1), σ, rfl, hw, by rw [ht]; exact hP, va_K.moved hW.alike hK, hD⟩, hS.F ht⟩) hS.2.2 dG_cell_29
    · have hw := hw.2 c2
      refine lv_iload_n hx hb dG_cell_10 rfl (lv_at hl 1 rfl) ?_
      refine lv_aload_n hx hb dG_cell_11 rfl (lv_at hl 0 rfl) ?_
      refine va_get (D := D) (ci := 3) (v := .int (sG σ 4)) (C := RG) (T := TG) (N := 2) hx hb hts inG hown hK hP 3 gX_3 rfl 1 (by decide) (hts _ tw_64) (fun _ h9 => h9) rfl dG_cell_12 ?_
      refine lv_icmp_ge (tgt := 28) hx hb dG_cell_15 (by decide) (fun c3 => ?_) (fun c3 => ?_)
      · have hw := hw.1 c3
        refine lv_iconst (v := (-1)) hx hb dG_cell_28 (by decide) ?_
        exact W.iret (v := (-1)) hx hb hr (fun t ht hW => ⟨⟨(-1), σ, rfl, hw, by rw [ht]; exact hP, va_K.moved hW.alike hK, hD⟩, hS.F ht⟩) hS.2.2 dG_cell_29
      · have hw := hw.2 c3
        refine lv_iload_n hx hb dG_cell_18 rfl (lv_at hl 2 rfl) ?_
        refine lv_if_lt (tgt := 28) hx hb dG_cell_19 (by decide) (fun c4 => ?_) (fun c4 => ?_)
        · have hw := hw.1 c4
          refine lv_iconst (v := (-1)) hx hb dG_cell_28 (by decide) ?_
          exact W.iret (v := (-1)) hx hb hr (fun t ht hW => ⟨⟨(-1), σ, rfl, hw, by rw [ht]; exact hP, va_K.moved hW.alike hK, hD⟩, hS.F ht⟩) hS.2.2 dG_cell_29
        · have hw := hw.2 c4
          refine lv_iload_n hx hb dG_cell_22 rfl (lv_at hl 2 rfl) ?_
          refine lv_bipush (v := 8) hx hb dG_cell_23 (by decide) ?_
          refine lv_icmp_lt (tgt := 30) hx hb dG_cell_25 (by decide) (fun c5 => ?_) (fun c5 => ?_)
          · have hw := hw.1 c5
            refine lv_aload_n hx hb dG_cell_30 rfl (lv_at hl 0 rfl) ?_
            refine va_get (D := D) (ci := 3) (v := .ref (ad 5 0)) (C := RG) (T := TG) (N := 2) hx hb hts inG hown hK hP 3 gX_3 rfl 0 (by decide) (hts _ tw_63) (fun _ h9 => h9) rfl dG_cell_31 ?_
            refine lv_aload_n hx hb dG_cell_34 rfl (lv_at hl 0 rfl) ?_
            refine va_get (D := D) (ci := 3) (v := .int (sG σ 4)) (C := RG) (T := TG) (N := 2) hx hb hts inG hown hK hP 3 gX_3 rfl 1 (by decide) (hts _ tw_64) (fun _ h9 => h9) rfl dG_cell_35 ?_
            refine lv_iconst (v := 1) hx hb dG_cell_38 (by decide) ?_
            refine lv_isub hx hb dG_cell_39 ?_
            refine lv_iload_n hx hb dG_cell_40 rfl (lv_at hl 1 rfl) ?_
            refine lv_isub hx hb dG_cell_41 ?_
            have hFc := px_free hD hS hA
            refine va_calli (va_runS (As := [.int (((sG σ 4) - 1) - a0)]) (rest := [.ref (ad 5 0)]) ⟨hx, hb, hml, hown, hts⟩ (c_firstCell l D ca ad σ (((sG σ 4) - 1) - a0) _ _ hw) (va_cwS 1 hts (gS tw_183 tw_184 tw_5 tw_185) rfl rfl rfl (by decide +kernel) ⟨Nat.le_of_ble_eq_true rfl, Nat.le_of_ble_eq_true rfl⟩) ⟨px_blind, fun U hU hW => px_pre hP hK hD hE hS hFc hU hW⟩ rfl rfl hl.1 rfl (lv_room (Nat.le_of_ble_eq_true rfl)) dG_cell_42 ⟨Nat.le_of_ble_eq_true rfl, Nat.le_of_ble_eq_true rfl⟩) hS (fun q _ h => hFc q h) hFc (fun r7 s6 t H locs ht hvm hw hB _ _ hS => ?_)
            obtain ⟨hP, -, hD⟩ := hB
            rw [ht] at hP
            have hD := hD.weaken (fun _ _ _ h9 => hFc _ h9)
            refine lv_iload_n hx hb dG_cell_45 rfl (lv_at hl 2 rfl) ?_
            refine lv_iadd hx hb dG_cell_46 ?_
            obtain ⟨hin8, hw⟩ := hw
            refine va_iald hx hb hK hP 5 0 gX_5 rfl hin8 dG_cell_47 ?_
            exact W.iret (v := ((sA s6 1) (r7 + a1).toNatClampNeg)) hx hb hr (fun t ht hW => ⟨⟨((sA s6 1) (r7 + a1).toNatClampNeg), s6, rfl, hw, by rw [ht]; exact hP, va_K.moved hW.alike hK, hD⟩, hS.F ht⟩) hS.2.2 dG_cell_48
          · have hw := hw.2 c5
            refine lv_iconst (v := (-1)) hx hb dG_cell_28 (by decide) ?_
            exact W.iret (v := (-1)) hx hb hr (fun t ht hW => ⟨⟨(-1), σ, rfl, hw, by rw [ht]; exact hP, va_K.moved hW.alike hK, hD⟩, hS.F ht⟩) hS.2.2 dG_cell_29
theorem dH_makeAlarm_0 : decode cH_makeAlarm 0 = .ok (.aload_n 1, 1) := by decide +kernel
theorem dH_makeAlarm_1 : decode cH_makeAlarm 1 = .ok (.aload_n 0, 1) := by decide +kernel
theorem dH_makeAlarm_2 : decode cH_makeAlarm 2 = .ok (.getfield 37, 3) := by decide +kernel
theorem dH_makeAlarm_5 : decode cH_makeAlarm 5 = .ok (.iload_n 2, 1) := by decide +kernel
theorem dH_makeAlarm_6 : decode cH_makeAlarm 6 = .ok (.iadd, 1) := by decide +kernel
theorem dH_makeAlarm_7 : decode cH_makeAlarm 7 = .ok (.putfield 146, 3) := by decide +kernel
theorem dH_makeAlarm_10 : decode cH_makeAlarm 10 = .ok (.aload_n 1, 1) := by decide +kernel
theorem dH_makeAlarm_11 : decode cH_makeAlarm 11 = .ok (.aload_n 0, 1) := by decide +kernel
theorem dH_makeAlarm_12 : decode cH_makeAlarm 12 = .ok (.getfield 43, 3) := by decide +kernel
theorem dH_makeAlarm_15 : decode cH_makeAlarm 15 = .ok (.putfield 237, 3) := by decide +kernel
theorem dH_makeAlarm_18 : decode cH_makeAlarm 18 = .ok (.aload_n 1, 1) := by decide +kernel
theorem dH_makeAlarm_19 : decode cH_makeAlarm 19 = .ok (.iload_n 3, 1) := by decide +kernel
theorem dH_makeAlarm_20 : decode cH_makeAlarm 20 = .ok (.putfield 165, 3) := by decide +kernel
theorem dH_makeAlarm_23 : decode cH_makeAlarm 23 = .ok (.aload_n 0, 1) := by decide +kernel
theorem dH_makeAlarm_24 : decode cH_makeAlarm 24 = .ok (.dup, 1) := by decide +kernel
theorem dH_makeAlarm_25 : decode cH_makeAlarm 25 = .ok (.getfield 43, 3) := by decide +kernel
theorem dH_makeAlarm_28 : decode cH_makeAlarm 28 = .ok (.iconst 1, 1) := by decide +kernel
theorem dH_makeAlarm_29 : decode cH_makeAlarm 29 = .ok (.iadd, 1) := by decide +kernel
theorem dH_makeAlarm_30 : decode cH_makeAlarm 30 = .ok (.putfield 43, 3) := by decide +kernel
theorem dH_makeAlarm_33 : decode cH_makeAlarm 33 = .ok (.return_, 1) := by decide +kernel
def wp_makeAlarm (post : Sg → Prop) (σ : Sg) (k0 : Nat) (a1 : Int32) (a2 : Int32) : Prop := ((narrow .boolean (.int a2) = .int a2 ∧ fits .boolean (.int a2) = true) ∧ post (uG 3 ((sG σ 3) + 1) (uF 15 k0 a2 (uF 14 k0 (sG σ 3) (uF 13 k0 ((sG σ 1) + a1) σ)))))
set_option maxHeartbeats 4000000 in
set_option maxRecDepth 100000 in
theorem c_makeAlarm (l : Launch) (D : va_G) (ca : Nat → ClassId) (ad : Nat → Nat → Nat) (σ : Sg) (k0 : Nat) (hk0 : k0 < 8) (a1 : Int32) (a2 : Int32) (sz : Nat) (post : Sg → Prop) (hw : wp_makeAlarm post σ k0 a1 a2) : Met l yH_makeAlarm wsH_makeAlarm ({ frames := 0, cells := 0, slots := 0, locals := 0 }) (va_Pc [.ref (ad 0 0), .ref (ad 6 k0), .int a1, .int a2] (preX D ca ad σ sz)) (va_Qv post (atX D ca ad (va_A (wX ca ad σ) sz)) (va_A (wX ca ad σ) sz)) 0 0 (va_A (wX ca ad σ) sz) := by
  refine Met.ofW (cc := cH_makeAlarm) (maxL := 4) (ret := none) (by decide) rfl ?_
  intro p e s m args below meth c s₁ B hml hv
  obtain ⟨rfl, hsz, hP, hK, hD0, hE⟩ := hv
  have hx := B.exec
  have hb := B.bytes
  have hr := B.returns
  have hts : ∀ w ∈ tbG, w.before _ s = true := fun w h => atoms_spec (ws := wsH_makeAlarm) B.pre w (List.mem_cons_of_mem _ h)
  have hown : s.vm.findClass RH = some m.cls := findClass_of_methodNamed B.named
  have hlocks := B.notSynchronized
  subst hsz
  have hD := hD0.self (sz := s.heap.size)
  generalize hAe : va_A (wX ca ad σ) s.heap.size = A at hD hE ⊢
  have hA : ∀ q : Nat, s.heap.size ≤ q → A q := fun q h => by rw [← hAe]; exact Or.inr h
  clear hAe
  have hS : va_S A s.heap s.heap [] := va_S.rf
  have hl := lv_entry ([.ref (ad 0 0), .ref (ad 6 k0), .int a1, .int a2]) (n := 4) (Nat.le_of_ble_eq_true rfl)
  rw [lg_entry_eq]
  generalize (lg_sl ([.ref (ad 0 0), .ref (ad 6 k0), .int a1, .int a2]) ++ List.replicate (4 - (lg_sl ([.ref (ad 0 0), .ref (ad 6 k0), .int a1, .int a2])).length) Slot.unset).toArray = ls at hl ⊢
  have hl : lv_has ls 4 [(0, .ref (ad 0 0)), (1, .ref (ad 6 k0)), (2, .int a1), (3, .int a2)] := hl
  unfold wp_makeAlarm at hw
  have hP : va_P D clX (wX ca ad σ) s.heap := hP
  refine lv_aload_n hx hb dH_makeAlarm_0 rfl (lv_at hl 1 rfl) ?_
  refine lv_aload_n hx hb dH_makeAlarm_1 rfl (lv_at hl 0 rfl) ?_
  refine va_get (D := D) (ci := 0) (v := .int (sG σ 1)) (C := RH) (T := TH) (N := 8) hx hb hts inH hown hK hP 0 gX_0 rfl 5 (by decide) (hts _ tw_155) (fun _ h9 => h9) rfl dH_makeAlarm_2 ?_
  refine lv_iload_n hx hb dH_makeAlarm_5 rfl (lv_at hl 2 rfl) ?_
  refine lv_iadd hx hb dH_makeAlarm_6 ?_
  refine va_put (D := D) (ci := 1) (v := .int ((sG σ 1) + a1)) (ty := .int) (C := RP) (T := TP) (N := 16) hx hb hts inP tyP tyP_ok nmP hown hK hP hD hS (6 + k0) (gX_6 hk0) rfl 13 (by decide) (hts _ tw_111) (fun _ h9 => h9) rfl (by decide +kernel) rfl rfl (Nat.le_of_ble_eq_true rfl) dH_makeAlarm_7 (fun H locs hP hD hS => ?_)
  rw [sX_6_13 hk0] at hP hD
  refine lv_aload_n hx hb dH_makeAlarm_10 rfl (lv_at hl 1 rfl) ?_
  refine lv_aload_n hx hb dH_makeAlarm_11 rfl (lv_at hl 0 rfl) ?_
  refine va_get (D := D) (ci := 0) (v := .int (sG σ 3)) (C := RH) (T := TH) (N := 8) hx hb hts inH hown hK hP 0 gX_0 rfl 7 (by decide) (hts _ tw_157) (fun _ h9 => h9) rfl dH_makeAlarm_12 ?_
  refine va_put (D := D) (ci := 1) (v := .int (sG σ 3)) (ty := .int) (C := RP) (T := TP) (N := 16) hx hb hts inP tyP tyP_ok nmP hown hK hP hD hS (6 + k0) (gX_6 hk0) rfl 14 (by decide) (hts _ tw_113) (fun _ h9 => h9) rfl (by decide +kernel) rfl rfl (Nat.le_of_ble_eq_true rfl) dH_makeAlarm_15 (fun H locs hP hD hS => ?_)
  rw [sX_6_14 hk0] at hP hD
  refine lv_aload_n hx hb dH_makeAlarm_18 rfl (lv_at hl 1 rfl) ?_
  refine lv_iload_n hx hb dH_makeAlarm_19 rfl (lv_at hl 3 rfl) ?_
  obtain ⟨hz, hw⟩ := hw
  refine va_put (D := D) (ci := 1) (v := .int a2) (ty := .boolean) (C := RP) (T := TP) (N := 16) hx hb hts inP tyP tyP_ok nmP hown hK hP hD hS (6 + k0) (gX_6 hk0) rfl 15 (by decide) (hts _ tw_115) (fun _ h9 => h9) rfl (by decide +kernel) hz.1 hz.2 (Nat.le_of_ble_eq_true rfl) dH_makeAlarm_20 (fun H locs hP hD hS => ?_)
  rw [sX_6_15 hk0] at hP hD
  refine lv_aload_n hx hb dH_makeAlarm_23 rfl (lv_at hl 0 rfl) ?_
  refine lv_dup hx hb dH_makeAlarm_24 rfl ?_
  refine va_get (D := D) (ci := 0) (v := .int (sG σ 3)) (C := RH) (T := TH) (N := 8) hx hb hts inH hown hK hP 0 gX_0 rfl 7 (by decide) (hts _ tw_157) (fun _ h9 => h9) rfl dH_makeAlarm_25 ?_
  refine lv_iconst (v := 1) hx hb dH_makeAlarm_28 (by decide) ?_
  refine lv_iadd hx hb dH_makeAlarm_29 ?_
  refine va_put (D := D) (ci := 0) (v := .int ((sG σ 3) + 1)) (ty := .int) (C := RH) (T := TH) (N := 8) hx hb hts inH tyH tyH_ok nmH hown hK hP hD hS 0 gX_0 rfl 7 (by decide) (hts _ tw_157) (fun _ h9 => h9) rfl (by decide +kernel) rfl rfl (Nat.le_of_ble_eq_true rfl) dH_makeAlarm_30 (fun H locs hP hD hS => ?_)
  rw [sX_0_7] at hP hD
  exact W.vret hx hb hr (fun t ht hW => ⟨⟨(uG 3 ((sG σ 3) + 1) (uF 15 k0 a2 (uF 14 k0 (sG σ 3) (uF 13 k0 ((sG σ 1) + a1) σ)))), rfl, hw, by rw [ht]; exact hP, va_K.moved hW.alike hK, hD⟩, hS.F ht⟩) hS.2.2 dH_makeAlarm_33
end
section
theorem dG_add_0 : decode cG_add 0 = .ok (.aload_n 1, 1) := by decide +kernel
theorem dG_add_1 : decode cG_add 1 = .ok (.getfield 19, 3) := by decide +kernel
theorem dG_add_4 : decode cG_add 4 = .ok (.ifCond .ne 17, 3) := by decide +kernel
theorem dG_add_7 : decode cG_add 7 = .ok (.aload_n 1, 1) := by decide +kernel
theorem dG_add_8 : decode cG_add 8 = .ok (.getfield 25, 3) := by decide +kernel
theorem dG_add_11 : decode cG_add 11 = .ok (.invokestatic 28, 3) := by decide +kernel
theorem dG_add_14 : decode cG_add 14 = .ok (.ifCond .eq 7, 3) := by decide +kernel
theorem dG_add_17 : decode cG_add 17 = .ok (.iconst 1, 1) := by decide +kernel
theorem dG_add_18 : decode cG_add 18 = .ok (.goto 4, 3) := by decide +kernel
theorem dG_add_21 : decode cG_add 21 = .ok (.iconst 0, 1) := by decide +kernel
theorem dG_add_22 : decode cG_add 22 = .ok (.istore_n 3, 1) := by decide +kernel
theorem dG_add_23 : decode cG_add 23 = .ok (.aload_n 0, 1) := by decide +kernel
theorem dG_add_24 : decode cG_add 24 = .ok (.getfield 15, 3) := by decide +kernel
theorem dG_add_27 : decode cG_add 27 = .ok (.invokestatic 32, 3) := by decide +kernel
theorem dG_add_30 : decode cG_add 30 = .ok (.istore 4, 2) := by decide +kernel
theorem dG_add_32 : decode cG_add 32 = .ok (.aload_n 0, 1) := by decide +kernel
theorem dG_add_33 : decode cG_add 33 = .ok (.getfield 11, 3) := by decide +kernel
theorem dG_add_36 : decode cG_add 36 = .ok (.iload 4, 2) := by decide +kernel
theorem dG_add_38 : decode cG_add 38 = .ok (.aload_n 1, 1) := by decide +kernel
theorem dG_add_39 : decode cG_add 39 = .ok (.getfield 36, 3) := by decide +kernel
theorem dG_add_42 : decode cG_add 42 = .ok (.iastore, 1) := by decide +kernel
theorem dG_add_43 : decode cG_add 43 = .ok (.aload_n 0, 1) := by decide +kernel
theorem dG_add_44 : decode cG_add 44 = .ok (.getfield 11, 3) := by decide +kernel
theorem dG_add_47 : decode cG_add 47 = .ok (.iload 4, 2) := by decide +kernel
theorem dG_add_49 : decode cG_add 49 = .ok (.iconst 1, 1) := by decide +kernel
theorem dG_add_50 : decode cG_add 50 = .ok (.iadd, 1) := by decide +kernel
theorem dG_add_51 : decode cG_add 51 = .ok (.aload_n 1, 1) := by decide +kernel
theorem dG_add_52 : decode cG_add 52 = .ok (.getfield 39, 3) := by decide +kernel
theorem dG_add_55 : decode cG_add 55 = .ok (.iastore, 1) := by decide +kernel
theorem dG_add_56 : decode cG_add 56 = .ok (.aload_n 0, 1) := by decide +kernel
theorem dG_add_57 : decode cG_add 57 = .ok (.getfield 11, 3) := by decide +kernel
theorem dG_add_60 : decode cG_add 60 = .ok (.iload 4, 2) := by decide +kernel
theorem dG_add_62 : decode cG_add 62 = .ok (.iconst 2, 1) := by decide +kernel
theorem dG_add_63 : decode cG_add 63 = .ok (.iadd, 1) := by decide +kernel
theorem dG_add_64 : decode cG_add 64 = .ok (.aload_n 1, 1) := by decide +kernel
theorem dG_add_65 : decode cG_add 65 = .ok (.getfield 42, 3) := by decide +kernel
theorem dG_add_68 : decode cG_add 68 = .ok (.iastore, 1) := by decide +kernel
theorem dG_add_69 : decode cG_add 69 = .ok (.aload_n 0, 1) := by decide +kernel
theorem dG_add_70 : decode cG_add 70 = .ok (.getfield 11, 3) := by decide +kernel
theorem dG_add_73 : decode cG_add 73 = .ok (.iload 4, 2) := by decide +kernel
theorem dG_add_75 : decode cG_add 75 = .ok (.iconst 3, 1) := by decide +kernel
theorem dG_add_76 : decode cG_add 76 = .ok (.iadd, 1) := by decide +kernel
theorem dG_add_77 : decode cG_add 77 = .ok (.aload_n 1, 1) := by decide +kernel
theorem dG_add_78 : decode cG_add 78 = .ok (.getfield 19, 3) := by decide +kernel
theorem dG_add_81 : decode cG_add 81 = .ok (.ifCond .eq 8, 3) := by decide +kernel
theorem dG_add_84 : decode cG_add 84 = .ok (.bipush 6, 2) := by decide +kernel
theorem dG_add_86 : decode cG_add 86 = .ok (.goto 7, 3) := by decide +kernel
theorem dG_add_89 : decode cG_add 89 = .ok (.aload_n 1, 1) := by decide +kernel
theorem dG_add_90 : decode cG_add 90 = .ok (.getfield 25, 3) := by decide +kernel
theorem dG_add_93 : decode cG_add 93 = .ok (.iastore, 1) := by decide +kernel
theorem dG_add_94 : decode cG_add 94 = .ok (.aload_n 0, 1) := by decide +kernel
theorem dG_add_95 : decode cG_add 95 = .ok (.getfield 11, 3) := by decide +kernel
theorem dG_add_98 : decode cG_add 98 = .ok (.iload 4, 2) := by decide +kernel
theorem dG_add_100 : decode cG_add 100 = .ok (.iconst 4, 1) := by decide +kernel
theorem dG_add_101 : decode cG_add 101 = .ok (.iadd, 1) := by decide +kernel
theorem dG_add_102 : decode cG_add 102 = .ok (.iload_n 3, 1) := by decide +kernel
theorem dG_add_103 : decode cG_add 103 = .ok (.ifCond .eq 10, 3) := by decide +kernel
theorem dG_add_106 : decode cG_add 106 = .ok (.aload_n 1, 1) := by decide +kernel
theorem dG_add_107 : decode cG_add 107 = .ok (.getfield 45, 3) := by decide +kernel
theorem dG_add_110 : decode cG_add 110 = .ok (.goto 4, 3) := by decide +kernel
theorem dG_add_113 : decode cG_add 113 = .ok (.iconst (-1), 1) := by decide +kernel
theorem dG_add_114 : decode cG_add 114 = .ok (.iastore, 1) := by decide +kernel
theorem dG_add_115 : decode cG_add 115 = .ok (.aload_n 0, 1) := by decide +kernel
theorem dG_add_116 : decode cG_add 116 = .ok (.getfield 11, 3) := by decide +kernel
theorem dG_add_119 : decode cG_add 119 = .ok (.iload 4, 2) := by decide +kernel
theorem dG_add_121 : decode cG_add 121 = .ok (.iconst 5, 1) := by decide +kernel
theorem dG_add_122 : decode cG_add 122 = .ok (.iadd, 1) := by decide +kernel
theorem dG_add_123 : decode cG_add 123 = .ok (.iload_n 3, 1) := by decide +kernel
theorem dG_add_124 : decode cG_add 124 = .ok (.ifCond .eq 10, 3) := by decide +kernel
theorem dG_add_127 : decode cG_add 127 = .ok (.aload_n 1, 1) := by decide +kernel
theorem dG_add_128 : decode cG_add 128 = .ok (.getfield 48, 3) := by decide +kernel
theorem dG_add_131 : decode cG_add 131 = .ok (.goto 4, 3) := by decide +kernel
theorem dG_add_134 : decode cG_add 134 = .ok (.iconst 0, 1) := by decide +kernel
theorem dG_add_135 : decode cG_add 135 = .ok (.iastore, 1) := by decide +kernel
theorem dG_add_136 : decode cG_add 136 = .ok (.aload_n 0, 1) := by decide +kernel
theorem dG_add_137 : decode cG_add 137 = .ok (.getfield 11, 3) := by decide +kernel
theorem dG_add_140 : decode cG_add 140 = .ok (.iload 4, 2) := by decide +kernel
theorem dG_add_142 : decode cG_add 142 = .ok (.bipush 6, 2) := by decide +kernel
theorem dG_add_144 : decode cG_add 144 = .ok (.iadd, 1) := by decide +kernel
theorem dG_add_145 : decode cG_add 145 = .ok (.aload_n 1, 1) := by decide +kernel
theorem dG_add_146 : decode cG_add 146 = .ok (.getfield 19, 3) := by decide +kernel
theorem dG_add_149 : decode cG_add 149 = .ok (.ifCond .eq 7, 3) := by decide +kernel
theorem dG_add_152 : decode cG_add 152 = .ok (.iconst 0, 1) := by decide +kernel
theorem dG_add_153 : decode cG_add 153 = .ok (.goto 7, 3) := by decide +kernel
theorem dG_add_156 : decode cG_add 156 = .ok (.aload_n 1, 1) := by decide +kernel
theorem dG_add_157 : decode cG_add 157 = .ok (.getfield 51, 3) := by decide +kernel
theorem dG_add_160 : decode cG_add 160 = .ok (.iastore, 1) := by decide +kernel
theorem dG_add_161 : decode cG_add 161 = .ok (.aload_n 0, 1) := by decide +kernel
theorem dG_add_162 : decode cG_add 162 = .ok (.getfield 11, 3) := by decide +kernel
theorem dG_add_165 : decode cG_add 165 = .ok (.iload 4, 2) := by decide +kernel
theorem dG_add_167 : decode cG_add 167 = .ok (.bipush 7, 2) := by decide +kernel
theorem dG_add_169 : decode cG_add 169 = .ok (.iadd, 1) := by decide +kernel
theorem dG_add_170 : decode cG_add 170 = .ok (.iload_n 2, 1) := by decide +kernel
theorem dG_add_171 : decode cG_add 171 = .ok (.iastore, 1) := by decide +kernel
theorem dG_add_172 : decode cG_add 172 = .ok (.aload_n 0, 1) := by decide +kernel
theorem dG_add_173 : decode cG_add 173 = .ok (.dup, 1) := by decide +kernel
theorem dG_add_174 : decode cG_add 174 = .ok (.getfield 15, 3) := by decide +kernel
theorem dG_add_177 : decode cG_add 177 = .ok (.iconst 1, 1) := by decide +kernel
theorem dG_add_178 : decode cG_add 178 = .ok (.iadd, 1) := by decide +kernel
theorem dG_add_179 : decode cG_add 179 = .ok (.putfield 15, 3) := by decide +kernel
theorem dG_add_182 : decode cG_add 182 = .ok (.return_, 1) := by decide +kernel
def wp_logAdd (post : Sg → Prop) (σ : Sg) (k0 : Nat) (a1 : Int32) : Prop := ((¬ ((sF σ 12 k0) = 0) → wp_firstCell (fun r3 s2 => (vp_in r3 512 ∧ (vp_in (r3 + 1) 512 ∧ (vp_in (r3 + 2) 512 ∧ ((((sF s2 12 k0) = 0) → (vp_in (r3 + 3) 512 ∧ (vp_in (r3 + 4) 512 ∧ (vp_in (r3 + 5) 512 ∧ (vp_in (r3 + 6) 512 ∧ (vp_in (r3 + 7) 512 ∧ post (uG 4 ((sG s2 4) + 1) (uA 1 (upd (upd (upd (upd (upd (upd (upd (upd (sA s2 1) (r3).toNatClampNeg (sF s2 0 k0)) (r3 + 1).toNatClampNeg (sF s2 7 k0)) (r3 + 2).toNatClampNeg (sF s2 10 k0)) (r3 + 3).toNatClampNeg (sF s2 6 k0)) (r3 + 4).toNatClampNeg (-1)) (r3 + 5).toNatClampNeg 0) (r3 + 6).toNatClampNeg (sF s2 3 k0)) (r3 + 7).toNatClampNeg a1) (uA 1 (upd (upd (upd (upd (upd (upd (upd (sA s2 1) (r3).toNatClampNeg (sF s2 0 k0)) (r3 + 1).toNatClampNeg (sF s2 7 k0)) (r3 + 2).toNatClampNeg (sF s2 10 k0)) (r3 + 3).toNatClampNeg (sF s2 6 k0)) (r3 + 4).toNatClampNeg (-1)) (r3 + 5).toNatClampNeg 0) (r3 + 6).toNatClampNeg (sF s2 3 k0)) (uA 1 (upd (upd (upd (upd (upd (upd (sA s2 1) (r3).toNatClampNeg (sF s2 0 k0)) (r3 + 1).toNatClampNeg (sF s2 7 k0)) (r3 + 2).toNatClampNeg (sF s2 10 k0)) (r3 + 3).toNatClampNeg (sF s2 6 k0)) (r3 + 4).toNatClampNeg (-1)) (r3 + 5).toNatClampNeg 0) (uA 1 (upd (upd (upd (upd (upd (sA s2 1) (r3).toNatClampNeg (sF s2 0 k0)) (r3 + 1).toNatClampNeg (sF s2 7 k0)) (r3 + 2).toNatClampNeg (sF s2 10 k0)) (r3 + 3).toNatClampNeg (sF s2 6 k0)) (r3 + 4).toNatClampNeg (-1)) (uA 1 (upd (upd (upd (upd (sA s2 1) (r3).toNatClampNeg (sF s2 0 k0)) (r3 + 1).toNatClampNeg (sF s2 7 k0)) (r3 + 2).toNatClampNeg (sF s2 10 k0)) (r3 + 3).toNatClampNeg (sF s2 6 k0)) (uA 1 (upd (upd (upd (sA s2 1) (r3).toNatClampNeg (sF s2 0 k0)) (r3 + 1).toNatClampNeg (sF s2 7 k0)) (r3 + 2).toNatClampNeg (sF s2 10 k0)) (uA 1 (upd (upd (sA s2 1) (r3).toNatClampNeg (sF s2 0 k0)) (r3 + 1).toNatClampNeg (sF s2 7 k0)) (uA 1 (upd (sA s2 1) (r3).toNatClampNeg (sF s2 0 k0)) s2))))))))))))))) ∧ (¬ ((sF s2 12 k0) = 0) → (vp_in (r3 + 3) 512 ∧ (vp_in (r3 + 4) 512 ∧ (vp_in (r3 + 5) 512 ∧ (vp_in (r3 + 6) 512 ∧ (vp_in (r3 + 7) 512 ∧ post (uG 4 ((sG s2 4) + 1) (uA 1 (upd (upd (upd (upd (upd (upd (upd (upd (sA s2 1) (r3).toNatClampNeg (sF s2 0 k0)) (r3 + 1).toNatClampNeg (sF s2 7 k0)) (r3 + 2).toNatClampNeg (sF s2 10 k0)) (r3 + 3).toNatClampNeg 6) (r3 + 4).toNatClampNeg (-1)) (r3 + 5).toNatClampNeg 0) (r3 + 6).toNatClampNeg 0) (r3 + 7).toNatClampNeg a1) (uA 1 (upd (upd (upd (upd (upd (upd (upd (sA s2 1) (r3).toNatClampNeg (sF s2 0 k0)) (r3 + 1).toNatClampNeg (sF s2 7 k0)) (r3 + 2).toNatClampNeg (sF s2 10 k0)) (r3 + 3).toNatClampNeg 6) (r3 + 4).toNatClampNeg (-1)) (r3 + 5).toNatClampNeg 0) (r3 + 6).toNatClampNeg 0) (uA 1 (upd (upd (upd (upd (upd (upd (sA s2 1) (r3).toNatClampNeg (sF s2 0 k0)) (r3 + 1).toNatClampNeg (sF s2 7 k0)) (r3 + 2).toNatClampNeg (sF s2 10 k0)) (r3 + 3).toNatClampNeg 6) (r3 + 4).toNatClampNeg (-1)) (r3 + 5).toNatClampNeg 0) (uA 1 (upd (upd (upd (upd (upd (sA s2 1) (r3).toNatClampNeg (sF s2 0 k0)) (r3 + 1).toNatClampNeg (sF s2 7 k0)) (r3 + 2).toNatClampNeg (sF s2 10 k0)) (r3 + 3).toNatClampNeg 6) (r3 + 4).toNatClampNeg (-1)) (uA 1 (upd (upd (upd (upd (sA s2 1) (r3).toNatClampNeg (sF s2 0 k0)) (r3 + 1).toNatClampNeg (sF s2 7 k0)) (r3 + 2).toNatClampNeg (sF s2 10 k0)) (r3 + 3).toNatClampNeg 6) (uA 1 (upd (upd (upd (sA s2 1) (r3).toNatClampNeg (sF s2 0 k0)) (r3 + 1).toNatClampNeg (sF s2 7 k0)) (r3 + 2).toNatClampNeg (sF s2 10 k0)) (uA 1 (upd (upd (sA s2 1) (r3).toNatClampNeg (sF s2 0 k0)) (r3 + 1).toNatClampNeg (sF s2 7 k0)) (uA 1 (upd (sA s2 1) (r3).toNatClampNeg (sF s2 0 k0)) s2)))))))))))))))))))) σ (sG σ 4)) ∧ (((sF σ 12 k0) = 0) → wp_isCommand (fun r19 s18 => (((r19 = 0) → wp_firstCell (fun r22 s21 => (vp_in r22 512 ∧ (vp_in (r22 + 1) 512 ∧ (vp_in (r22 + 2) 512 ∧ ((((sF s21 12 k0) = 0) → (vp_in (r22 + 3) 512 ∧ (vp_in (r22 + 4) 512 ∧ (vp_in (r22 + 5) 512 ∧ (vp_in (r22 + 6) 512 ∧ (vp_in (r22 + 7) 512 ∧ post (uG 4 ((sG s21 4) + 1) (uA 1 (upd (upd (upd (upd (upd (upd (upd (upd (sA s21 1) (r22).toNatClampNeg (sF s21 0 k0)) (r22 + 1).toNatClampNeg (sF s21 7 k0)) (r22 + 2).toNatClampNeg (sF s21 10 k0)) (r22 + 3).toNatClampNeg (sF s21 6 k0)) (r22 + 4).toNatClampNeg (-1)) (r22 + 5).toNatClampNeg 0) (r22 + 6).toNatClampNeg (sF s21 3 k0)) (r22 + 7).toNatClampNeg a1) (uA 1 (upd (upd (upd (upd (upd (upd (upd (sA s21 1) (r22).toNatClampNeg (sF s21 0 k0)) (r22 + 1).toNatClampNeg (sF s21 7 k0)) (r22 + 2).toNatClampNeg (sF s21 10 k0)) (r22 + 3).toNatClampNeg (sF s21 6 k0)) (r22 + 4).toNatClampNeg (-1)) (r22 + 5).toNatClampNeg 0) (r22 + 6).toNatClampNeg (sF s21 3 k0)) (uA 1 (upd (upd (upd (upd (upd (upd (sA s21 1) (r22).toNatClampNeg (sF s21 0 k0)) (r22 + 1).toNatClampNeg (sF s21 7 k0)) (r22 + 2).toNatClampNeg (sF s21 10 k0)) (r22 + 3).toNatClampNeg (sF s21 6 k0)) (r22 + 4).toNatClampNeg (-1)) (r22 + 5).toNatClampNeg 0) (uA 1 (upd (upd (upd (upd (upd (sA s21 1) (r22).toNatClampNeg (sF s21 0 k0)) (r22 + 1).toNatClampNeg (sF s21 7 k0)) (r22 + 2).toNatClampNeg (sF s21 10 k0)) (r22 + 3).toNatClampNeg (sF s21 6 k0)) (r22 + 4).toNatClampNeg (-1)) (uA 1 (upd (upd (upd (upd (sA s21 1) (r22).toNatClampNeg (sF s21 0 k0)) (r22 + 1).toNatClampNeg (sF s21 7 k0)) (r22 + 2).toNatClampNeg (sF s21 10 k0)) (r22 + 3).toNatClampNeg (sF s21 6 k0)) (uA 1 (upd (upd (upd (sA s21 1) (r22).toNatClampNeg (sF s21 0 k0)) (r22 + 1).toNatClampNeg (sF s21 7 k0)) (r22 + 2).toNatClampNeg (sF s21 10 k0)) (uA 1 (upd (upd (sA s21 1) (r22).toNatClampNeg (sF s21 0 k0)) (r22 + 1).toNatClampNeg (sF s21 7 k0)) (uA 1 (upd (sA s21 1) (r22).toNatClampNeg (sF s21 0 k0)) s21))))))))))))))) ∧ (¬ ((sF s21 12 k0) = 0) → (vp_in (r22 + 3) 512 ∧ (vp_in (r22 + 4) 512 ∧ (vp_in (r22 + 5) 512 ∧ (vp_in (r22 + 6) 512 ∧ (vp_in (r22 + 7) 512 ∧ post (uG 4 ((sG s21 4) + 1) (uA 1 (upd (upd (upd (upd (upd (upd (upd (upd (sA s21 1) (r22).toNatClampNeg (sF s21 0 k0)) (r22 + 1).toNatClampNeg (sF s21 7 k0)) (r22 + 2).toNatClampNeg (sF s21 10 k0)) (r22 + 3).toNatClampNeg 6) (r22 + 4).toNatClampNeg (-1)) (r22 + 5).toNatClampNeg 0) (r22 + 6).toNatClampNeg 0) (r22 + 7).toNatClampNeg a1) (uA 1 (upd (upd (upd (upd (upd (upd (upd (sA s21 1) (r22).toNatClampNeg (sF s21 0 k0)) (r22 + 1).toNatClampNeg (sF s21 7 k0)) (r22 + 2).toNatClampNeg (sF s21 10 k0)) (r22 + 3).toNatClampNeg 6) (r22 + 4).toNatClampNeg (-1)) (r22 + 5).toNatClampNeg 0) (r22 + 6).toNatClampNeg 0) (uA 1 (upd (upd (upd (upd (upd (upd (sA s21 1) (r22).toNatClampNeg (sF s21 0 k0)) (r22 + 1).toNatClampNeg (sF s21 7 k0)) (r22 + 2).toNatClampNeg (sF s21 10 k0)) (r22 + 3).toNatClampNeg 6) (r22 + 4).toNatClampNeg (-1)) (r22 + 5).toNatClampNeg 0) (uA 1 (upd (upd (upd (upd (upd (sA s21 1) (r22).toNatClampNeg (sF s21 0 k0)) (r22 + 1).toNatClampNeg (sF s21 7 k0)) (r22 + 2).toNatClampNeg (sF s21 10 k0)) (r22 + 3).toNatClampNeg 6) (r22 + 4).toNatClampNeg (-1)) (uA 1 (upd (upd (upd (upd (sA s21 1) (r22).toNatClampNeg (sF s21 0 k0)) (r22 + 1).toNatClampNeg (sF s21 7 k0)) (r22 + 2).toNatClampNeg (sF s21 10 k0)) (r22 + 3).toNatClampNeg 6) (uA 1 (upd (upd (upd (sA s21 1) (r22).toNatClampNeg (sF s21 0 k0)) (r22 + 1).toNatClampNeg (sF s21 7 k0)) (r22 + 2).toNatClampNeg (sF s21 10 k0)) (uA 1 (upd (upd (sA s21 1) (r22).toNatClampNeg (sF s21 0 k0)) (r22 + 1).toNatClampNeg (sF s21 7 k0)) (uA 1 (upd (sA s21 1) (r22).toNatClampNeg (sF s21 0 k0)) s21)))))))))))))))))))) s18 (sG s18 4)) ∧ (¬ (r19 = 0) → wp_firstCell (fun r38 s37 => (vp_in r38 512 ∧ (vp_in (r38 + 1) 512 ∧ (vp_in (r38 + 2) 512 ∧ ((((sF s37 12 k0) = 0) → (vp_in (r38 + 3) 512 ∧ (vp_in (r38 + 4) 512 ∧ (vp_in (r38 + 5) 512 ∧ (vp_in (r38 + 6) 512 ∧ (vp_in (r38 + 7) 512 ∧ post (uG 4 ((sG s37 4) + 1) (uA 1 (upd (upd (upd (upd (upd (upd (upd (upd (sA s37 1) (r38).toNatClampNeg (sF s37 0 k0)) (r38 + 1).toNatClampNeg (sF s37 7 k0)) (r38 + 2).toNatClampNeg (sF s37 10 k0)) (r38 + 3).toNatClampNeg (sF s37 6 k0)) (r38 + 4).toNatClampNeg (sF s37 8 k0)) (r38 + 5).toNatClampNeg (sF s37 9 k0)) (r38 + 6).toNatClampNeg (sF s37 3 k0)) (r38 + 7).toNatClampNeg a1) (uA 1 (upd (upd (upd (upd (upd (upd (upd (sA s37 1) (r38).toNatClampNeg (sF s37 0 k0)) (r38 + 1).toNatClampNeg (sF s37 7 k0)) (r38 + 2).toNatClampNeg (sF s37 10 k0)) (r38 + 3).toNatClampNeg (sF s37 6 k0)) (r38 + 4).toNatClampNeg (sF s37 8 k0)) (r38 + 5).toNatClampNeg (sF s37 9 k0)) (r38 + 6).toNatClampNeg (sF s37 3 k0)) (uA 1 (upd (upd (upd (upd (upd (upd (sA s37 1) (r38).toNatClampNeg (sF s37 0 k0)) (r38 + 1).toNatClampNeg (sF s37 7 k0)) (r38 + 2).toNatClampNeg (sF s37 10 k0)) (r38 + 3).toNatClampNeg (sF s37 6 k0)) (r38 + 4).toNatClampNeg (sF s37 8 k0)) (r38 + 5).toNatClampNeg (sF s37 9 k0)) (uA 1 (upd (upd (upd (upd (upd (sA s37 1) (r38).toNatClampNeg (sF s37 0 k0)) (r38 + 1).toNatClampNeg (sF s37 7 k0)) (r38 + 2).toNatClampNeg (sF s37 10 k0)) (r38 + 3).toNatClampNeg (sF s37 6 k0)) (r38 + 4).toNatClampNeg (sF s37 8 k0)) (uA 1 (upd (upd (upd (upd (sA s37 1) (r38).toNatClampNeg (sF s37 0 k0)) (r38 + 1).toNatClampNeg (sF s37 7 k0)) (r38 + 2).toNatClampNeg (sF s37 10 k0)) (r38 + 3).toNatClampNeg (sF s37 6 k0)) (uA 1 (upd (upd (upd (sA s37 1) (r38).toNatClampNeg (sF s37 0 k0)) (r38 + 1).toNatClampNeg (sF s37 7 k0)) (r38 + 2).toNatClampNeg (sF s37 10 k0)) (uA 1 (upd (upd (sA s37 1) (r38).toNatClampNeg (sF s37 0 k0)) (r38 + 1).toNatClampNeg (sF s37 7 k0)) (uA 1 (upd (sA s37 1) (r38).toNatClampNeg (sF s37 0 k0)) s37))))))))))))))) ∧ (¬ ((sF s37 12 k0) = 0) → (vp_in (r38 + 3) 512 ∧ (vp_in (r38 + 4) 512 ∧ (vp_in (r38 + 5) 512 ∧ (vp_in (r38 + 6) 512 ∧ (vp_in (r38 + 7) 512 ∧ post (uG 4 ((sG s37 4) + 1) (uA 1 (upd (upd (upd (upd (upd (upd (upd (upd (sA s37 1) (r38).toNatClampNeg (sF s37 0 k0)) (r38 + 1).toNatClampNeg (sF s37 7 k0)) (r38 + 2).toNatClampNeg (sF s37 10 k0)) (r38 + 3).toNatClampNeg 6) (r38 + 4).toNatClampNeg (sF s37 8 k0)) (r38 + 5).toNatClampNeg (sF s37 9 k0)) (r38 + 6).toNatClampNeg 0) (r38 + 7).toNatClampNeg a1) (uA 1 (upd (upd (upd (upd (upd (upd (upd (sA s37 1) (r38).toNatClampNeg (sF s37 0 k0)) (r38 + 1).toNatClampNeg (sF s37 7 k0)) (r38 + 2).toNatClampNeg (sF s37 10 k0)) (r38 + 3).toNatClampNeg 6) (r38 + 4).toNatClampNeg (sF s37 8 k0)) (r38 + 5).toNatClampNeg (sF s37 9 k0)) (r38 + 6).toNatClampNeg 0) (uA 1 (upd (upd (upd (upd (upd (upd (sA s37 1) (r38).toNatClampNeg (sF s37 0 k0)) (r38 + 1).toNatClampNeg (sF s37 7 k0)) (r38 + 2).toNatClampNeg (sF s37 10 k0)) (r38 + 3).toNatClampNeg 6) (r38 + 4).toNatClampNeg (sF s37 8 k0)) (r38 + 5).toNatClampNeg (sF s37 9 k0)) (uA 1 (upd (upd (upd (upd (upd (sA s37 1) (r38).toNatClampNeg (sF s37 0 k0)) (r38 + 1).toNatClampNeg (sF s37 7 k0)) (r38 + 2).toNatClampNeg (sF s37 10 k0)) (r38 + 3).toNatClampNeg 6) (r38 + 4).toNatClampNeg (sF s37 8 k0)) (uA 1 (upd (upd (upd (upd (sA s37 1) (r38).toNatClampNeg (sF s37 0 k0)) (r38 + 1).toNatClampNeg (sF s37 7 k0)) (r38 + 2).toNatClampNeg (sF s37 10 k0)) (r38 + 3).toNatClampNeg 6) (uA 1 (upd (upd (upd (sA s37 1) (r38).toNatClampNeg (sF s37 0 k0)) (r38 + 1).toNatClampNeg (sF s37 7 k0)) (r38 + 2).toNatClampNeg (sF s37 10 k0)) (uA 1 (upd (upd (sA s37 1) (r38).toNatClampNeg (sF s37 0 k0)) (r38 + 1).toNatClampNeg (sF s37 7 k0)) (uA 1 (upd (sA s37 1) (r38).toNatClampNeg (sF s37 0 k0)) s37)))))))))))))))))))) s18 (sG s18 4)))) σ (sF σ 6 k0)))
set_option maxHeartbeats 4000000 in
set_option maxRecDepth 100000 in
theorem c_logAdd (l : Launch) (D : va_G) (ca : Nat → ClassId) (ad : Nat → Nat → Nat) (σ : Sg) (k0 : Nat) (hk0 : k0 < 8) (a1 : Int32) (sz : Nat) (post : Sg → Prop) (hw : wp_logAdd post σ k0 a1) : Met l yG_add wsG_add ({ frames := 1, cells := 0, slots := 0, locals := 20 }) (va_Pc [.ref (ad 3 0), .ref (ad 6 k0), .int a1] (preX D ca ad σ sz)) (va_Qv post (atX D ca ad (va_A (wX ca ad σ) sz)) (va_A (wX ca ad σ) sz)) 0 0 (va_A (wX ca ad σ) sz) := by
  refine Met.ofW (cc := cG_add) (maxL := 5) (ret := none) (by decide) rfl ?_
  intro p e s m args below meth c s₁ B hml hv
  obtain ⟨rfl, hsz, hP, hK, hD0, hE⟩ := hv
  have hx := B.exec
  have hb := B.bytes
  have hr := B.returns
  have hts : ∀ w ∈ tbG, w.before _ s = true := fun w h => atoms_spec (ws := wsG_add) B.pre w (List.mem_cons_of_mem _ h)
  have hown : s.vm.findClass RG = some m.cls := findClass_of_methodNamed B.named
  have hlocks := B.notSynchronized
  subst hsz
  have hD := hD0.self (sz := s.heap.size)
  generalize hAe : va_A (wX ca ad σ) s.heap.size = A at hD hE ⊢
  have hA : ∀ q : Nat, s.heap.size ≤ q → A q := fun q h => by rw [← hAe]; exact Or.inr h
  clear hAe
  have hS : va_S A s.heap s.heap [] := va_S.rf
  have hl := lv_entry ([.ref (ad 3 0), .ref (ad 6 k0), .int a1]) (n := 5) (Nat.le_of_ble_eq_true rfl)
  rw [lg_entry_eq]
  generalize (lg_sl ([.ref (ad 3 0), .ref (ad 6 k0), .int a1]) ++ List.replicate (5 - (lg_sl ([.ref (ad 3 0), .ref (ad 6 k0), .int a1])).length) Slot.unset).toArray = ls at hl ⊢
  have hl : lv_has ls 5 [(0, .ref (ad 3 0)), (1, .ref (ad 6 k0)), (2, .int a1)] := hl
  unfold wp_logAdd at hw
  have hP : va_P D clX (wX ca ad σ) s.heap := hP
  refine lv_aload_n hx hb dG_add_0 rfl (lv_at hl 1 rfl) ?_
  refine va_get (D := D) (ci := 1) (v := .int (sF σ 12 k0)) (C := RP) (T := TP) (N := 16) hx hb hts inP hown hK hP (6 + k0) (gX_6 hk0) rfl 12 (by decide) (hts _ tw_108) (fun _ h9 => h9) rfl dG_add_1 ?_
  refine lv_if_ne (tgt := 21) hx hb dG_add_4 (by decide) (fun c1 => ?_) (fun c1 => ?_)
  · have hw := hw.1 c1
    refine lv_iconst (v := 0) hx hb dG_add_21 (by decide) ?_
    refine lv_istore_n (lv' := [(3, .int 0), (0, .ref (ad 3 0)), (1, .ref (ad 6 k0)), (2, .int a1)]) hx hb dG_add_22 rfl hl (by decide) rfl (fun ls hl => ?_)
    refine lv_aload_n hx hb dG_add_23 rfl (lv_at hl 1 rfl) ?_
    refine va_get (D := D) (ci := 3) (v := .int (sG σ 4)) (C := RG) (T := TG) (N := 2) hx hb hts inG hown hK hP 3 gX_3 rfl 1 (by decide) (hts _ tw_64) (fun _ h9 => h9) rfl dG_add_24 ?_
    have hFc := px_free hD hS hA
    refine va_calli (va_runS (As := [.int (sG σ 4)]) (rest := []) ⟨hx, hb, hml, hown, hts⟩ (c_firstCell l D ca ad σ (sG σ 4) _ _ hw) (va_cwS 1 hts (gS tw_183 tw_184 tw_5 tw_185) rfl rfl rfl (by decide +kernel) ⟨Nat.le_of_ble_eq_true rfl, Nat.le_of_ble_eq_true rfl⟩) ⟨px_blind, fun U hU hW => px_pre hP hK hD hE hS hFc hU hW⟩ rfl rfl hl.1 rfl (lv_room (Nat.le_of_ble_eq_true rfl)) dG_add_27 ⟨Nat.le_of_ble_eq_true rfl, Nat.le_of_ble_eq_true rfl⟩) hS (fun q _ h => hFc q h) hFc (fun r3 s2 t H locs ht hvm hw hB _ _ hS => ?_)
    obtain ⟨hP, -, hD⟩ := hB
    rw [ht] at hP
    have hD := hD.weaken (fun _ _ _ h9 => hFc _ h9)
    refine lv_istore (lv' := [(4, .int r3), (3, .int 0), (0, .ref (ad 3 0)), (1, .ref (ad 6 k0)), (2, .int a1)]) hx hb dG_add_30 hl (by decide) rfl (fun ls hl => ?_)
    refine lv_aload_n hx hb dG_add_32 rfl (lv_at hl 2 rfl) ?_
    refine va_get (D := D) (ci := 3) (v := .ref (ad 5 0)) (C := RG) (T := TG) (N := 2) hx hb hts inG hown hK hP 3 gX_3 rfl 0 (by decide) (hts _ tw_63) (fun _ h9 => h9) rfl dG_add_33 ?_
    refine lv_iload hx hb dG_add_36 (lv_at hl 0 rfl) ?_
    refine lv_aload_n hx hb dG_add_38 rfl (lv_at hl 3 rfl) ?_
    refine va_get (D := D) (ci := 1) (v := .int (sF s2 0 k0)) (C := RP) (T := TP) (N := 16) hx hb hts inP hown hK hP (6 + k0) (gX_6 hk0) rfl 0 (by decide) (hts _ tw_78) (fun _ h9 => h9) rfl dG_add_39 ?_
    obtain ⟨hin4, hw⟩ := hw
    refine va_iast hx hb hK hP hD hS 5 0 gX_5 rfl hin4 dG_add_42 (fun H locs hP hD hS => ?_)
    rw [sX_5] at hP hD
    refine lv_aload_n hx hb dG_add_43 rfl (lv_at hl 2 rfl) ?_
    refine va_get (D := D) (ci := 3) (v := .ref (ad 5 0)) (C := RG) (T := TG) (N := 2) hx hb hts inG hown hK hP 3 gX_3 rfl 0 (by decide) (hts _ tw_63) (fun _ h9 => h9) rfl dG_add_44 ?_
    refine lv_iload hx hb dG_add_47 (lv_at hl 0 rfl) ?_
    refine lv_iconst (v := 1) hx hb dG_add_49 (by decide) ?_
    refine lv_iadd hx hb dG_add_50 ?_
    refine lv_aload_n hx hb dG_add_51 rfl (lv_at hl 3 rfl) ?_
    refine va_get (D := D) (ci := 1) (v := .int (sF s2 7 k0)) (C := RP) (T := TP) (N := 16) hx hb hts inP hown hK hP (6 + k0) (gX_6 hk0) rfl 7 (by decide) (hts _ tw_94) (fun _ h9 => h9) rfl dG_add_52 ?_
    obtain ⟨hin5, hw⟩ := hw
    refine va_iast hx hb hK hP hD hS 5 0 gX_5 rfl hin5 dG_add_55 (fun H locs hP hD hS => ?_)
    rw [sX_5] at hP hD
    refine lv_aload_n hx hb dG_add_56 rfl (lv_at hl 2 rfl) ?_
    refine va_get (D := D) (ci := 3) (v := .ref (ad 5 0)) (C := RG) (T := TG) (N := 2) hx hb hts inG hown hK hP 3 gX_3 rfl 0 (by decide) (hts _ tw_63) (fun _ h9 => h9) rfl dG_add_57 ?_
    refine lv_iload hx hb dG_add_60 (lv_at hl 0 rfl) ?_
    refine lv_iconst (v := 2) hx hb dG_add_62 (by decide) ?_
    refine lv_iadd hx hb dG_add_63 ?_
    refine lv_aload_n hx hb dG_add_64 rfl (lv_at hl 3 rfl) ?_
    refine va_get (D := D) (ci := 1) (v := .int (sF s2 10 k0)) (C := RP) (T := TP) (N := 16) hx hb hts inP hown hK hP (6 + k0) (gX_6 hk0) rfl 10 (by decide) (hts _ tw_103) (fun _ h9 => h9) rfl dG_add_65 ?_
    obtain ⟨hin6, hw⟩ := hw
    refine va_iast hx hb hK hP hD hS 5 0 gX_5 rfl hin6 dG_add_68 (fun H locs hP hD hS => ?_)
    rw [sX_5] at hP hD
    refine lv_aload_n hx hb dG_add_69 rfl (lv_at hl 2 rfl) ?_
    refine va_get (D := D) (ci := 3) (v := .ref (ad 5 0)) (C := RG) (T := TG) (N := 2) hx hb hts inG hown hK hP 3 gX_3 rfl 0 (by decide) (hts _ tw_63) (fun _ h9 => h9) rfl dG_add_70 ?_
    refine lv_iload hx hb dG_add_73 (lv_at hl 0 rfl) ?_
    refine lv_iconst (v := 3) hx hb dG_add_75 (by decide) ?_
    refine lv_iadd hx hb dG_add_76 ?_
    refine lv_aload_n hx hb dG_add_77 rfl (lv_at hl 3 rfl) ?_
    refine va_get (D := D) (ci := 1) (v := .int (sF s2 12 k0)) (C := RP) (T := TP) (N := 16) hx hb hts inP hown hK hP (6 + k0) (gX_6 hk0) rfl 12 (by decide) (hts _ tw_108) (fun _ h9 => h9) rfl dG_add_78 ?_
    refine lv_if_eq (tgt := 89) hx hb dG_add_81 (by decide) (fun c7 => ?_) (fun c7 => ?_)
    · have hw := hw.1 c7
      refine lv_aload_n hx hb dG_add_89 rfl (lv_at hl 3 rfl) ?_
      refine va_get (D := D) (ci := 1) (v := .int (sF s2 6 k0)) (C := RP) (T := TP) (N := 16) hx hb hts inP hown hK hP (6 + k0) (gX_6 hk0) rfl 6 (by decide) (hts _ tw_91) (fun _ h9 => h9) rfl dG_add_90 ?_
      obtain ⟨hin8, hw⟩ := hw
      refine va_iast hx hb hK hP hD hS 5 0 gX_5 rfl hin8 dG_add_93 (fun H locs hP hD hS => ?_)
      rw [sX_5] at hP hD
      refine lv_aload_n hx hb dG_add_94 rfl (lv_at hl 2 rfl) ?_
      refine va_get (D := D) (ci := 3) (v := .ref (ad 5 0)) (C := RG) (T := TG) (N := 2) hx hb hts inG hown hK hP 3 gX_3 rfl 0 (by decide) (hts _ tw_63) (fun _ h9 => h9) rfl dG_add_95 ?_
      refine lv_iload hx hb dG_add_98 (lv_at hl 0 rfl) ?_
      refine lv_iconst (v := 4) hx hb dG_add_100 (by decide) ?_
      refine lv_iadd hx hb dG_add_101 ?_
      refine lv_iload_n hx hb dG_add_102 rfl (lv_at hl 1 rfl) ?_
      refine lv_if_eq (tgt := 113) hx hb dG_add_103 (by decide) (fun _ => ?_) (fun c9 => absurd c9 (by decide))
      refine lv_iconst (v := (-1)) hx hb dG_add_113 (by decide) ?_
      obtain ⟨hin9, hw⟩ := hw
      refine va_iast hx hb hK hP hD hS 5 0 gX_5 rfl hin9 dG_add_114 (fun H locs hP hD hS => ?_)
      rw [sX_5] at hP hD
      refine lv_aload_n hx hb dG_add_115 rfl (lv_at hl 2 rfl) ?_
      refine va_get (D := D) (ci := 3) (v := .ref (ad 5 0)) (C := RG) (T := TG) (N := 2) hx hb hts inG hown hK hP 3 gX_3 rfl 0 (by decide) (hts _ tw_63) (fun _ h9 => h9) rfl dG_add_116 ?_
      refine lv_iload hx hb dG_add_119 (lv_at hl 0 rfl) ?_
      refine lv_iconst (v := 5) hx hb dG_add_121 (by decide) ?_
      refine lv_iadd hx hb dG_add_122 ?_
      refine lv_iload_n hx hb dG_add_123 rfl (lv_at hl 1 rfl) ?_
      refine lv_if_eq (tgt := 134) hx hb dG_add_124 (by decide) (fun _ => ?_) (fun c9 => absurd c9 (by decide))
      refine lv_iconst (v := 0) hx hb dG_add_134 (by decide) ?_
      obtain ⟨hin10, hw⟩ := hw
      refine va_iast hx hb hK hP hD hS 5 0 gX_5 rfl hin10 dG_add_135 (fun H locs hP hD hS => ?_)
      rw [sX_5] at hP hD
      refine lv_aload_n hx hb dG_add_136 rfl (lv_at hl 2 rfl) ?_
      refine va_get (D := D) (ci := 3) (v := .ref (ad 5 0)) (C := RG) (T := TG) (N := 2) hx hb hts inG hown hK hP 3 gX_3 rfl 0 (by decide) (hts _ tw_63) (fun _ h9 => h9) rfl dG_add_137 ?_
      refine lv_iload hx hb dG_add_140 (lv_at hl 0 rfl) ?_
      refine lv_bipush (v := 6) hx hb dG_add_142 (by decide) ?_
      refine lv_iadd hx hb dG_add_144 ?_
      refine lv_aload_n hx hb dG_add_145 rfl (lv_at hl 3 rfl) ?_
      refine va_get (D := D) (ci := 1) (v := .int (sF s2 12 k0)) (C := RP) (T := TP) (N := 16) hx hb hts inP hown hK hP (6 + k0) (gX_6 hk0) rfl 12 (by decide) (hts _ tw_108) (fun _ h9 => h9) rfl dG_add_146 ?_
      refine lv_if_eq (tgt := 156) hx hb dG_add_149 (by decide) (fun _ => ?_) (fun c9 => absurd c7 c9)
      refine lv_aload_n hx hb dG_add_156 rfl (lv_at hl 3 rfl) ?_
      refine va_get (D := D) (ci := 1) (v := .int (sF s2 3 k0)) (C := RP) (T := TP) (N := 16) hx hb hts inP hown hK hP (6 + k0) (gX_6 hk0) rfl 3 (by decide) (hts _ tw_84) (fun _ h9 => h9) rfl dG_add_157 ?_
      obtain ⟨hin11, hw⟩ := hw
      refine va_iast hx hb hK hP hD hS 5 0 gX_5 rfl hin11 dG_add_160 (fun H locs hP hD hS => ?_)
      rw [sX_5] at hP hD
      refine lv_aload_n hx hb dG_add_161 rfl (lv_at hl 2 rfl) ?_
      refine va_get (D := D) (ci := 3) (v := .ref (ad 5 0)) (C := RG) (T := TG) (N := 2) hx hb hts inG hown hK hP 3 gX_3 rfl 0 (by decide) (hts _ tw_63) (fun _ h9 => h9) rfl dG_add_162 ?_
      refine lv_iload hx hb dG_add_165 (lv_at hl 0 rfl) ?_
      refine lv_bipush (v := 7) hx hb dG_add_167 (by decide) ?_
      refine lv_iadd hx hb dG_add_169 ?_
      refine lv_iload_n hx hb dG_add_170 rfl (lv_at hl 4 rfl) ?_
      obtain ⟨hin12, hw⟩ := hw
      refine va_iast hx hb hK hP hD hS 5 0 gX_5 rfl hin12 dG_add_171 (fun H locs hP hD hS => ?_)
      rw [sX_5] at hP hD
      refine lv_aload_n hx hb dG_add_172 rfl (lv_at hl 2 rfl) ?_
      refine lv_dup hx hb dG_add_173 rfl ?_
      refine va_get (D := D) (ci := 3) (v := .int (sG s2 4)) (C := RG) (T := TG) (N := 2) hx hb hts inG hown hK hP 3 gX_3 rfl 1 (by decide) (hts _ tw_64) (fun _ h9 => h9) rfl dG_add_174 ?_
      refine lv_iconst (v := 1) hx hb dG_add_177 (by decide) ?_
      refine lv_iadd hx hb dG_add_178 ?_
      refine va_put (D := D) (ci := 3) (v := .int ((sG s2 4) + 1)) (ty := .int) (C := RG) (T := TG) (N := 2) hx hb hts inG tyG tyG_ok nmG hown hK hP hD hS 3 gX_3 rfl 1 (by decide) (hts _ tw_64) (fun _ h9 => h9) rfl (by decide +kernel) rfl rfl (Nat.le_of_ble_eq_true rfl) dG_add_179 (fun H locs hP hD hS => ?_)
      rw [sX_3_1] at hP hD
      exact W.vret hx hb hr (fun t ht hW => ⟨⟨(uG 4 ((sG s2 4) + 1) (uA 1 (upd (upd (upd (upd (upd (upd (upd (upd (sA s2 1) (r3).toNatClampNeg (sF s2 0 k0)) (r3 + 1).toNatClampNeg (sF s2 7 k0)) (r3 + 2).toNatClampNeg (sF s2 10 k0)) (r3 + 3).toNatClampNeg (sF s2 6 k0)) (r3 + 4).toNatClampNeg (-1)) (r3 + 5).toNatClampNeg 0) (r3 + 6).toNatClampNeg (sF s2 3 k0)) (r3 + 7).toNatClampNeg a1) (uA 1 (upd (upd (upd (upd (upd (upd (upd (sA s2 1) (r3).toNatClampNeg (sF s2 0 k0)) (r3 + 1).toNatClampNeg (sF s2 7 k0)) (r3 + 2).toNatClampNeg (sF s2 10 k0)) (r3 + 3).toNatClampNeg (sF s2 6 k0)) (r3 + 4).toNatClampNeg (-1)) (r3 + 5).toNatClampNeg 0) (r3 + 6).toNatClampNeg (sF s2 3 k0)) (uA 1 (upd (upd (upd (upd (upd (upd (sA s2 1) (r3).toNatClampNeg (sF s2 0 k0)) (r3 + 1).toNatClampNeg (sF s2 7 k0)) (r3 + 2).toNatClampNeg (sF s2 10 k0)) (r3 + 3).toNatClampNeg (sF s2 6 k0)) (r3 + 4).toNatClampNeg (-1)) (r3 + 5).toNatClampNeg 0) (uA 1 (upd (upd (upd (upd (upd (sA s2 1) (r3).toNatClampNeg (sF s2 0 k0)) (r3 + 1).toNatClampNeg (sF s2 7 k0)) (r3 + 2).toNatClampNeg (sF s2 10 k0)) (r3 + 3).toNatClampNeg (sF s2 6 k0)) (r3 + 4).toNatClampNeg (-1)) (uA 1 (upd (upd (upd (upd (sA s2 1) (r3).toNatClampNeg (sF s2 0 k0)) (r3 + 1).toNatClampNeg (sF s2 7 k0)) (r3 + 2).toNatClampNeg (sF s2 10 k0)) (r3 + 3).toNatClampNeg (sF s2 6 k0)) (uA 1 (upd (upd (upd (sA s2 1) (r3).toNatClampNeg (sF s2 0 k0)) (r3 + 1).toNatClampNeg (sF s2 7 k0)) (r3 + 2).toNatClampNeg (sF s2 10 k0)) (uA 1 (upd (upd (sA s2 1) (r3).toNatClampNeg (sF s2 0 k0)) (r3 + 1).toNatClampNeg (sF s2 7 k0)) (uA 1 (upd (sA s2 1) (r3).toNatClampNeg (sF s2 0 k0)) s2))))))))), rfl, hw, by rw [ht]; exact hP, va_K.moved hW.alike hK, hD⟩, hS.F ht⟩) hS.2.2 dG_add_182
    · have hw := hw.2 c7
      refine lv_bipush (v := 6) hx hb dG_add_84 (by decide) ?_
      refine lv_goto (tgt := 93) hx hb dG_add_86 (by decide) ?_
      obtain ⟨hin13, hw⟩ := hw
      refine va_iast hx hb hK hP hD hS 5 0 gX_5 rfl hin13 dG_add_93 (fun H locs hP hD hS => ?_)
      rw [sX_5] at hP hD
      refine lv_aload_n hx hb dG_add_94 rfl (lv_at hl 2 rfl) ?_
      refine va_get (D := D) (ci := 3) (v := .ref (ad 5 0)) (C := RG) (T := TG) (N := 2) hx hb hts inG hown hK hP 3 gX_3 rfl 0 (by decide) (hts _ tw_63) (fun _ h9 => h9) rfl dG_add_95 ?_
      refine lv_iload hx hb dG_add_98 (lv_at hl 0 rfl) ?_
      refine lv_iconst (v := 4) hx hb dG_add_100 (by decide) ?_
      refine lv_iadd hx hb dG_add_101 ?_
      refine lv_iload_n hx hb dG_add_102 rfl (lv_at hl 1 rfl) ?_
      refine lv_if_eq (tgt := 113) hx hb dG_add_103 (by decide) (fun _ => ?_) (fun c9 => absurd c9 (by decide))
      refine lv_iconst (v := (-1)) hx hb dG_add_113 (by decide) ?_
      obtain ⟨hin14, hw⟩ := hw
      refine va_iast hx hb hK hP hD hS 5 0 gX_5 rfl hin14 dG_add_114 (fun H locs hP hD hS => ?_)
      rw [sX_5] at hP hD
      refine lv_aload_n hx hb dG_add_115 rfl (lv_at hl 2 rfl) ?_
      refine va_get (D := D) (ci := 3) (v := .ref (ad 5 0)) (C := RG) (T := TG) (N := 2) hx hb hts inG hown hK hP 3 gX_3 rfl 0 (by decide) (hts _ tw_63) (fun _ h9 => h9) rfl dG_add_116 ?_
      refine lv_iload hx hb dG_add_119 (lv_at hl 0 rfl) ?_
      refine lv_iconst (v := 5) hx hb dG_add_121 (by decide) ?_
      refine lv_iadd hx hb dG_add_122 ?_
      refine lv_iload_n hx hb dG_add_123 rfl (lv_at hl 1 rfl) ?_
      refine lv_if_eq (tgt := 134) hx hb dG_add_124 (by decide) (fun _ => ?_) (fun c9 => absurd c9 (by decide))
      refine lv_iconst (v := 0) hx hb dG_add_134 (by decide) ?_
      obtain ⟨hin15, hw⟩ := hw
      refine va_iast hx hb hK hP hD hS 5 0 gX_5 rfl hin15 dG_add_135 (fun H locs hP hD hS => ?_)
      rw [sX_5] at hP hD
      refine lv_aload_n hx hb dG_add_136 rfl (lv_at hl 2 rfl) ?_
      refine va_get (D := D) (ci := 3) (v := .ref (ad 5 0)) (C := RG) (T := TG) (N := 2) hx hb hts inG hown hK hP 3 gX_3 rfl 0 (by decide) (hts _ tw_63) (fun _ h9 => h9) rfl dG_add_137 ?_
      refine lv_iload hx hb dG_add_140 (lv_at hl 0 rfl) ?_
      refine lv_bipush (v := 6) hx hb dG_add_142 (by decide) ?_
      refine lv_iadd hx hb dG_add_144 ?_
      refine lv_aload_n hx hb dG_add_145 rfl (lv_at hl 3 rfl) ?_
      refine va_get (D := D) (ci := 1) (v := .int (sF s2 12 k0)) (C := RP) (T := TP) (N := 16) hx hb hts inP hown hK hP (6 + k0) (gX_6 hk0) rfl 12 (by decide) (hts _ tw_108) (fun _ h9 => h9) rfl dG_add_146 ?_
      refine lv_if_eq (tgt := 156) hx hb dG_add_149 (by decide) (fun c9 => absurd c9 c7) (fun _ => ?_)
      refine lv_iconst (v := 0) hx hb dG_add_152 (by decide) ?_
      refine lv_goto (tgt := 160) hx hb dG_add_153 (by decide) ?_
      obtain ⟨hin16, hw⟩ := hw
      refine va_iast hx hb hK hP hD hS 5 0 gX_5 rfl hin16 dG_add_160 (fun H locs hP hD hS => ?_)
      rw [sX_5] at hP hD
      refine lv_aload_n hx hb dG_add_161 rfl (lv_at hl 2 rfl) ?_
      refine va_get (D := D) (ci := 3) (v := .ref (ad 5 0)) (C := RG) (T := TG) (N := 2) hx hb hts inG hown hK hP 3 gX_3 rfl 0 (by decide) (hts _ tw_63) (fun _ h9 => h9) rfl dG_add_162 ?_
      refine lv_iload hx hb dG_add_165 (lv_at hl 0 rfl) ?_
      refine lv_bipush (v := 7) hx hb dG_add_167 (by decide) ?_
      refine lv_iadd hx hb dG_add_169 ?_
      refine lv_iload_n hx hb dG_add_170 rfl (lv_at hl 4 rfl) ?_
      obtain ⟨hin17, hw⟩ := hw
      refine va_iast hx hb hK hP hD hS 5 0 gX_5 rfl hin17 dG_add_171 (fun H locs hP hD hS => ?_)
      rw [sX_5] at hP hD
      refine lv_aload_n hx hb dG_add_172 rfl (lv_at hl 2 rfl) ?_
      refine lv_dup hx hb dG_add_173 rfl ?_
      refine va_get (D := D) (ci := 3) (v := .int (sG s2 4)) (C := RG) (T := TG) (N := 2) hx hb hts inG hown hK hP 3 gX_3 rfl 1 (by decide) (hts _ tw_64) (fun _ h9 => h9) rfl dG_add_174 ?_
      refine lv_iconst (v := 1) hx hb dG_add_177 (by decide) ?_
      refine lv_iadd hx hb dG_add_178 ?_
      refine va_put (D := D) (ci := 3) (v := .int ((sG s2 4) + 1)) (ty := .int) (C := RG) (T := TG) (N := 2) hx hb hts inG tyG tyG_ok nmG hown hK hP hD hS 3 gX_3 rfl 1 (by decide) (hts _ tw_64) (fun _ h9 => h9) rfl (by decide +kernel) rfl rfl (Nat.le_of_ble_eq_true rfl) dG_add_179 (fun H locs hP hD hS => ?_)
      rw [sX_3_1] at hP hD
      exact W.vret hx hb hr (fun t ht hW => ⟨⟨(uG 4 ((sG s2 4) + 1) (uA 1 (upd (upd (upd (upd (upd (upd (upd (upd (sA s2 1) (r3).toNatClampNeg (sF s2 0 k0)) (r3 + 1).toNatClampNeg (sF s2 7 k0)) (r3 + 2).toNatClampNeg (sF s2 10 k0)) (r3 + 3).toNatClampNeg 6) (r3 + 4).toNatClampNeg (-1)) (r3 + 5).toNatClampNeg 0) (r3 + 6).toNatClampNeg 0) (r3 + 7).toNatClampNeg a1) (uA 1 (upd (upd (upd (upd (upd (upd (upd (sA s2 1) (r3).toNatClampNeg (sF s2 0 k0)) (r3 + 1).toNatClampNeg (sF s2 7 k0)) (r3 + 2).toNatClampNeg (sF s2 10 k0)) (r3 + 3).toNatClampNeg 6) (r3 + 4).toNatClampNeg (-1)) (r3 + 5).toNatClampNeg 0) (r3 + 6).toNatClampNeg 0) (uA 1 (upd (upd (upd (upd (upd (upd (sA s2 1) (r3).toNatClampNeg (sF s2 0 k0)) (r3 + 1).toNatClampNeg (sF s2 7 k0)) (r3 + 2).toNatClampNeg (sF s2 10 k0)) (r3 + 3).toNatClampNeg 6) (r3 + 4).toNatClampNeg (-1)) (r3 + 5).toNatClampNeg 0) (uA 1 (upd (upd (upd (upd (upd (sA s2 1) (r3).toNatClampNeg (sF s2 0 k0)) (r3 + 1).toNatClampNeg (sF s2 7 k0)) (r3 + 2).toNatClampNeg (sF s2 10 k0)) (r3 + 3).toNatClampNeg 6) (r3 + 4).toNatClampNeg (-1)) (uA 1 (upd (upd (upd (upd (sA s2 1) (r3).toNatClampNeg (sF s2 0 k0)) (r3 + 1).toNatClampNeg (sF s2 7 k0)) (r3 + 2).toNatClampNeg (sF s2 10 k0)) (r3 + 3).toNatClampNeg 6) (uA 1 (upd (upd (upd (sA s2 1) (r3).toNatClampNeg (sF s2 0 k0)) (r3 + 1).toNatClampNeg (sF s2 7 k0)) (r3 + 2).toNatClampNeg (sF s2 10 k0)) (uA 1 (upd (upd (sA s2 1) (r3).toNatClampNeg (sF s2 0 k0)) (r3 + 1).toNatClampNeg (sF s2 7 k0)) (uA 1 (upd (sA s2 1) (r3).toNatClampNeg (sF s2 0 k0)) s2))))))))), rfl, hw, by rw [ht]; exact hP, va_K.moved hW.alike hK, hD⟩, hS.F ht⟩) hS.2.2 dG_add_182
  · have hw := hw.2 c1
    refine lv_aload_n hx hb dG_add_7 rfl (lv_at hl 1 rfl) ?_
    refine va_get (D := D) (ci := 1) (v := .int (sF σ 6 k0)) (C := RP) (T := TP) (N := 16) hx hb hts inP hown hK hP (6 + k0) (gX_6 hk0) rfl 6 (by decide) (hts _ tw_91) (fun _ h9 => h9) rfl dG_add_8 ?_
    have hFc := px_free hD hS hA
    refine va_calli (va_runSN (As := [.int (sF σ 6 k0)]) (rest := []) ⟨hx, hb, hml, hown, hts⟩ (c_isCommand l D ca ad σ (sF σ 6 k0) _ _ hw) ⟨va_cnB 1 hts (gB tw_442) rfl rfl rfl hE.nest28 (hts _ tw_1) (by decide +kernel) ⟨Nat.le_of_ble_eq_true rfl, Nat.le_of_ble_eq_true rfl⟩, hts _ tw_441, trivial⟩ ⟨px_blind, fun U hU hW => px_pre hP hK hD hE hS hFc hU hW⟩ rfl rfl hl.1 rfl (lv_room (Nat.le_of_ble_eq_true rfl)) dG_add_11 ⟨Nat.le_of_ble_eq_true rfl, Nat.le_of_ble_eq_true rfl⟩) hS (fun q _ h => hFc q h) hFc (fun r19 s18 t H locs ht hvm hw hB _ _ hS => ?_)
    obtain ⟨hP, -, hD⟩ := hB
    rw [ht] at hP
    have hD := hD.weaken (fun _ _ _ h9 => hFc _ h9)
    refine lv_if_eq (tgt := 21) hx hb dG_add_14 (by decide) (fun c20 => ?_) (fun c20 => ?_)
    · have hw := hw.1 c20
      refine lv_iconst (v := 0) hx hb dG_add_21 (by decide) ?_
      refine lv_istore_n (lv' := [(3, .int 0), (0, .ref (ad 3 0)), (1, .ref (ad 6 k0)), (2, .int a1)]) hx hb dG_add_22 rfl hl (by decide) rfl (fun ls hl => ?_)
      refine lv_aload_n hx hb dG_add_23 rfl (lv_at hl 1 rfl) ?_
      refine va_get (D := D) (ci := 3) (v := .int (sG s18 4)) (C := RG) (T := TG) (N := 2) hx hb hts inG hown hK hP 3 gX_3 rfl 1 (by decide) (hts _ tw_64) (fun _ h9 => h9) rfl dG_add_24 ?_
      have hFc := px_free hD hS hA
      refine va_calli (va_runS (As := [.int (sG s18 4)]) (rest := []) ⟨hx, hb, hml, hown, hts⟩ (c_firstCell l D ca ad s18 (sG s18 4) _ _ hw) (va_cwS 1 hts (gS tw_183 tw_184 tw_5 tw_185) rfl rfl rfl (by decide +kernel) ⟨Nat.le_of_ble_eq_true rfl, Nat.le_of_ble_eq_true rfl⟩) ⟨px_blind, fun U hU hW => px_pre hP hK hD hE hS hFc hU hW⟩ rfl rfl hl.1 rfl (lv_room (Nat.le_of_ble_eq_true rfl)) dG_add_27 ⟨Nat.le_of_ble_eq_true rfl, Nat.le_of_ble_eq_true rfl⟩) hS (fun q _ h => hFc q h) hFc (fun r22 s21 t H locs ht hvm hw hB _ _ hS => ?_)
      obtain ⟨hP, -, hD⟩ := hB
      rw [ht] at hP
      have hD := hD.weaken (fun _ _ _ h9 => hFc _ h9)
      refine lv_istore (lv' := [(4, .int r22), (3, .int 0), (0, .ref (ad 3 0)), (1, .ref (ad 6 k0)), (2, .int a1)]) hx hb dG_add_30 hl (by decide) rfl (fun ls hl => ?_)
      refine lv_aload_n hx hb dG_add_32 rfl (lv_at hl 2 rfl) ?_
      refine va_get (D := D) (ci := 3) (v := .ref (ad 5 0)) (C := RG) (T := TG) (N := 2) hx hb hts inG hown hK hP 3 gX_3 rfl 0 (by decide) (hts _ tw_63) (fun _ h9 => h9) rfl dG_add_33 ?_
      refine lv_iload hx hb dG_add_36 (lv_at hl 0 rfl) ?_
      refine lv_aload_n hx hb dG_add_38 rfl (lv_at hl 3 rfl) ?_
      refine va_get (D := D) (ci := 1) (v := .int (sF s21 0 k0)) (C := RP) (T := TP) (N := 16) hx hb hts inP hown hK hP (6 + k0) (gX_6 hk0) rfl 0 (by decide) (hts _ tw_78) (fun _ h9 => h9) rfl dG_add_39 ?_
      obtain ⟨hin23, hw⟩ := hw
      refine va_iast hx hb hK hP hD hS 5 0 gX_5 rfl hin23 dG_add_42 (fun H locs hP hD hS => ?_)
      rw [sX_5] at hP hD
      refine lv_aload_n hx hb dG_add_43 rfl (lv_at hl 2 rfl) ?_
      refine va_get (D := D) (ci := 3) (v := .ref (ad 5 0)) (C := RG) (T := TG) (N := 2) hx hb hts inG hown hK hP 3 gX_3 rfl 0 (by decide) (hts _ tw_63) (fun _ h9 => h9) rfl dG_add_44 ?_
      refine lv_iload hx hb dG_add_47 (lv_at hl 0 rfl) ?_
      refine lv_iconst (v := 1) hx hb dG_add_49 (by decide) ?_
      refine lv_iadd hx hb dG_add_50 ?_
      refine lv_aload_n hx hb dG_add_51 rfl (lv_at hl 3 rfl) ?_
      refine va_get (D := D) (ci := 1) (v := .int (sF s21 7 k0)) (C := RP) (T := TP) (N := 16) hx hb hts inP hown hK hP (6 + k0) (gX_6 hk0) rfl 7 (by decide) (hts _ tw_94) (fun _ h9 => h9) rfl dG_add_52 ?_
      obtain ⟨hin24, hw⟩ := hw
      refine va_iast hx hb hK hP hD hS 5 0 gX_5 rfl hin24 dG_add_55 (fun H locs hP hD hS => ?_)
      rw [sX_5] at hP hD
      refine lv_aload_n hx hb dG_add_56 rfl (lv_at hl 2 rfl) ?_
      refine va_get (D := D) (ci := 3) (v := .ref (ad 5 0)) (C := RG) (T := TG) (N := 2) hx hb hts inG hown hK hP 3 gX_3 rfl 0 (by decide) (hts _ tw_63) (fun _ h9 => h9) rfl dG_add_57 ?_
      refine lv_iload hx hb dG_add_60 (lv_at hl 0 rfl) ?_
      refine lv_iconst (v := 2) hx hb dG_add_62 (by decide) ?_
      refine lv_iadd hx hb dG_add_63 ?_
      refine lv_aload_n hx hb dG_add_64 rfl (lv_at hl 3 rfl) ?_
      refine va_get (D := D) (ci := 1) (v := .int (sF s21 10 k0)) (C := RP) (T := TP) (N := 16) hx hb hts inP hown hK hP (6 + k0) (gX_6 hk0) rfl 10 (by decide) (hts _ tw_103) (fun _ h9 => h9) rfl dG_add_65 ?_
      obtain ⟨hin25, hw⟩ := hw
      refine va_iast hx hb hK hP hD hS 5 0 gX_5 rfl hin25 dG_add_68 (fun H locs hP hD hS => ?_)
      rw [sX_5] at hP hD
      refine lv_aload_n hx hb dG_add_69 rfl (lv_at hl 2 rfl) ?_
      refine va_get (D := D) (ci := 3) (v := .ref (ad 5 0)) (C := RG) (T := TG) (N := 2) hx hb hts inG hown hK hP 3 gX_3 rfl 0 (by decide) (hts _ tw_63) (fun _ h9 => h9) rfl dG_add_70 ?_
      refine lv_iload hx hb dG_add_73 (lv_at hl 0 rfl) ?_
      refine lv_iconst (v := 3) hx hb dG_add_75 (by decide) ?_
      refine lv_iadd hx hb dG_add_76 ?_
      refine lv_aload_n hx hb dG_add_77 rfl (lv_at hl 3 rfl) ?_
      refine va_get (D := D) (ci := 1) (v := .int (sF s21 12 k0)) (C := RP) (T := TP) (N := 16) hx hb hts inP hown hK hP (6 + k0) (gX_6 hk0) rfl 12 (by decide) (hts _ tw_108) (fun _ h9 => h9) rfl dG_add_78 ?_
      refine lv_if_eq (tgt := 89) hx hb dG_add_81 (by decide) (fun c26 => ?_) (fun c26 => ?_)
      · have hw := hw.1 c26
        refine lv_aload_n hx hb dG_add_89 rfl (lv_at hl 3 rfl) ?_
        refine va_get (D := D) (ci := 1) (v := .int (sF s21 6 k0)) (C := RP) (T := TP) (N := 16) hx hb hts inP hown hK hP (6 + k0) (gX_6 hk0) rfl 6 (by decide) (hts _ tw_91) (fun _ h9 => h9) rfl dG_add_90 ?_
        obtain ⟨hin27, hw⟩ := hw
        refine va_iast hx hb hK hP hD hS 5 0 gX_5 rfl hin27 dG_add_93 (fun H locs hP hD hS => ?_)
        rw [sX_5] at hP hD
        refine lv_aload_n hx hb dG_add_94 rfl (lv_at hl 2 rfl) ?_
        refine va_get (D := D) (ci := 3) (v := .ref (ad 5 0)) (C := RG) (T := TG) (N := 2) hx hb hts inG hown hK hP 3 gX_3 rfl 0 (by decide) (hts _ tw_63) (fun _ h9 => h9) rfl dG_add_95 ?_
        refine lv_iload hx hb dG_add_98 (lv_at hl 0 rfl) ?_
        refine lv_iconst (v := 4) hx hb dG_add_100 (by decide) ?_
        refine lv_iadd hx hb dG_add_101 ?_
        refine lv_iload_n hx hb dG_add_102 rfl (lv_at hl 1 rfl) ?_
        refine lv_if_eq (tgt := 113) hx hb dG_add_103 (by decide) (fun _ => ?_) (fun c9 => absurd c9 (by decide))
        refine lv_iconst (v := (-1)) hx hb dG_add_113 (by decide) ?_
        obtain ⟨hin28, hw⟩ := hw
        refine va_iast hx hb hK hP hD hS 5 0 gX_5 rfl hin28 dG_add_114 (fun H locs hP hD hS => ?_)
        rw [sX_5] at hP hD
        refine lv_aload_n hx hb dG_add_115 rfl (lv_at hl 2 rfl) ?_
        refine va_get (D := D) (ci := 3) (v := .ref (ad 5 0)) (C := RG) (T := TG) (N := 2) hx hb hts inG hown hK hP 3 gX_3 rfl 0 (by decide) (hts _ tw_63) (fun _ h9 => h9) rfl dG_add_116 ?_
        refine lv_iload hx hb dG_add_119 (lv_at hl 0 rfl) ?_
        refine lv_iconst (v := 5) hx hb dG_add_121 (by decide) ?_
        refine lv_iadd hx hb dG_add_122 ?_
        refine lv_iload_n hx hb dG_add_123 rfl (lv_at hl 1 rfl) ?_
        refine lv_if_eq (tgt := 134) hx hb dG_add_124 (by decide) (fun _ => ?_) (fun c9 => absurd c9 (by decide))
        refine lv_iconst (v := 0) hx hb dG_add_134 (by decide) ?_
        obtain ⟨hin29, hw⟩ := hw
        refine va_iast hx hb hK hP hD hS 5 0 gX_5 rfl hin29 dG_add_135 (fun H locs hP hD hS => ?_)
        rw [sX_5] at hP hD
        refine lv_aload_n hx hb dG_add_136 rfl (lv_at hl 2 rfl) ?_
        refine va_get (D := D) (ci := 3) (v := .ref (ad 5 0)) (C := RG) (T := TG) (N := 2) hx hb hts inG hown hK hP 3 gX_3 rfl 0 (by decide) (hts _ tw_63) (fun _ h9 => h9) rfl dG_add_137 ?_
        refine lv_iload hx hb dG_add_140 (lv_at hl 0 rfl) ?_
        refine lv_bipush (v := 6) hx hb dG_add_142 (by decide) ?_
        refine lv_iadd hx hb dG_add_144 ?_
        refine lv_aload_n hx hb dG_add_145 rfl (lv_at hl 3 rfl) ?_
        refine va_get (D := D) (ci := 1) (v := .int (sF s21 12 k0)) (C := RP) (T := TP) (N := 16) hx hb hts inP hown hK hP (6 + k0) (gX_6 hk0) rfl 12 (by decide) (hts _ tw_108) (fun _ h9 => h9) rfl dG_add_146 ?_
        refine lv_if_eq (tgt := 156) hx hb dG_add_149 (by decide) (fun _ => ?_) (fun c9 => absurd c26 c9)
        refine lv_aload_n hx hb dG_add_156 rfl (lv_at hl 3 rfl) ?_
        refine va_get (D := D) (ci := 1) (v := .int (sF s21 3 k0)) (C := RP) (T := TP) (N := 16) hx hb hts inP hown hK hP (6 + k0) (gX_6 hk0) rfl 3 (by decide) (hts _ tw_84) (fun _ h9 => h9) rfl dG_add_157 ?_
        obtain ⟨hin30, hw⟩ := hw
        refine va_iast hx hb hK hP hD hS 5 0 gX_5 rfl hin30 dG_add_160 (fun H locs hP hD hS => ?_)
        rw [sX_5] at hP hD
        refine lv_aload_n hx hb dG_add_161 rfl (lv_at hl 2 rfl) ?_
        refine va_get (D := D) (ci := 3) (v := .ref (ad 5 0)) (C := RG) (T := TG) (N := 2) hx hb hts inG hown hK hP 3 gX_3 rfl 0 (by decide) (hts _ tw_63) (fun _ h9 => h9) rfl dG_add_162 ?_
        refine lv_iload hx hb dG_add_165 (lv_at hl 0 rfl) ?_
        refine lv_bipush (v := 7) hx hb dG_add_167 (by decide) ?_
        refine lv_iadd hx hb dG_add_169 ?_
        refine lv_iload_n hx hb dG_add_170 rfl (lv_at hl 4 rfl) ?_
        obtain ⟨hin31, hw⟩ := hw
        refine va_iast hx hb hK hP hD hS 5 0 gX_5 rfl hin31 dG_add_171 (fun H locs hP hD hS => ?_)
        rw [sX_5] at hP hD
        refine lv_aload_n hx hb dG_add_172 rfl (lv_at hl 2 rfl) ?_
        refine lv_dup hx hb dG_add_173 rfl ?_
        refine va_get (D := D) (ci := 3) (v := .int (sG s21 4)) (C := RG) (T := TG) (N := 2) hx hb hts inG hown hK hP 3 gX_3 rfl 1 (by decide) (hts _ tw_64) (fun _ h9 => h9) rfl dG_add_174 ?_
        refine lv_iconst (v := 1) hx hb dG_add_177 (by decide) ?_
        refine lv_iadd hx hb dG_add_178 ?_
        refine va_put (D := D) (ci := 3) (v := .int ((sG s21 4) + 1)) (ty := .int) (C := RG) (T := TG) (N := 2) hx hb hts inG tyG tyG_ok nmG hown hK hP hD hS 3 gX_3 rfl 1 (by decide) (hts _ tw_64) (fun _ h9 => h9) rfl (by decide +kernel) rfl rfl (Nat.le_of_ble_eq_true rfl) dG_add_179 (fun H locs hP hD hS => ?_)
        rw [sX_3_1] at hP hD
        exact W.vret hx hb hr (fun t ht hW => ⟨⟨(uG 4 ((sG s21 4) + 1) (uA 1 (upd (upd (upd (upd (upd (upd (upd (upd (sA s21 1) (r22).toNatClampNeg (sF s21 0 k0)) (r22 + 1).toNatClampNeg (sF s21 7 k0)) (r22 + 2).toNatClampNeg (sF s21 10 k0)) (r22 + 3).toNatClampNeg (sF s21 6 k0)) (r22 + 4).toNatClampNeg (-1)) (r22 + 5).toNatClampNeg 0) (r22 + 6).toNatClampNeg (sF s21 3 k0)) (r22 + 7).toNatClampNeg a1) (uA 1 (upd (upd (upd (upd (upd (upd (upd (sA s21 1) (r22).toNatClampNeg (sF s21 0 k0)) (r22 + 1).toNatClampNeg (sF s21 7 k0)) (r22 + 2).toNatClampNeg (sF s21 10 k0)) (r22 + 3).toNatClampNeg (sF s21 6 k0)) (r22 + 4).toNatClampNeg (-1)) (r22 + 5).toNatClampNeg 0) (r22 + 6).toNatClampNeg (sF s21 3 k0)) (uA 1 (upd (upd (upd (upd (upd (upd (sA s21 1) (r22).toNatClampNeg (sF s21 0 k0)) (r22 + 1).toNatClampNeg (sF s21 7 k0)) (r22 + 2).toNatClampNeg (sF s21 10 k0)) (r22 + 3).toNatClampNeg (sF s21 6 k0)) (r22 + 4).toNatClampNeg (-1)) (r22 + 5).toNatClampNeg 0) (uA 1 (upd (upd (upd (upd (upd (sA s21 1) (r22).toNatClampNeg (sF s21 0 k0)) (r22 + 1).toNatClampNeg (sF s21 7 k0)) (r22 + 2).toNatClampNeg (sF s21 10 k0)) (r22 + 3).toNatClampNeg (sF s21 6 k0)) (r22 + 4).toNatClampNeg (-1)) (uA 1 (upd (upd (upd (upd (sA s21 1) (r22).toNatClampNeg (sF s21 0 k0)) (r22 + 1).toNatClampNeg (sF s21 7 k0)) (r22 + 2).toNatClampNeg (sF s21 10 k0)) (r22 + 3).toNatClampNeg (sF s21 6 k0)) (uA 1 (upd (upd (upd (sA s21 1) (r22).toNatClampNeg (sF s21 0 k0)) (r22 + 1).toNatClampNeg (sF s21 7 k0)) (r22 + 2).toNatClampNeg (sF s21 10 k0)) (uA 1 (upd (upd (sA s21 1) (r22).toNatClampNeg (sF s21 0 k0)) (r22 + 1).toNatClampNeg (sF s21 7 k0)) (uA 1 (upd (sA s21 1) (r22).toNatClampNeg (sF s21 0 k0)) s21))))))))), rfl, hw, by rw [ht]; exact hP, va_K.moved hW.alike hK, hD⟩, hS.F ht⟩) hS.2.2 dG_add_182
      · have hw := hw.2 c26
        refine lv_bipush (v := 6) hx hb dG_add_84 (by decide) ?_
        refine lv_goto (tgt := 93) hx hb dG_add_86 (by decide) ?_
        obtain ⟨hin32, hw⟩ := hw
        refine va_iast hx hb hK hP hD hS 5 0 gX_5 rfl hin32 dG_add_93 (fun H locs hP hD hS => ?_)
        rw [sX_5] at hP hD
        refine lv_aload_n hx hb dG_add_94 rfl (lv_at hl 2 rfl) ?_
        refine va_get (D := D) (ci := 3) (v := .ref (ad 5 0)) (C := RG) (T := TG) (N := 2) hx hb hts inG hown hK hP 3 gX_3 rfl 0 (by decide) (hts _ tw_63) (fun _ h9 => h9) rfl dG_add_95 ?_
        refine lv_iload hx hb dG_add_98 (lv_at hl 0 rfl) ?_
        refine lv_iconst (v := 4) hx hb dG_add_100 (by decide) ?_
        refine lv_iadd hx hb dG_add_101 ?_
        refine lv_iload_n hx hb dG_add_102 rfl (lv_at hl 1 rfl) ?_
        refine lv_if_eq (tgt := 113) hx hb dG_add_103 (by decide) (fun _ => ?_) (fun c9 => absurd c9 (by decide))
        refine lv_iconst (v := (-1)) hx hb dG_add_113 (by decide) ?_
        obtain ⟨hin33, hw⟩ := hw
        refine va_iast hx hb hK hP hD hS 5 0 gX_5 rfl hin33 dG_add_114 (fun H locs hP hD hS => ?_)
        rw [sX_5] at hP hD
        refine lv_aload_n hx hb dG_add_115 rfl (lv_at hl 2 rfl) ?_
        refine va_get (D := D) (ci := 3) (v := .ref (ad 5 0)) (C := RG) (T := TG) (N := 2) hx hb hts inG hown hK hP 3 gX_3 rfl 0 (by decide) (hts _ tw_63) (fun _ h9 => h9) rfl dG_add_116 ?_
        refine lv_iload hx hb dG_add_119 (lv_at hl 0 rfl) ?_
        refine lv_iconst (v := 5) hx hb dG_add_121 (by decide) ?_
        refine lv_iadd hx hb dG_add_122 ?_
        refine lv_iload_n hx hb dG_add_123 rfl (lv_at hl 1 rfl) ?_
        refine lv_if_eq (tgt := 134) hx hb dG_add_124 (by decide) (fun _ => ?_) (fun c9 => absurd c9 (by decide))
        refine lv_iconst (v := 0) hx hb dG_add_134 (by decide) ?_
        obtain ⟨hin34, hw⟩ := hw
        refine va_iast hx hb hK hP hD hS 5 0 gX_5 rfl hin34 dG_add_135 (fun H locs hP hD hS => ?_)
        rw [sX_5] at hP hD
        refine lv_aload_n hx hb dG_add_136 rfl (lv_at hl 2 rfl) ?_
        refine va_get (D := D) (ci := 3) (v := .ref (ad 5 0)) (C := RG) (T := TG) (N := 2) hx hb hts inG hown hK hP 3 gX_3 rfl 0 (by decide) (hts _ tw_63) (fun _ h9 => h9) rfl dG_add_137 ?_
        refine lv_iload hx hb dG_add_140 (lv_at hl 0 rfl) ?_
        refine lv_bipush (v := 6) hx hb dG_add_142 (by decide) ?_
        refine lv_iadd hx hb dG_add_144 ?_
        refine lv_aload_n hx hb dG_add_145 rfl (lv_at hl 3 rfl) ?_
        refine va_get (D := D) (ci := 1) (v := .int (sF s21 12 k0)) (C := RP) (T := TP) (N := 16) hx hb hts inP hown hK hP (6 + k0) (gX_6 hk0) rfl 12 (by decide) (hts _ tw_108) (fun _ h9 => h9) rfl dG_add_146 ?_
        refine lv_if_eq (tgt := 156) hx hb dG_add_149 (by decide) (fun c9 => absurd c9 c26) (fun _ => ?_)
        refine lv_iconst (v := 0) hx hb dG_add_152 (by decide) ?_
        refine lv_goto (tgt := 160) hx hb dG_add_153 (by decide) ?_
        obtain ⟨hin35, hw⟩ := hw
        refine va_iast hx hb hK hP hD hS 5 0 gX_5 rfl hin35 dG_add_160 (fun H locs hP hD hS => ?_)
        rw [sX_5] at hP hD
        refine lv_aload_n hx hb dG_add_161 rfl (lv_at hl 2 rfl) ?_
        refine va_get (D := D) (ci := 3) (v := .ref (ad 5 0)) (C := RG) (T := TG) (N := 2) hx hb hts inG hown hK hP 3 gX_3 rfl 0 (by decide) (hts _ tw_63) (fun _ h9 => h9) rfl dG_add_162 ?_
        refine lv_iload hx hb dG_add_165 (lv_at hl 0 rfl) ?_
        refine lv_bipush (v := 7) hx hb dG_add_167 (by decide) ?_
        refine lv_iadd hx hb dG_add_169 ?_
        refine lv_iload_n hx hb dG_add_170 rfl (lv_at hl 4 rfl) ?_
        obtain ⟨hin36, hw⟩ := hw
        refine va_iast hx hb hK hP hD hS 5 0 gX_5 rfl hin36 dG_add_171 (fun H locs hP hD hS => ?_)
        rw [sX_5] at hP hD
        refine lv_aload_n hx hb dG_add_172 rfl (lv_at hl 2 rfl) ?_
        refine lv_dup hx hb dG_add_173 rfl ?_
        refine va_get (D := D) (ci := 3) (v := .int (sG s21 4)) (C := RG) (T := TG) (N := 2) hx hb hts inG hown hK hP 3 gX_3 rfl 1 (by decide) (hts _ tw_64) (fun _ h9 => h9) rfl dG_add_174 ?_
        refine lv_iconst (v := 1) hx hb dG_add_177 (by decide) ?_
        refine lv_iadd hx hb dG_add_178 ?_
        refine va_put (D := D) (ci := 3) (v := .int ((sG s21 4) + 1)) (ty := .int) (C := RG) (T := TG) (N := 2) hx hb hts inG tyG tyG_ok nmG hown hK hP hD hS 3 gX_3 rfl 1 (by decide) (hts _ tw_64) (fun _ h9 => h9) rfl (by decide +kernel) rfl rfl (Nat.le_of_ble_eq_true rfl) dG_add_179 (fun H locs hP hD hS => ?_)
        rw [sX_3_1] at hP hD
        exact W.vret hx hb hr (fun t ht hW => ⟨⟨(uG 4 ((sG s21 4) + 1) (uA 1 (upd (upd (upd (upd (upd (upd (upd (upd (sA s21 1) (r22).toNatClampNeg (sF s21 0 k0)) (r22 + 1).toNatClampNeg (sF s21 7 k0)) (r22 + 2).toNatClampNeg (sF s21 10 k0)) (r22 + 3).toNatClampNeg 6) (r22 + 4).toNatClampNeg (-1)) (r22 + 5).toNatClampNeg 0) (r22 + 6).toNatClampNeg 0) (r22 + 7).toNatClampNeg a1) (uA 1 (upd (upd (upd (upd (upd (upd (upd (sA s21 1) (r22).toNatClampNeg (sF s21 0 k0)) (r22 + 1).toNatClampNeg (sF s21 7 k0)) (r22 + 2).toNatClampNeg (sF s21 10 k0)) (r22 + 3).toNatClampNeg 6) (r22 + 4).toNatClampNeg (-1)) (r22 + 5).toNatClampNeg 0) (r22 + 6).toNatClampNeg 0) (uA 1 (upd (upd (upd (upd (upd (upd (sA s21 1) (r22).toNatClampNeg (sF s21 0 k0)) (r22 + 1).toNatClampNeg (sF s21 7 k0)) (r22 + 2).toNatClampNeg (sF s21 10 k0)) (r22 + 3).toNatClampNeg 6) (r22 + 4).toNatClampNeg (-1)) (r22 + 5).toNatClampNeg 0) (uA 1 (upd (upd (upd (upd (upd (sA s21 1) (r22).toNatClampNeg (sF s21 0 k0)) (r22 + 1).toNatClampNeg (sF s21 7 k0)) (r22 + 2).toNatClampNeg (sF s21 10 k0)) (r22 + 3).toNatClampNeg 6) (r22 + 4).toNatClampNeg (-1)) (uA 1 (upd (upd (upd (upd (sA s21 1) (r22).toNatClampNeg (sF s21 0 k0)) (r22 + 1).toNatClampNeg (sF s21 7 k0)) (r22 + 2).toNatClampNeg (sF s21 10 k0)) (r22 + 3).toNatClampNeg 6) (uA 1 (upd (upd (upd (sA s21 1) (r22).toNatClampNeg (sF s21 0 k0)) (r22 + 1).toNatClampNeg (sF s21 7 k0)) (r22 + 2).toNatClampNeg (sF s21 10 k0)) (uA 1 (upd (upd (sA s21 1) (r22).toNatClampNeg (sF s21 0 k0)) (r22 + 1).toNatClampNeg (sF s21 7 k0)) (uA 1 (upd (sA s21 1) (r22).toNatClampNeg (sF s21 0 k0)) s21))))))))), rfl, hw, by rw [ht]; exact hP, va_K.moved hW.alike hK, hD⟩, hS.F ht⟩) hS.2.2 dG_add_182
    · have hw := hw.2 c20
      refine lv_iconst (v := 1) hx hb dG_add_17 (by decide) ?_
      refine lv_goto (tgt := 22) hx hb dG_add_18 (by decide) ?_
      refine lv_istore_n (lv' := [(3, .int 1), (0, .ref (ad 3 0)), (1, .ref (ad 6 k0)), (2, .int a1)]) hx hb dG_add_22 rfl hl (by decide) rfl (fun ls hl => ?_)
      refine lv_aload_n hx hb dG_add_23 rfl (lv_at hl 1 rfl) ?_
      refine va_get (D := D) (ci := 3) (v := .int (sG s18 4)) (C := RG) (T := TG) (N := 2) hx hb hts inG hown hK hP 3 gX_3 rfl 1 (by decide) (hts _ tw_64) (fun _ h9 => h9) rfl dG_add_24 ?_
      have hFc := px_free hD hS hA
      refine va_calli (va_runS (As := [.int (sG s18 4)]) (rest := []) ⟨hx, hb, hml, hown, hts⟩ (c_firstCell l D ca ad s18 (sG s18 4) _ _ hw) (va_cwS 1 hts (gS tw_183 tw_184 tw_5 tw_185) rfl rfl rfl (by decide +kernel) ⟨Nat.le_of_ble_eq_true rfl, Nat.le_of_ble_eq_true rfl⟩) ⟨px_blind, fun U hU hW => px_pre hP hK hD hE hS hFc hU hW⟩ rfl rfl hl.1 rfl (lv_room (Nat.le_of_ble_eq_true rfl)) dG_add_27 ⟨Nat.le_of_ble_eq_true rfl, Nat.le_of_ble_eq_true rfl⟩) hS (fun q _ h => hFc q h) hFc (fun r38 s37 t H locs ht hvm hw hB _ _ hS => ?_)
      obtain ⟨hP, -, hD⟩ := hB
      rw [ht] at hP
      have hD := hD.weaken (fun _ _ _ h9 => hFc _ h9)
      refine lv_istore (lv' := [(4, .int r38), (3, .int 1), (0, .ref (ad 3 0)), (1, .ref (ad 6 k0)), (2, .int a1)]) hx hb dG_add_30 hl (by decide) rfl (fun ls hl => ?_)
      refine lv_aload_n hx hb dG_add_32 rfl (lv_at hl 2 rfl) ?_
      refine va_get (D := D) (ci := 3) (v := .ref (ad 5 0)) (C := RG) (T := TG) (N := 2) hx hb hts inG hown hK hP 3 gX_3 rfl 0 (by decide) (hts _ tw_63) (fun _ h9 => h9) rfl dG_add_33 ?_
      refine lv_iload hx hb dG_add_36 (lv_at hl 0 rfl) ?_
      refine lv_aload_n hx hb dG_add_38 rfl (lv_at hl 3 rfl) ?_
      refine va_get (D := D) (ci := 1) (v := .int (sF s37 0 k0)) (C := RP) (T := TP) (N := 16) hx hb hts inP hown hK hP (6 + k0) (gX_6 hk0) rfl 0 (by decide) (hts _ tw_78) (fun _ h9 => h9) rfl dG_add_39 ?_
      obtain ⟨hin39, hw⟩ := hw
      refine va_iast hx hb hK hP hD hS 5 0 gX_5 rfl hin39 dG_add_42 (fun H locs hP hD hS => ?_)
      rw [sX_5] at hP hD
      refine lv_aload_n hx hb dG_add_43 rfl (lv_at hl 2 rfl) ?_
      refine va_get (D := D) (ci := 3) (v := .ref (ad 5 0)) (C := RG) (T := TG) (N := 2) hx hb hts inG hown hK hP 3 gX_3 rfl 0 (by decide) (hts _ tw_63) (fun _ h9 => h9) rfl dG_add_44 ?_
      refine lv_iload hx hb dG_add_47 (lv_at hl 0 rfl) ?_
      refine lv_iconst (v := 1) hx hb dG_add_49 (by decide) ?_
      refine lv_iadd hx hb dG_add_50 ?_
      refine lv_aload_n hx hb dG_add_51 rfl (lv_at hl 3 rfl) ?_
      refine va_get (D := D) (ci := 1) (v := .int (sF s37 7 k0)) (C := RP) (T := TP) (N := 16) hx hb hts inP hown hK hP (6 + k0) (gX_6 hk0) rfl 7 (by decide) (hts _ tw_94) (fun _ h9 => h9) rfl dG_add_52 ?_
      obtain ⟨hin40, hw⟩ := hw
      refine va_iast hx hb hK hP hD hS 5 0 gX_5 rfl hin40 dG_add_55 (fun H locs hP hD hS => ?_)
      rw [sX_5] at hP hD
      refine lv_aload_n hx hb dG_add_56 rfl (lv_at hl 2 rfl) ?_
      refine va_get (D := D) (ci := 3) (v := .ref (ad 5 0)) (C := RG) (T := TG) (N := 2) hx hb hts inG hown hK hP 3 gX_3 rfl 0 (by decide) (hts _ tw_63) (fun _ h9 => h9) rfl dG_add_57 ?_
      refine lv_iload hx hb dG_add_60 (lv_at hl 0 rfl) ?_
      refine lv_iconst (v := 2) hx hb dG_add_62 (by decide) ?_
      refine lv_iadd hx hb dG_add_63 ?_
      refine lv_aload_n hx hb dG_add_64 rfl (lv_at hl 3 rfl) ?_
      refine va_get (D := D) (ci := 1) (v := .int (sF s37 10 k0)) (C := RP) (T := TP) (N := 16) hx hb hts inP hown hK hP (6 + k0) (gX_6 hk0) rfl 10 (by decide) (hts _ tw_103) (fun _ h9 => h9) rfl dG_add_65 ?_
      obtain ⟨hin41, hw⟩ := hw
      refine va_iast hx hb hK hP hD hS 5 0 gX_5 rfl hin41 dG_add_68 (fun H locs hP hD hS => ?_)
      rw [sX_5] at hP hD
      refine lv_aload_n hx hb dG_add_69 rfl (lv_at hl 2 rfl) ?_
      refine va_get (D := D) (ci := 3) (v := .ref (ad 5 0)) (C := RG) (T := TG) (N := 2) hx hb hts inG hown hK hP 3 gX_3 rfl 0 (by decide) (hts _ tw_63) (fun _ h9 => h9) rfl dG_add_70 ?_
      refine lv_iload hx hb dG_add_73 (lv_at hl 0 rfl) ?_
      refine lv_iconst (v := 3) hx hb dG_add_75 (by decide) ?_
      refine lv_iadd hx hb dG_add_76 ?_
      refine lv_aload_n hx hb dG_add_77 rfl (lv_at hl 3 rfl) ?_
      refine va_get (D := D) (ci := 1) (v := .int (sF s37 12 k0)) (C := RP) (T := TP) (N := 16) hx hb hts inP hown hK hP (6 + k0) (gX_6 hk0) rfl 12 (by decide) (hts _ tw_108) (fun _ h9 => h9) rfl dG_add_78 ?_
      refine lv_if_eq (tgt := 89) hx hb dG_add_81 (by decide) (fun c42 => ?_) (fun c42 => ?_)
      · have hw := hw.1 c42
        refine lv_aload_n hx hb dG_add_89 rfl (lv_at hl 3 rfl) ?_
        refine va_get (D := D) (ci := 1) (v := .int (sF s37 6 k0)) (C := RP) (T := TP) (N := 16) hx hb hts inP hown hK hP (6 + k0) (gX_6 hk0) rfl 6 (by decide) (hts _ tw_91) (fun _ h9 => h9) rfl dG_add_90 ?_
        obtain ⟨hin43, hw⟩ := hw
        refine va_iast hx hb hK hP hD hS 5 0 gX_5 rfl hin43 dG_add_93 (fun H locs hP hD hS => ?_)
        rw [sX_5] at hP hD
        refine lv_aload_n hx hb dG_add_94 rfl (lv_at hl 2 rfl) ?_
        refine va_get (D := D) (ci := 3) (v := .ref (ad 5 0)) (C := RG) (T := TG) (N := 2) hx hb hts inG hown hK hP 3 gX_3 rfl 0 (by decide) (hts _ tw_63) (fun _ h9 => h9) rfl dG_add_95 ?_
        refine lv_iload hx hb dG_add_98 (lv_at hl 0 rfl) ?_
        refine lv_iconst (v := 4) hx hb dG_add_100 (by decide) ?_
        refine lv_iadd hx hb dG_add_101 ?_
        refine lv_iload_n hx hb dG_add_102 rfl (lv_at hl 1 rfl) ?_
        refine lv_if_eq (tgt := 113) hx hb dG_add_103 (by decide) (fun c9 => absurd c9 (by decide)) (fun _ => ?_)
        refine lv_aload_n hx hb dG_add_106 rfl (lv_at hl 3 rfl) ?_
        refine va_get (D := D) (ci := 1) (v := .int (sF s37 8 k0)) (C := RP) (T := TP) (N := 16) hx hb hts inP hown hK hP (6 + k0) (gX_6 hk0) rfl 8 (by decide) (hts _ tw_97) (fun _ h9 => h9) rfl dG_add_107 ?_
        refine lv_goto (tgt := 114) hx hb dG_add_110 (by decide) ?_
        obtain ⟨hin44, hw⟩ := hw
        refine va_iast hx hb hK hP hD hS 5 0 gX_5 rfl hin44 dG_add_114 (fun H locs hP hD hS => ?_)
        rw [sX_5] at hP hD
        refine lv_aload_n hx hb dG_add_115 rfl (lv_at hl 2 rfl) ?_
        refine va_get (D := D) (ci := 3) (v := .ref (ad 5 0)) (C := RG) (T := TG) (N := 2) hx hb hts inG hown hK hP 3 gX_3 rfl 0 (by decide) (hts _ tw_63) (fun _ h9 => h9) rfl dG_add_116 ?_
        refine lv_iload hx hb dG_add_119 (lv_at hl 0 rfl) ?_
        refine lv_iconst (v := 5) hx hb dG_add_121 (by decide) ?_
        refine lv_iadd hx hb dG_add_122 ?_
        refine lv_iload_n hx hb dG_add_123 rfl (lv_at hl 1 rfl) ?_
        refine lv_if_eq (tgt := 134) hx hb dG_add_124 (by decide) (fun c9 => absurd c9 (by decide)) (fun _ => ?_)
        refine lv_aload_n hx hb dG_add_127 rfl (lv_at hl 3 rfl) ?_
        refine va_get (D := D) (ci := 1) (v := .int (sF s37 9 k0)) (C := RP) (T := TP) (N := 16) hx hb hts inP hown hK hP (6 + k0) (gX_6 hk0) rfl 9 (by decide) (hts _ tw_100) (fun _ h9 => h9) rfl dG_add_128 ?_
        refine lv_goto (tgt := 135) hx hb dG_add_131 (by decide) ?_
        obtain ⟨hin45, hw⟩ := hw
        refine va_iast hx hb hK hP hD hS 5 0 gX_5 rfl hin45 dG_add_135 (fun H locs hP hD hS => ?_)
        rw [sX_5] at hP hD
        refine lv_aload_n hx hb dG_add_136 rfl (lv_at hl 2 rfl) ?_
        refine va_get (D := D) (ci := 3) (v := .ref (ad 5 0)) (C := RG) (T := TG) (N := 2) hx hb hts inG hown hK hP 3 gX_3 rfl 0 (by decide) (hts _ tw_63) (fun _ h9 => h9) rfl dG_add_137 ?_
        refine lv_iload hx hb dG_add_140 (lv_at hl 0 rfl) ?_
        refine lv_bipush (v := 6) hx hb dG_add_142 (by decide) ?_
        refine lv_iadd hx hb dG_add_144 ?_
        refine lv_aload_n hx hb dG_add_145 rfl (lv_at hl 3 rfl) ?_
        refine va_get (D := D) (ci := 1) (v := .int (sF s37 12 k0)) (C := RP) (T := TP) (N := 16) hx hb hts inP hown hK hP (6 + k0) (gX_6 hk0) rfl 12 (by decide) (hts _ tw_108) (fun _ h9 => h9) rfl dG_add_146 ?_
        refine lv_if_eq (tgt := 156) hx hb dG_add_149 (by decide) (fun _ => ?_) (fun c9 => absurd c42 c9)
        refine lv_aload_n hx hb dG_add_156 rfl (lv_at hl 3 rfl) ?_
        refine va_get (D := D) (ci := 1) (v := .int (sF s37 3 k0)) (C := RP) (T := TP) (N := 16) hx hb hts inP hown hK hP (6 + k0) (gX_6 hk0) rfl 3 (by decide) (hts _ tw_84) (fun _ h9 => h9) rfl dG_add_157 ?_
        obtain ⟨hin46, hw⟩ := hw
        refine va_iast hx hb hK hP hD hS 5 0 gX_5 rfl hin46 dG_add_160 (fun H locs hP hD hS => ?_)
        rw [sX_5] at hP hD
        refine lv_aload_n hx hb dG_add_161 rfl (lv_at hl 2 rfl) ?_
        refine va_get (D := D) (ci := 3) (v := .ref (ad 5 0)) (C := RG) (T := TG) (N := 2) hx hb hts inG hown hK hP 3 gX_3 rfl 0 (by decide) (hts _ tw_63) (fun _ h9 => h9) rfl dG_add_162 ?_
        refine lv_iload hx hb dG_add_165 (lv_at hl 0 rfl) ?_
        refine lv_bipush (v := 7) hx hb dG_add_167 (by decide) ?_
        refine lv_iadd hx hb dG_add_169 ?_
        refine lv_iload_n hx hb dG_add_170 rfl (lv_at hl 4 rfl) ?_
        obtain ⟨hin47, hw⟩ := hw
        refine va_iast hx hb hK hP hD hS 5 0 gX_5 rfl hin47 dG_add_171 (fun H locs hP hD hS => ?_)
        rw [sX_5] at hP hD
        refine lv_aload_n hx hb dG_add_172 rfl (lv_at hl 2 rfl) ?_
        refine lv_dup hx hb dG_add_173 rfl ?_
        refine va_get (D := D) (ci := 3) (v := .int (sG s37 4)) (C := RG) (T := TG) (N := 2) hx hb hts inG hown hK hP 3 gX_3 rfl 1 (by decide) (hts _ tw_64) (fun _ h9 => h9) rfl dG_add_174 ?_
        refine lv_iconst (v := 1) hx hb dG_add_177 (by decide) ?_
        refine lv_iadd hx hb dG_add_178 ?_
        refine va_put (D := D) (ci := 3) (v := .int ((sG s37 4) + 1)) (ty := .int) (C := RG) (T := TG) (N := 2) hx hb hts inG tyG tyG_ok nmG hown hK hP hD hS 3 gX_3 rfl 1 (by decide) (hts _ tw_64) (fun _ h9 => h9) rfl (by decide +kernel) rfl rfl (Nat.le_of_ble_eq_true rfl) dG_add_179 (fun H locs hP hD hS => ?_)
        rw [sX_3_1] at hP hD
        exact W.vret hx hb hr (fun t ht hW => ⟨⟨(uG 4 ((sG s37 4) + 1) (uA 1 (upd (upd (upd (upd (upd (upd (upd (upd (sA s37 1) (r38).toNatClampNeg (sF s37 0 k0)) (r38 + 1).toNatClampNeg (sF s37 7 k0)) (r38 + 2).toNatClampNeg (sF s37 10 k0)) (r38 + 3).toNatClampNeg (sF s37 6 k0)) (r38 + 4).toNatClampNeg (sF s37 8 k0)) (r38 + 5).toNatClampNeg (sF s37 9 k0)) (r38 + 6).toNatClampNeg (sF s37 3 k0)) (r38 + 7).toNatClampNeg a1) (uA 1 (upd (upd (upd (upd (upd (upd (upd (sA s37 1) (r38).toNatClampNeg (sF s37 0 k0)) (r38 + 1).toNatClampNeg (sF s37 7 k0)) (r38 + 2).toNatClampNeg (sF s37 10 k0)) (r38 + 3).toNatClampNeg (sF s37 6 k0)) (r38 + 4).toNatClampNeg (sF s37 8 k0)) (r38 + 5).toNatClampNeg (sF s37 9 k0)) (r38 + 6).toNatClampNeg (sF s37 3 k0)) (uA 1 (upd (upd (upd (upd (upd (upd (sA s37 1) (r38).toNatClampNeg (sF s37 0 k0)) (r38 + 1).toNatClampNeg (sF s37 7 k0)) (r38 + 2).toNatClampNeg (sF s37 10 k0)) (r38 + 3).toNatClampNeg (sF s37 6 k0)) (r38 + 4).toNatClampNeg (sF s37 8 k0)) (r38 + 5).toNatClampNeg (sF s37 9 k0)) (uA 1 (upd (upd (upd (upd (upd (sA s37 1) (r38).toNatClampNeg (sF s37 0 k0)) (r38 + 1).toNatClampNeg (sF s37 7 k0)) (r38 + 2).toNatClampNeg (sF s37 10 k0)) (r38 + 3).toNatClampNeg (sF s37 6 k0)) (r38 + 4).toNatClampNeg (sF s37 8 k0)) (uA 1 (upd (upd (upd (upd (sA s37 1) (r38).toNatClampNeg (sF s37 0 k0)) (r38 + 1).toNatClampNeg (sF s37 7 k0)) (r38 + 2).toNatClampNeg (sF s37 10 k0)) (r38 + 3).toNatClampNeg (sF s37 6 k0)) (uA 1 (upd (upd (upd (sA s37 1) (r38).toNatClampNeg (sF s37 0 k0)) (r38 + 1).toNatClampNeg (sF s37 7 k0)) (r38 + 2).toNatClampNeg (sF s37 10 k0)) (uA 1 (upd (upd (sA s37 1) (r38).toNatClampNeg (sF s37 0 k0)) (r38 + 1).toNatClampNeg (sF s37 7 k0)) (uA 1 (upd (sA s37 1) (r38).toNatClampNeg (sF s37 0 k0)) s37))))))))), rfl, hw, by rw [ht]; exact hP, va_K.moved hW.alike hK, hD⟩, hS.F ht⟩) hS.2.2 dG_add_182
      · have hw := hw.2 c42
        refine lv_bipush (v := 6) hx hb dG_add_84 (by decide) ?_
        refine lv_goto (tgt := 93) hx hb dG_add_86 (by decide) ?_
        obtain ⟨hin48, hw⟩ := hw
        refine va_iast hx hb hK hP hD hS 5 0 gX_5 rfl hin48 dG_add_93 (fun H locs hP hD hS => ?_)
        rw [sX_5] at hP hD
        refine lv_aload_n hx hb dG_add_94 rfl (lv_at hl 2 rfl) ?_
        refine va_get (D := D) (ci := 3) (v := .ref (ad 5 0)) (C := RG) (T := TG) (N := 2) hx hb hts inG hown hK hP 3 gX_3 rfl 0 (by decide) (hts _ tw_63) (fun _ h9 => h9) rfl dG_add_95 ?_
        refine lv_iload hx hb dG_add_98 (lv_at hl 0 rfl) ?_
        refine lv_iconst (v := 4) hx hb dG_add_100 (by decide) ?_
        refine lv_iadd hx hb dG_add_101 ?_
        refine lv_iload_n hx hb dG_add_102 rfl (lv_at hl 1 rfl) ?_
        refine lv_if_eq (tgt := 113) hx hb dG_add_103 (by decide) (fun c9 => absurd c9 (by decide)) (fun _ => ?_)
        refine lv_aload_n hx hb dG_add_106 rfl (lv_at hl 3 rfl) ?_
        refine va_get (D := D) (ci := 1) (v := .int (sF s37 8 k0)) (C := RP) (T := TP) (N := 16) hx hb hts inP hown hK hP (6 + k0) (gX_6 hk0) rfl 8 (by decide) (hts _ tw_97) (fun _ h9 => h9) rfl dG_add_107 ?_
        refine lv_goto (tgt := 114) hx hb dG_add_110 (by decide) ?_
        obtain ⟨hin49, hw⟩ := hw
        refine va_iast hx hb hK hP hD hS 5 0 gX_5 rfl hin49 dG_add_114 (fun H locs hP hD hS => ?_)
        rw [sX_5] at hP hD
        refine lv_aload_n hx hb dG_add_115 rfl (lv_at hl 2 rfl) ?_
        refine va_get (D := D) (ci := 3) (v := .ref (ad 5 0)) (C := RG) (T := TG) (N := 2) hx hb hts inG hown hK hP 3 gX_3 rfl 0 (by decide) (hts _ tw_63) (fun _ h9 => h9) rfl dG_add_116 ?_
        refine lv_iload hx hb dG_add_119 (lv_at hl 0 rfl) ?_
        refine lv_iconst (v := 5) hx hb dG_add_121 (by decide) ?_
        refine lv_iadd hx hb dG_add_122 ?_
        refine lv_iload_n hx hb dG_add_123 rfl (lv_at hl 1 rfl) ?_
        refine lv_if_eq (tgt := 134) hx hb dG_add_124 (by decide) (fun c9 => absurd c9 (by decide)) (fun _ => ?_)
        refine lv_aload_n hx hb dG_add_127 rfl (lv_at hl 3 rfl) ?_
        refine va_get (D := D) (ci := 1) (v := .int (sF s37 9 k0)) (C := RP) (T := TP) (N := 16) hx hb hts inP hown hK hP (6 + k0) (gX_6 hk0) rfl 9 (by decide) (hts _ tw_100) (fun _ h9 => h9) rfl dG_add_128 ?_
        refine lv_goto (tgt := 135) hx hb dG_add_131 (by decide) ?_
        obtain ⟨hin50, hw⟩ := hw
        refine va_iast hx hb hK hP hD hS 5 0 gX_5 rfl hin50 dG_add_135 (fun H locs hP hD hS => ?_)
        rw [sX_5] at hP hD
        refine lv_aload_n hx hb dG_add_136 rfl (lv_at hl 2 rfl) ?_
        refine va_get (D := D) (ci := 3) (v := .ref (ad 5 0)) (C := RG) (T := TG) (N := 2) hx hb hts inG hown hK hP 3 gX_3 rfl 0 (by decide) (hts _ tw_63) (fun _ h9 => h9) rfl dG_add_137 ?_
        refine lv_iload hx hb dG_add_140 (lv_at hl 0 rfl) ?_
        refine lv_bipush (v := 6) hx hb dG_add_142 (by decide) ?_
        refine lv_iadd hx hb dG_add_144 ?_
        refine lv_aload_n hx hb dG_add_145 rfl (lv_at hl 3 rfl) ?_
        refine va_get (D := D) (ci := 1) (v := .int (sF s37 12 k0)) (C := RP) (T := TP) (N := 16) hx hb hts inP hown hK hP (6 + k0) (gX_6 hk0) rfl 12 (by decide) (hts _ tw_108) (fun _ h9 => h9) rfl dG_add_146 ?_
        refine lv_if_eq (tgt := 156) hx hb dG_add_149 (by decide) (fun c9 => absurd c9 c42) (fun _ => ?_)
        refine lv_iconst (v := 0) hx hb dG_add_152 (by decide) ?_
        refine lv_goto (tgt := 160) hx hb dG_add_153 (by decide) ?_
        obtain ⟨hin51, hw⟩ := hw
        refine va_iast hx hb hK hP hD hS 5 0 gX_5 rfl hin51 dG_add_160 (fun H locs hP hD hS => ?_)
        rw [sX_5] at hP hD
        refine lv_aload_n hx hb dG_add_161 rfl (lv_at hl 2 rfl) ?_
        refine va_get (D := D) (ci := 3) (v := .ref (ad 5 0)) (C := RG) (T := TG) (N := 2) hx hb hts inG hown hK hP 3 gX_3 rfl 0 (by decide) (hts _ tw_63) (fun _ h9 => h9) rfl dG_add_162 ?_
        refine lv_iload hx hb dG_add_165 (lv_at hl 0 rfl) ?_
        refine lv_bipush (v := 7) hx hb dG_add_167 (by decide) ?_
        refine lv_iadd hx hb dG_add_169 ?_
        refine lv_iload_n hx hb dG_add_170 rfl (lv_at hl 4 rfl) ?_
        obtain ⟨hin52, hw⟩ := hw
        refine va_iast hx hb hK hP hD hS 5 0 gX_5 rfl hin52 dG_add_171 (fun H locs hP hD hS => ?_)
        rw [sX_5] at hP hD
        refine lv_aload_n hx hb dG_add_172 rfl (lv_at hl 2 rfl) ?_
        refine lv_dup hx hb dG_add_173 rfl ?_
        refine va_get (D := D) (ci := 3) (v := .int (sG s37 4)) (C := RG) (T := TG) (N := 2) hx hb hts inG hown hK hP 3 gX_3 rfl 1 (by decide) (hts _ tw_64) (fun _ h9 => h9) rfl dG_add_174 ?_
        refine lv_iconst (v := 1) hx hb dG_add_177 (by decide) ?_
        refine lv_iadd hx hb dG_add_178 ?_
        refine va_put (D := D) (ci := 3) (v := .int ((sG s37 4) + 1)) (ty := .int) (C := RG) (T := TG) (N := 2) hx hb hts inG tyG tyG_ok nmG hown hK hP hD hS 3 gX_3 rfl 1 (by decide) (hts _ tw_64) (fun _ h9 => h9) rfl (by decide +kernel) rfl rfl (Nat.le_of_ble_eq_true rfl) dG_add_179 (fun H locs hP hD hS => ?_)
        rw [sX_3_1] at hP hD
        exact W.vret hx hb hr (fun t ht hW => ⟨⟨(uG 4 ((sG s37 4) + 1) (uA 1 (upd (upd (upd (upd (upd (upd (upd (upd (sA s37 1) (r38).toNatClampNeg (sF s37 0 k0)) (r38 + 1).toNatClampNeg (sF s37 7 k0)) (r38 + 2).toNatClampNeg (sF s37 10 k0)) (r38 + 3).toNatClampNeg 6) (r38 + 4).toNatClampNeg (sF s37 8 k0)) (r38 + 5).toNatClampNeg (sF s37 9 k0)) (r38 + 6).toNatClampNeg 0) (r38 + 7).toNatClampNeg a1) (uA 1 (upd (upd (upd (upd (upd (upd (upd (sA s37 1) (r38).toNatClampNeg (sF s37 0 k0)) (r38 + 1).toNatClampNeg (sF s37 7 k0)) (r38 + 2).toNatClampNeg (sF s37 10 k0)) (r38 + 3).toNatClampNeg 6) (r38 + 4).toNatClampNeg (sF s37 8 k0)) (r38 + 5).toNatClampNeg (sF s37 9 k0)) (r38 + 6).toNatClampNeg 0) (uA 1 (upd (upd (upd (upd (upd (upd (sA s37 1) (r38).toNatClampNeg (sF s37 0 k0)) (r38 + 1).toNatClampNeg (sF s37 7 k0)) (r38 + 2).toNatClampNeg (sF s37 10 k0)) (r38 + 3).toNatClampNeg 6) (r38 + 4).toNatClampNeg (sF s37 8 k0)) (r38 + 5).toNatClampNeg (sF s37 9 k0)) (uA 1 (upd (upd (upd (upd (upd (sA s37 1) (r38).toNatClampNeg (sF s37 0 k0)) (r38 + 1).toNatClampNeg (sF s37 7 k0)) (r38 + 2).toNatClampNeg (sF s37 10 k0)) (r38 + 3).toNatClampNeg 6) (r38 + 4).toNatClampNeg (sF s37 8 k0)) (uA 1 (upd (upd (upd (upd (sA s37 1) (r38).toNatClampNeg (sF s37 0 k0)) (r38 + 1).toNatClampNeg (sF s37 7 k0)) (r38 + 2).toNatClampNeg (sF s37 10 k0)) (r38 + 3).toNatClampNeg 6) (uA 1 (upd (upd (upd (sA s37 1) (r38).toNatClampNeg (sF s37 0 k0)) (r38 + 1).toNatClampNeg (sF s37 7 k0)) (r38 + 2).toNatClampNeg (sF s37 10 k0)) (uA 1 (upd (upd (sA s37 1) (r38).toNatClampNeg (sF s37 0 k0)) (r38 + 1).toNatClampNeg (sF s37 7 k0)) (uA 1 (upd (sA s37 1) (r38).toNatClampNeg (sF s37 0 k0)) s37))))))))), rfl, hw, by rw [ht]; exact hP, va_K.moved hW.alike hK, hD⟩, hS.F ht⟩) hS.2.2 dG_add_182
theorem dH_abandon_0 : decode cH_abandon 0 = .ok (.aload_n 1, 1) := by decide +kernel
theorem dH_abandon_1 : decode cH_abandon 1 = .ok (.invokevirtual 78, 3) := by decide +kernel
theorem dH_abandon_4 : decode cH_abandon 4 = .ok (.ifCond .ne 4, 3) := by decide +kernel
theorem dH_abandon_7 : decode cH_abandon 7 = .ok (.return_, 1) := by decide +kernel
theorem dH_abandon_8 : decode cH_abandon 8 = .ok (.aload_n 1, 1) := by decide +kernel
theorem dH_abandon_9 : decode cH_abandon 9 = .ok (.getfield 234, 3) := by decide +kernel
theorem dH_abandon_12 : decode cH_abandon 12 = .ok (.invokestatic 100, 3) := by decide +kernel
theorem dH_abandon_15 : decode cH_abandon 15 = .ok (.ifCond .eq 18, 3) := by decide +kernel
theorem dH_abandon_18 : decode cH_abandon 18 = .ok (.aload_n 1, 1) := by decide +kernel
theorem dH_abandon_19 : decode cH_abandon 19 = .ok (.iconst (-1), 1) := by decide +kernel
theorem dH_abandon_20 : decode cH_abandon 20 = .ok (.putfield 104, 3) := by decide +kernel
theorem dH_abandon_23 : decode cH_abandon 23 = .ok (.aload_n 0, 1) := by decide +kernel
theorem dH_abandon_24 : decode cH_abandon 24 = .ok (.aload_n 1, 1) := by decide +kernel
theorem dH_abandon_25 : decode cH_abandon 25 = .ok (.iconst 2, 1) := by decide +kernel
theorem dH_abandon_26 : decode cH_abandon 26 = .ok (.iconst (-1), 1) := by decide +kernel
theorem dH_abandon_27 : decode cH_abandon 27 = .ok (.invokevirtual 134, 3) := by decide +kernel
theorem dH_abandon_30 : decode cH_abandon 30 = .ok (.goto 10, 3) := by decide +kernel
theorem dH_abandon_33 : decode cH_abandon 33 = .ok (.aload_n 0, 1) := by decide +kernel
theorem dH_abandon_34 : decode cH_abandon 34 = .ok (.aload_n 1, 1) := by decide +kernel
theorem dH_abandon_35 : decode cH_abandon 35 = .ok (.iconst 3, 1) := by decide +kernel
theorem dH_abandon_36 : decode cH_abandon 36 = .ok (.iconst (-1), 1) := by decide +kernel
theorem dH_abandon_37 : decode cH_abandon 37 = .ok (.invokevirtual 134, 3) := by decide +kernel
theorem dH_abandon_40 : decode cH_abandon 40 = .ok (.return_, 1) := by decide +kernel
def wp_abandon (post : Sg → Prop) (σ : Sg) (k0 : Nat) : Prop := wp_waits (fun r2 s1 => ((¬ (r2 = 0) → wp_isCommand (fun r5 s4 => (((r5 = 0) → wp_tell (fun s7 => post s7) s4 k0 3 (-1)) ∧ (¬ (r5 = 0) → wp_tell (fun s9 => post s9) (uF 8 k0 (-1) s4) k0 2 (-1)))) s1 (sF s1 6 k0)) ∧ ((r2 = 0) → post s1))) σ k0
set_option maxHeartbeats 4000000 in
set_option maxRecDepth 100000 in
theorem c_abandon (l : Launch) (D : va_G) (ca : Nat → ClassId) (ad : Nat → Nat → Nat) (σ : Sg) (k0 : Nat) (hk0 : k0 < 8) (sz : Nat) (post : Sg → Prop) (hw : wp_abandon post σ k0) : Met l yH_abandon wsH_abandon ({ frames := 2, cells := 0, slots := 0, locals := 45 }) (va_Pc [.ref (ad 0 0), .ref (ad 6 k0)] (preX D ca ad σ sz)) (va_Qv post (atX D ca ad (va_A (wX ca ad σ) sz)) (va_A (wX ca ad σ) sz)) 0 0 (va_A (wX ca ad σ) sz) := by
  refine Met.ofW (cc := cH_abandon) (maxL := 2) (ret := none) (by decide) rfl ?_
  intro p e s m args below meth c s₁ B hml hv
  obtain ⟨rfl, hsz, hP, hK, hD0, hE⟩ := hv
  have hx := B.exec
  have hb := B.bytes
  have hr := B.returns
  have hts : ∀ w ∈ tbG, w.before _ s = true := fun w h => atoms_spec (ws := wsH_abandon) B.pre w (List.mem_cons_of_mem _ h)
  have hown : s.vm.findClass RH = some m.cls := findClass_of_methodNamed B.named
  have hlocks := B.notSynchronized
  subst hsz
  have hD := hD0.self (sz := s.heap.size)
  generalize hAe : va_A (wX ca ad σ) s.heap.size = A at hD hE ⊢
  have hA : ∀ q : Nat, s.heap.size ≤ q → A q := fun q h => by rw [← hAe]; exact Or.inr h
  clear hAe
  have hS : va_S A s.heap s.heap [] := va_S.rf
  have hl := lv_entry ([.ref (ad 0 0), .ref (ad 6 k0)]) (n := 2) (Nat.le_of_ble_eq_true rfl)
  rw [lg_entry_eq]
  generalize (lg_sl ([.ref (ad 0 0), .ref (ad 6 k0)]) ++ List.replicate (2 - (lg_sl ([.ref (ad 0 0), .ref (ad 6 k0)])).length) Slot.unset).toArray = ls at hl ⊢
  have hl : lv_has ls 2 [(0, .ref (ad 0 0)), (1, .ref (ad 6 k0))] := hl
  unfold wp_abandon at hw
  have hP : va_P D clX (wX ca ad σ) s.heap := hP
  refine lv_aload_n hx hb dH_abandon_0 rfl (lv_at hl 1 rfl) ?_
  have hFc := px_free hD hS hA
  refine va_calli (va_runV (As := []) (rest := []) ⟨hx, hb, hml, hown, hts⟩ (c_waits l D ca ad σ k0 hk0 _ _ hw) (cwV 0 hts (gV tw_198 tw_199 tw_200 tw_6 tw_201) rfl rfl rfl (by decide +kernel) ⟨Nat.le_of_ble_eq_true rfl, Nat.le_of_ble_eq_true rfl⟩) ⟨px_blind, (px_recv hK hP (gX_6 hk0) rfl), fun U hU hW => px_pre hP hK hD hE hS hFc hU hW⟩ rfl rfl hl.1 rfl (lv_room (Nat.le_of_ble_eq_true rfl)) dH_abandon_1 ⟨Nat.le_of_ble_eq_true rfl, Nat.le_of_ble_eq_true rfl⟩) hS (fun q _ h => hFc q h) hFc (fun r2 s1 t H locs ht hvm hw hB _ _ hS => ?_)
  obtain ⟨hP, -, hD⟩ := hB
  rw [ht] at hP
  have hD := hD.weaken (fun _ _ _ h9 => hFc _ h9)
  refine lv_if_ne (tgt := 8) hx hb dH_abandon_4 (by decide) (fun c3 => ?_) (fun c3 => ?_)
  · have hw := hw.1 c3
    refine lv_aload_n hx hb dH_abandon_8 rfl (lv_at hl 1 rfl) ?_
    refine va_get (D := D) (ci := 1) (v := .int (sF s1 6 k0)) (C := RP) (T := TP) (N := 16) hx hb hts inP hown hK hP (6 + k0) (gX_6 hk0) rfl 6 (by decide) (hts _ tw_92) (fun _ h9 => h9) rfl dH_abandon_9 ?_
    have hFc := px_free hD hS hA
    refine va_calli (va_runS (As := [.int (sF s1 6 k0)]) (rest := []) ⟨hx, hb, hml, hown, hts⟩ (c_isCommand l D ca ad s1 (sF s1 6 k0) _ _ hw) (va_cwS 1 hts (gS tw_440 tw_441 tw_1 tw_442) rfl rfl rfl (by decide +kernel) ⟨Nat.le_of_ble_eq_true rfl, Nat.le_of_ble_eq_true rfl⟩) ⟨px_blind, fun U hU hW => px_pre hP hK hD hE hS hFc hU hW⟩ rfl rfl hl.1 rfl (lv_room (Nat.le_of_ble_eq_true rfl)) dH_abandon_12 ⟨Nat.le_of_ble_eq_true rfl, Nat.le_of_ble_eq_true rfl⟩) hS (fun q _ h => hFc q h) hFc (fun r5 s4 t H locs ht hvm hw hB _ _ hS => ?_)
    obtain ⟨hP, -, hD⟩ := hB
    rw [ht] at hP
    have hD := hD.weaken (fun _ _ _ h9 => hFc _ h9)
    refine lv_if_eq (tgt := 33) hx hb dH_abandon_15 (by decide) (fun c6 => ?_) (fun c6 => ?_)
    · have hw := hw.1 c6
      refine lv_aload_n hx hb dH_abandon_33 rfl (lv_at hl 0 rfl) ?_
      refine lv_aload_n hx hb dH_abandon_34 rfl (lv_at hl 1 rfl) ?_
      refine lv_iconst (v := 3) hx hb dH_abandon_35 (by decide) ?_
      refine lv_iconst (v := (-1)) hx hb dH_abandon_36 (by decide) ?_
      have hFc := px_free hD hS hA
      refine va_callv (va_runV (As := [.ref (ad 6 k0), .int 3, .int (-1)]) (rest := []) ⟨hx, hb, hml, hown, hts⟩ (c_tell l D ca ad s4 k0 hk0 3 (-1) _ _ hw) (cwV 3 hts (gV tw_455 tw_457 tp_11 tw_1 tw_458) rfl rfl rfl (by decide +kernel) ⟨Nat.le_of_ble_eq_true rfl, Nat.le_of_ble_eq_true rfl⟩) ⟨px_blind, (px_recv hK hP gX_0 rfl), fun U hU hW => px_pre hP hK hD hE hS hFc hU hW⟩ rfl rfl hl.1 rfl (lv_room (Nat.le_of_ble_eq_true rfl)) dH_abandon_37 ⟨Nat.le_of_ble_eq_true rfl, Nat.le_of_ble_eq_true rfl⟩) hS (fun q _ h => hFc q h) hFc (fun s7 t H locs ht hvm hw hB _ _ hS => ?_)
      obtain ⟨hP, -, hD⟩ := hB
      rw [ht] at hP
      have hD := hD.weaken (fun _ _ _ h9 => hFc _ h9)
      exact W.vret hx hb hr (fun t ht hW => ⟨⟨s7, rfl, hw, by rw [ht]; exact hP, va_K.moved hW.alike hK, hD⟩, hS.F ht⟩) hS.2.2 dH_abandon_40
    · have hw := hw.2 c6
      refine lv_aload_n hx hb dH_abandon_18 rfl (lv_at hl 1 rfl) ?_
      refine lv_iconst (v := (-1)) hx hb dH_abandon_19 (by decide) ?_
      refine va_put (D := D) (ci := 1) (v := .int (-1)) (ty := .int) (C := RP) (T := TP) (N := 16) hx hb hts inP tyP tyP_ok nmP hown hK hP hD hS (6 + k0) (gX_6 hk0) rfl 8 (by decide) (hts _ tw_98) (fun _ h9 => h9) rfl (by decide +kernel) rfl rfl (Nat.le_of_ble_eq_true rfl) dH_abandon_20 (fun H locs hP hD hS => ?_)
      rw [sX_6_8 hk0] at hP hD
      refine lv_aload_n hx hb dH_abandon_23 rfl (lv_at hl 0 rfl) ?_
      refine lv_aload_n hx hb dH_abandon_24 rfl (lv_at hl 1 rfl) ?_
      refine lv_iconst (v := 2) hx hb dH_abandon_25 (by decide) ?_
      refine lv_iconst (v := (-1)) hx hb dH_abandon_26 (by decide) ?_
      have hFc := px_free hD hS hA
      refine va_callv (va_runV (As := [.ref (ad 6 k0), .int 2, .int (-1)]) (rest := []) ⟨hx, hb, hml, hown, hts⟩ (c_tell l D ca ad (uF 8 k0 (-1) s4) k0 hk0 2 (-1) _ _ hw) (cwV 3 hts (gV tw_455 tw_457 tp_11 tw_1 tw_458) rfl rfl rfl (by decide +kernel) ⟨Nat.le_of_ble_eq_true rfl, Nat.le_of_ble_eq_true rfl⟩) ⟨px_blind, (px_recv hK hP gX_0 rfl), fun U hU hW => px_pre hP hK hD hE hS hFc hU hW⟩ rfl rfl hl.1 rfl (lv_room (Nat.le_of_ble_eq_true rfl)) dH_abandon_27 ⟨Nat.le_of_ble_eq_true rfl, Nat.le_of_ble_eq_true rfl⟩) hS (fun q _ h => hFc q h) hFc (fun s9 t H locs ht hvm hw hB _ _ hS => ?_)
      obtain ⟨hP, -, hD⟩ := hB
      rw [ht] at hP
      have hD := hD.weaken (fun _ _ _ h9 => hFc _ h9)
      refine lv_goto (tgt := 40) hx hb dH_abandon_30 (by decide) ?_
      exact W.vret hx hb hr (fun t ht hW => ⟨⟨s9, rfl, hw, by rw [ht]; exact hP, va_K.moved hW.alike hK, hD⟩, hS.F ht⟩) hS.2.2 dH_abandon_40
  · have hw := hw.2 c3
    exact W.vret hx hb hr (fun t ht hW => ⟨⟨s1, rfl, hw, by rw [ht]; exact hP, va_K.moved hW.alike hK, hD⟩, hS.F ht⟩) hS.2.2 dH_abandon_7
theorem dH_send_0 : decode cH_send 0 = .ok (.aload_n 1, 1) := by decide +kernel
theorem dH_send_1 : decode cH_send 1 = .ok (.dup, 1) := by decide +kernel
theorem dH_send_2 : decode cH_send 2 = .ok (.getfield 162, 3) := by decide +kernel
theorem dH_send_5 : decode cH_send 5 = .ok (.iconst 1, 1) := by decide +kernel
theorem dH_send_6 : decode cH_send 6 = .ok (.iadd, 1) := by decide +kernel
theorem dH_send_7 : decode cH_send 7 = .ok (.putfield 162, 3) := by decide +kernel
theorem dH_send_10 : decode cH_send 10 = .ok (.aload_n 1, 1) := by decide +kernel
theorem dH_send_11 : decode cH_send 11 = .ok (.getfield 162, 3) := by decide +kernel
theorem dH_send_14 : decode cH_send 14 = .ok (.bipush 40, 2) := by decide +kernel
theorem dH_send_16 : decode cH_send 16 = .ok (.if_icmp .le 9, 3) := by decide +kernel
theorem dH_send_19 : decode cH_send 19 = .ok (.aload_n 0, 1) := by decide +kernel
theorem dH_send_20 : decode cH_send 20 = .ok (.aload_n 1, 1) := by decide +kernel
theorem dH_send_21 : decode cH_send 21 = .ok (.invokevirtual 114, 3) := by decide +kernel
theorem dH_send_24 : decode cH_send 24 = .ok (.return_, 1) := by decide +kernel
theorem dH_send_25 : decode cH_send 25 = .ok (.aload_n 0, 1) := by decide +kernel
theorem dH_send_26 : decode cH_send 26 = .ok (.getfield 25, 3) := by decide +kernel
theorem dH_send_29 : decode cH_send 29 = .ok (.aload_n 1, 1) := by decide +kernel
theorem dH_send_30 : decode cH_send 30 = .ok (.aload_n 0, 1) := by decide +kernel
theorem dH_send_31 : decode cH_send 31 = .ok (.getfield 37, 3) := by decide +kernel
theorem dH_send_34 : decode cH_send 34 = .ok (.invokevirtual 235, 3) := by decide +kernel
theorem dH_send_37 : decode cH_send 37 = .ok (.aload_n 0, 1) := by decide +kernel
theorem dH_send_38 : decode cH_send 38 = .ok (.aload_n 1, 1) := by decide +kernel
theorem dH_send_39 : decode cH_send 39 = .ok (.bipush 60, 2) := by decide +kernel
theorem dH_send_41 : decode cH_send 41 = .ok (.iconst 1, 1) := by decide +kernel
theorem dH_send_42 : decode cH_send 42 = .ok (.invokevirtual 137, 3) := by decide +kernel
theorem dH_send_45 : decode cH_send 45 = .ok (.return_, 1) := by decide +kernel
def wp_send (post : Sg → Prop) (σ : Sg) (k0 : Nat) : Prop := (((((sF σ 11 k0) + 1) ≤ 40) → wp_logAdd (fun s2 => wp_makeAlarm (fun s4 => post s4) s2 k0 60 1) (uF 11 k0 ((sF σ 11 k0) + 1) σ) k0 (sG σ 1)) ∧ (¬ (((sF σ 11 k0) + 1) ≤ 40) → wp_abandon (fun s6 => post s6) (uF 11 k0 ((sF σ 11 k0) + 1) σ) k0))
set_option maxHeartbeats 4000000 in
set_option maxRecDepth 100000 in
theorem c_send (l : Launch) (D : va_G) (ca : Nat → ClassId) (ad : Nat → Nat → Nat) (σ : Sg) (k0 : Nat) (hk0 : k0 < 8) (sz : Nat) (post : Sg → Prop) (hw : wp_send post σ k0) : Met l yH_send wsH_send ({ frames := 3, cells := 0, slots := 0, locals := 66 }) (va_Pc [.ref (ad 0 0), .ref (ad 6 k0)] (preX D ca ad σ sz)) (va_Qv post (atX D ca ad (va_A (wX ca ad σ) sz)) (va_A (wX ca ad σ) sz)) 0 0 (va_A (wX ca ad σ) sz) := by
  refine Met.ofW (cc := cH_send) (maxL := 2) (ret := none) (by decide) rfl ?_
  intro p e s m args below meth c s₁ B hml hv
  obtain ⟨rfl, hsz, hP, hK, hD0, hE⟩ := hv
  have hx := B.exec
  have hb := B.bytes
  have hr := B.returns
  have hts : ∀ w ∈ tbG, w.before _ s = true := fun w h => atoms_spec (ws := wsH_send) B.pre w (List.mem_cons_of_mem _ h)
  have hown : s.vm.findClass RH = some m.cls := findClass_of_methodNamed B.named
  have hlocks := B.notSynchronized
  subst hsz
  have hD := hD0.self (sz := s.heap.size)
  generalize hAe : va_A (wX ca ad σ) s.heap.size = A at hD hE ⊢
  have hA : ∀ q : Nat, s.heap.size ≤ q → A q := fun q h => by rw [← hAe]; exact Or.inr h
  clear hAe
  have hS : va_S A s.heap s.heap [] := va_S.rf
  have hl := lv_entry ([.ref (ad 0 0), .ref (ad 6 k0)]) (n := 2) (Nat.le_of_ble_eq_true rfl)
  rw [lg_entry_eq]
  generalize (lg_sl ([.ref (ad 0 0), .ref (ad 6 k0)]) ++ List.replicate (2 - (lg_sl ([.ref (ad 0 0), .ref (ad 6 k0)])).length) Slot.unset).toArray = ls at hl ⊢
  have hl : lv_has ls 2 [(0, .ref (ad 0 0)), (1, .ref (ad 6 k0))] := hl
  unfold wp_send at hw
  have hP : va_P D clX (wX ca ad σ) s.heap := hP
  refine lv_aload_n hx hb dH_send_0 rfl (lv_at hl 1 rfl) ?_
  refine lv_dup hx hb dH_send_1 rfl ?_
  refine va_get (D := D) (ci := 1) (v := .int (sF σ 11 k0)) (C := RP) (T := TP) (N := 16) hx hb hts inP hown hK hP (6 + k0) (gX_6 hk0) rfl 11 (by decide) (hts _ tw_106) (fun _ h9 => h9) rfl dH_send_2 ?_
  refine lv_iconst (v := 1) hx hb dH_send_5 (by decide) ?_
  refine lv_iadd hx hb dH_send_6 ?_
  refine va_put (D := D) (ci := 1) (v := .int ((sF σ 11 k0) + 1)) (ty := .int) (C := RP) (T := TP) (N := 16) hx hb hts inP tyP tyP_ok nmP hown hK hP hD hS (6 + k0) (gX_6 hk0) rfl 11 (by decide) (hts _ tw_106) (fun _ h9 => h9) rfl (by decide +kernel) rfl rfl (Nat.le_of_ble_eq_true rfl) dH_send_7 (fun H locs hP hD hS => ?_)
  rw [sX_6_11 hk0] at hP hD
  refine lv_aload_n hx hb dH_send_10 rfl (lv_at hl 1 rfl) ?_
  refine va_get (D := D) (ci := 1) (v := .int ((sF σ 11 k0) + 1)) (C := RP) (T := TP) (N := 16) hx hb hts inP hown hK hP (6 + k0) (gX_6 hk0) rfl 11 (by decide) (hts _ tw_106) (fun _ h9 => h9) (congrArg (fun z9 => some (Value.int z9)) (up2_s _ 11 k0 _)) dH_send_11 ?_
  refine lv_bipush (v := 40) hx hb dH_send_14 (by decide) ?_
  refine lv_icmp_le (tgt := 25) hx hb dH_send_16 (by decide) (fun c1 => ?_) (fun c1 => ?_)
  · have hw := hw.1 c1
    refine lv_aload_n hx hb dH_send_25 rfl (lv_at hl 0 rfl) ?_
    refine va_get (D := D) (ci := 0) (v := .ref (ad 3 0)) (C := RH) (T := TH) (N := 8) hx hb hts inH hown hK hP 0 gX_0 rfl 2 (by decide) (hts _ tw_152) (fun _ h9 => h9) rfl dH_send_26 ?_
    refine lv_aload_n hx hb dH_send_29 rfl (lv_at hl 1 rfl) ?_
    refine lv_aload_n hx hb dH_send_30 rfl (lv_at hl 0 rfl) ?_
    refine va_get (D := D) (ci := 0) (v := .int (sG σ 1)) (C := RH) (T := TH) (N := 8) hx hb hts inH hown hK hP 0 gX_0 rfl 5 (by decide) (hts _ tw_155) (fun _ h9 => h9) rfl dH_send_31 ?_
    have hFc := px_free hD hS hA
    refine va_callv (va_runV (As := [.ref (ad 6 k0), .int (sG σ 1)]) (rest := []) ⟨hx, hb, hml, hown, hts⟩ (c_logAdd l D ca ad (uF 11 k0 ((sF σ 11 k0) + 1) σ) k0 hk0 (sG σ 1) _ _ hw) (cwV 2 hts (gV tw_463 tw_464 tw_465 tw_5 tw_466) rfl rfl rfl (by decide +kernel) ⟨Nat.le_of_ble_eq_true rfl, Nat.le_of_ble_eq_true rfl⟩) ⟨px_blind, (px_recv hK hP gX_3 rfl), fun U hU hW => px_pre hP hK hD hE hS hFc hU hW⟩ rfl rfl hl.1 rfl (lv_room (Nat.le_of_ble_eq_true rfl)) dH_send_34 ⟨Nat.le_of_ble_eq_true rfl, Nat.le_of_ble_eq_true rfl⟩) hS (fun q _ h => hFc q h) hFc (fun s2 t H locs ht hvm hw hB _ _ hS => ?_)
    obtain ⟨hP, -, hD⟩ := hB
    rw [ht] at hP
    have hD := hD.weaken (fun _ _ _ h9 => hFc _ h9)
    refine lv_aload_n hx hb dH_send_37 rfl (lv_at hl 0 rfl) ?_
    refine lv_aload_n hx hb dH_send_38 rfl (lv_at hl 1 rfl) ?_
    refine lv_bipush (v := 60) hx hb dH_send_39 (by decide) ?_
    refine lv_iconst (v := 1) hx hb dH_send_41 (by decide) ?_
    have hFc := px_free hD hS hA
    refine va_callv (va_runV (As := [.ref (ad 6 k0), .int 60, .int 1]) (rest := []) ⟨hx, hb, hml, hown, hts⟩ (c_makeAlarm l D ca ad s2 k0 hk0 60 1 _ _ hw) (cwV 3 hts (gV tw_468 tw_470 tp_12 tw_1 tw_471) rfl rfl rfl (by decide +kernel) ⟨Nat.le_of_ble_eq_true rfl, Nat.le_of_ble_eq_true rfl⟩) ⟨px_blind, (px_recv hK hP gX_0 rfl), fun U hU hW => px_pre hP hK hD hE hS hFc hU hW⟩ rfl rfl hl.1 rfl (lv_room (Nat.le_of_ble_eq_true rfl)) dH_send_42 ⟨Nat.le_of_ble_eq_true rfl, Nat.le_of_ble_eq_true rfl⟩) hS (fun q _ h => hFc q h) hFc (fun s4 t H locs ht hvm hw hB _ _ hS => ?_)
    obtain ⟨hP, -, hD⟩ := hB
    rw [ht] at hP
    have hD := hD.weaken (fun _ _ _ h9 => hFc _ h9)
    exact W.vret hx hb hr (fun t ht hW => ⟨⟨s4, rfl, hw, by rw [ht]; exact hP, va_K.moved hW.alike hK, hD⟩, hS.F ht⟩) hS.2.2 dH_send_45
  · have hw := hw.2 c1
    refine lv_aload_n hx hb dH_send_19 rfl (lv_at hl 0 rfl) ?_
    refine lv_aload_n hx hb dH_send_20 rfl (lv_at hl 1 rfl) ?_
    have hFc := px_free hD hS hA
    refine va_callv (va_runV (As := [.ref (ad 6 k0)]) (rest := []) ⟨hx, hb, hml, hown, hts⟩ (c_abandon l D ca ad (uF 11 k0 ((sF σ 11 k0) + 1) σ) k0 hk0 _ _ hw) (cwV 1 hts (gV tw_451 tw_453 tp_10 tw_1 tw_454) rfl rfl rfl (by decide +kernel) ⟨Nat.le_of_ble_eq_true rfl, Nat.le_of_ble_eq_true rfl⟩) ⟨px_blind, (px_recv hK hP gX_0 rfl), fun U hU hW => px_pre hP hK hD hE hS hFc hU hW⟩ rfl rfl hl.1 rfl (lv_room (Nat.le_of_ble_eq_true rfl)) dH_send_21 ⟨Nat.le_of_ble_eq_true rfl, Nat.le_of_ble_eq_true rfl⟩) hS (fun q _ h => hFc q h) hFc (fun s6 t H locs ht hvm hw hB _ _ hS => ?_)
    obtain ⟨hP, -, hD⟩ := hB
    rw [ht] at hP
    have hD := hD.weaken (fun _ _ _ h9 => hFc _ h9)
    exact W.vret hx hb hr (fun t ht hW => ⟨⟨s6, rfl, hw, by rw [ht]; exact hP, va_K.moved hW.alike hK, hD⟩, hS.F ht⟩) hS.2.2 dH_send_24
theorem dH_ring_0 : decode cH_ring 0 = .ok (.aload_n 1, 1) := by decide +kernel
theorem dH_ring_1 : decode cH_ring 1 = .ok (.getfield 165, 3) := by decide +kernel
theorem dH_ring_4 : decode cH_ring 4 = .ok (.ifCond .eq 7, 3) := by decide +kernel
theorem dH_ring_7 : decode cH_ring 7 = .ok (.aload_n 1, 1) := by decide +kernel
theorem dH_ring_8 : decode cH_ring 8 = .ok (.invokevirtual 240, 3) := by decide +kernel
theorem dH_ring_11 : decode cH_ring 11 = .ok (.aload_n 0, 1) := by decide +kernel
theorem dH_ring_12 : decode cH_ring 12 = .ok (.aload_n 1, 1) := by decide +kernel
theorem dH_ring_13 : decode cH_ring 13 = .ok (.invokevirtual 231, 3) := by decide +kernel
theorem dH_ring_16 : decode cH_ring 16 = .ok (.return_, 1) := by decide +kernel
def wp_ring (post : Sg → Prop) (σ : Sg) (k0 : Nat) : Prop := ((((sF σ 15 k0) = 0) → wp_send (fun s2 => post s2) σ k0) ∧ (¬ ((sF σ 15 k0) = 0) → wp_turnToNextServer (fun s4 => wp_send (fun s6 => post s6) s4 k0) σ k0))
set_option maxHeartbeats 4000000 in
set_option maxRecDepth 100000 in
theorem c_ring (l : Launch) (D : va_G) (ca : Nat → ClassId) (ad : Nat → Nat → Nat) (σ : Sg) (k0 : Nat) (hk0 : k0 < 8) (sz : Nat) (post : Sg → Prop) (hw : wp_ring post σ k0) : Met l yH_ring wsH_ring ({ frames := 4, cells := 0, slots := 0, locals := 87 }) (va_Pc [.ref (ad 0 0), .ref (ad 6 k0)] (preX D ca ad σ sz)) (va_Qv post (atX D ca ad (va_A (wX ca ad σ) sz)) (va_A (wX ca ad σ) sz)) 0 0 (va_A (wX ca ad σ) sz) := by
  refine Met.ofW (cc := cH_ring) (maxL := 2) (ret := none) (by decide) rfl ?_
  intro p e s m args below meth c s₁ B hml hv
  obtain ⟨rfl, hsz, hP, hK, hD0, hE⟩ := hv
  have hx := B.exec
  have hb := B.bytes
  have hr := B.returns
  have hts : ∀ w ∈ tbG, w.before _ s = true := fun w h => atoms_spec (ws := wsH_ring) B.pre w (List.mem_cons_of_mem _ h)
  have hown : s.vm.findClass RH = some m.cls := findClass_of_methodNamed B.named
  have hlocks := B.notSynchronized
  subst hsz
  have hD := hD0.self (sz := s.heap.size)
  generalize hAe : va_A (wX ca ad σ) s.heap.size = A at hD hE ⊢
  have hA : ∀ q : Nat, s.heap.size ≤ q → A q := fun q h => by rw [← hAe]; exact Or.inr h
  clear hAe
  have hS : va_S A s.heap s.heap [] := va_S.rf
  have hl := lv_entry ([.ref (ad 0 0), .ref (ad 6 k0)]) (n := 2) (Nat.le_of_ble_eq_true rfl)
  rw [lg_entry_eq]
  generalize (lg_sl ([.ref (ad 0 0), .ref (ad 6 k0)]) ++ List.replicate (2 - (lg_sl ([.ref (ad 0 0), .ref (ad 6 k0)])).length) Slot.unset).toArray = ls at hl ⊢
  have hl : lv_has ls 2 [(0, .ref (ad 0 0)), (1, .ref (ad 6 k0))] := hl
  unfold wp_ring at hw
  have hP : va_P D clX (wX ca ad σ) s.heap := hP
  refine lv_aload_n hx hb dH_ring_0 rfl (lv_at hl 1 rfl) ?_
  refine va_get (D := D) (ci := 1) (v := .int (sF σ 15 k0)) (C := RP) (T := TP) (N := 16) hx hb hts inP hown hK hP (6 + k0) (gX_6 hk0) rfl 15 (by decide) (hts _ tw_115) (fun _ h9 => h9) rfl dH_ring_1 ?_
  refine lv_if_eq (tgt := 11) hx hb dH_ring_4 (by decide) (fun c1 => ?_) (fun c1 => ?_)
  · have hw := hw.1 c1
    refine lv_aload_n hx hb dH_ring_11 rfl (lv_at hl 0 rfl) ?_
    refine lv_aload_n hx hb dH_ring_12 rfl (lv_at hl 1 rfl) ?_
    have hFc := px_free hD hS hA
    refine va_callv (va_runV (As := [.ref (ad 6 k0)]) (rest := []) ⟨hx, hb, hml, hown, hts⟩ (c_send l D ca ad σ k0 hk0 _ _ hw) (cwV 1 hts (gV tw_447 tw_449 tp_9 tw_1 tw_450) rfl rfl rfl (by decide +kernel) ⟨Nat.le_of_ble_eq_true rfl, Nat.le_of_ble_eq_true rfl⟩) ⟨px_blind, (px_recv hK hP gX_0 rfl), fun U hU hW => px_pre hP hK hD hE hS hFc hU hW⟩ rfl rfl hl.1 rfl (lv_room (Nat.le_of_ble_eq_true rfl)) dH_ring_13 ⟨Nat.le_of_ble_eq_true rfl, Nat.le_of_ble_eq_true rfl⟩) hS (fun q _ h => hFc q h) hFc (fun s2 t H locs ht hvm hw hB _ _ hS => ?_)
    obtain ⟨hP, -, hD⟩ := hB
    rw [ht] at hP
    have hD := hD.weaken (fun _ _ _ h9 => hFc _ h9)
    exact W.vret hx hb hr (fun t ht hW => ⟨⟨s2, rfl, hw, by rw [ht]; exact hP, va_K.moved hW.alike hK, hD⟩, hS.F ht⟩) hS.2.2 dH_ring_16
  · have hw := hw.2 c1
    refine lv_aload_n hx hb dH_ring_7 rfl (lv_at hl 1 rfl) ?_
    have hFc := px_free hD hS hA
    refine va_callv (va_runV (As := []) (rest := []) ⟨hx, hb, hml, hown, hts⟩ (c_turnToNextServer l D ca ad σ k0 hk0 _ _ hw) (cwV 0 hts (gV tw_507 tw_508 tw_509 tw_6 tw_510) rfl rfl rfl (by decide +kernel) ⟨Nat.le_of_ble_eq_true rfl, Nat.le_of_ble_eq_true rfl⟩) ⟨px_blind, (px_recv hK hP (gX_6 hk0) rfl), fun U hU hW => px_pre hP hK hD hE hS hFc hU hW⟩ rfl rfl hl.1 rfl (lv_room (Nat.le_of_ble_eq_true rfl)) dH_ring_8 ⟨Nat.le_of_ble_eq_true rfl, Nat.le_of_ble_eq_true rfl⟩) hS (fun q _ h => hFc q h) hFc (fun s4 t H locs ht hvm hw hB _ _ hS => ?_)
    obtain ⟨hP, -, hD⟩ := hB
    rw [ht] at hP
    have hD := hD.weaken (fun _ _ _ h9 => hFc _ h9)
    refine lv_aload_n hx hb dH_ring_11 rfl (lv_at hl 0 rfl) ?_
    refine lv_aload_n hx hb dH_ring_12 rfl (lv_at hl 1 rfl) ?_
    have hFc := px_free hD hS hA
    refine va_callv (va_runV (As := [.ref (ad 6 k0)]) (rest := []) ⟨hx, hb, hml, hown, hts⟩ (c_send l D ca ad s4 k0 hk0 _ _ hw) (cwV 1 hts (gV tw_447 tw_449 tp_9 tw_1 tw_450) rfl rfl rfl (by decide +kernel) ⟨Nat.le_of_ble_eq_true rfl, Nat.le_of_ble_eq_true rfl⟩) ⟨px_blind, (px_recv hK hP gX_0 rfl), fun U hU hW => px_pre hP hK hD hE hS hFc hU hW⟩ rfl rfl hl.1 rfl (lv_room (Nat.le_of_ble_eq_true rfl)) dH_ring_13 ⟨Nat.le_of_ble_eq_true rfl, Nat.le_of_ble_eq_true rfl⟩) hS (fun q _ h => hFc q h) hFc (fun s6 t H locs ht hvm hw hB _ _ hS => ?_)
    obtain ⟨hP, -, hD⟩ := hB
    rw [ht] at hP
    have hD := hD.weaken (fun _ _ _ h9 => hFc _ h9)
    exact W.vret hx hb hr (fun t ht hW => ⟨⟨s6, rfl, hw, by rw [ht]; exact hP, va_K.moved hW.alike hK, hD⟩, hS.F ht⟩) hS.2.2 dH_ring_16
theorem dH_requestOpen_0 : decode cH_requestOpen 0 = .ok (.aload_n 1, 1) := by decide +kernel
theorem dH_requestOpen_1 : decode cH_requestOpen 1 = .ok (.iconst 1, 1) := by decide +kernel
theorem dH_requestOpen_2 : decode cH_requestOpen 2 = .ok (.putfield 169, 3) := by decide +kernel
theorem dH_requestOpen_5 : decode cH_requestOpen 5 = .ok (.aload_n 1, 1) := by decide +kernel
theorem dH_requestOpen_6 : decode cH_requestOpen 6 = .ok (.dup, 1) := by decide +kernel
theorem dH_requestOpen_7 : decode cH_requestOpen 7 = .ok (.getfield 123, 3) := by decide +kernel
theorem dH_requestOpen_10 : decode cH_requestOpen 10 = .ok (.iconst 1, 1) := by decide +kernel
theorem dH_requestOpen_11 : decode cH_requestOpen 11 = .ok (.iadd, 1) := by decide +kernel
theorem dH_requestOpen_12 : decode cH_requestOpen 12 = .ok (.putfield 123, 3) := by decide +kernel
theorem dH_requestOpen_15 : decode cH_requestOpen 15 = .ok (.aload_n 0, 1) := by decide +kernel
theorem dH_requestOpen_16 : decode cH_requestOpen 16 = .ok (.aload_n 1, 1) := by decide +kernel
theorem dH_requestOpen_17 : decode cH_requestOpen 17 = .ok (.invokevirtual 231, 3) := by decide +kernel
theorem dH_requestOpen_20 : decode cH_requestOpen 20 = .ok (.return_, 1) := by decide +kernel
def wp_requestOpen (post : Sg → Prop) (σ : Sg) (k0 : Nat) : Prop := wp_send (fun s1 => post s1) (uF 10 k0 ((sF σ 10 k0) + 1) (uF 12 k0 1 σ)) k0
set_option maxHeartbeats 4000000 in
set_option maxRecDepth 100000 in
theorem c_requestOpen (l : Launch) (D : va_G) (ca : Nat → ClassId) (ad : Nat → Nat → Nat) (σ : Sg) (k0 : Nat) (hk0 : k0 < 8) (sz : Nat) (post : Sg → Prop) (hw : wp_requestOpen post σ k0) : Met l yH_requestOpen wsH_requestOpen ({ frames := 4, cells := 0, slots := 0, locals := 87 }) (va_Pc [.ref (ad 0 0), .ref (ad 6 k0)] (preX D ca ad σ sz)) (va_Qv post (atX D ca ad (va_A (wX ca ad σ) sz)) (va_A (wX ca ad σ) sz)) 0 0 (va_A (wX ca ad σ) sz) := by
  refine Met.ofW (cc := cH_requestOpen) (maxL := 2) (ret := none) (by decide) rfl ?_
  intro p e s m args below meth c s₁ B hml hv
  obtain ⟨rfl, hsz, hP, hK, hD0, hE⟩ := hv
  have hx := B.exec
  have hb := B.bytes
  have hr := B.returns
  have hts : ∀ w ∈ tbG, w.before _ s = true := fun w h => atoms_spec (ws := wsH_requestOpen) B.pre w (List.mem_cons_of_mem _ h)
  have hown : s.vm.findClass RH = some m.cls := findClass_of_methodNamed B.named
  have hlocks := B.notSynchronized
  subst hsz
  have hD := hD0.self (sz := s.heap.size)
  generalize hAe : va_A (wX ca ad σ) s.heap.size = A at hD hE ⊢
  have hA : ∀ q : Nat, s.heap.size ≤ q → A q := fun q h => by rw [← hAe]; exact Or.inr h
  clear hAe
  have hS : va_S A s.heap s.heap [] := va_S.rf
  have hl := lv_entry ([.ref (ad 0 0), .ref (ad 6 k0)]) (n := 2) (Nat.le_of_ble_eq_true rfl)
  rw [lg_entry_eq]
  generalize (lg_sl ([.ref (ad 0 0), .ref (ad 6 k0)]) ++ List.replicate (2 - (lg_sl ([.ref (ad 0 0), .ref (ad 6 k0)])).length) Slot.unset).toArray = ls at hl ⊢
  have hl : lv_has ls 2 [(0, .ref (ad 0 0)), (1, .ref (ad 6 k0))] := hl
  unfold wp_requestOpen at hw
  have hP : va_P D clX (wX ca ad σ) s.heap := hP
  refine lv_aload_n hx hb dH_requestOpen_0 rfl (lv_at hl 1 rfl) ?_
  refine lv_iconst (v := 1) hx hb dH_requestOpen_1 (by decide) ?_
  refine va_put (D := D) (ci := 1) (v := .int 1) (ty := .boolean) (C := RP) (T := TP) (N := 16) hx hb hts inP tyP tyP_ok nmP hown hK hP hD hS (6 + k0) (gX_6 hk0) rfl 12 (by decide) (hts _ tw_109) (fun _ h9 => h9) rfl (by decide +kernel) (by decide) (by decide) (Nat.le_of_ble_eq_true rfl) dH_requestOpen_2 (fun H locs hP hD hS => ?_)
  rw [sX_6_12 hk0] at hP hD
  refine lv_aload_n hx hb dH_requestOpen_5 rfl (lv_at hl 1 rfl) ?_
  refine lv_dup hx hb dH_requestOpen_6 rfl ?_
  refine va_get (D := D) (ci := 1) (v := .int (sF σ 10 k0)) (C := RP) (T := TP) (N := 16) hx hb hts inP hown hK hP (6 + k0) (gX_6 hk0) rfl 10 (by decide) (hts _ tw_104) (fun _ h9 => h9) rfl dH_requestOpen_7 ?_
  refine lv_iconst (v := 1) hx hb dH_requestOpen_10 (by decide) ?_
  refine lv_iadd hx hb dH_requestOpen_11 ?_
  refine va_put (D := D) (ci := 1) (v := .int ((sF σ 10 k0) + 1)) (ty := .int) (C := RP) (T := TP) (N := 16) hx hb hts inP tyP tyP_ok nmP hown hK hP hD hS (6 + k0) (gX_6 hk0) rfl 10 (by decide) (hts _ tw_104) (fun _ h9 => h9) rfl (by decide +kernel) rfl rfl (Nat.le_of_ble_eq_true rfl) dH_requestOpen_12 (fun H locs hP hD hS => ?_)
  rw [sX_6_10 hk0] at hP hD
  refine lv_aload_n hx hb dH_requestOpen_15 rfl (lv_at hl 0 rfl) ?_
  refine lv_aload_n hx hb dH_requestOpen_16 rfl (lv_at hl 1 rfl) ?_
  have hFc := px_free hD hS hA
  refine va_callv (va_runV (As := [.ref (ad 6 k0)]) (rest := []) ⟨hx, hb, hml, hown, hts⟩ (c_send l D ca ad (uF 10 k0 ((sF σ 10 k0) + 1) (uF 12 k0 1 σ)) k0 hk0 _ _ hw) (cwV 1 hts (gV tw_447 tw_449 tp_9 tw_1 tw_450) rfl rfl rfl (by decide +kernel) ⟨Nat.le_of_ble_eq_true rfl, Nat.le_of_ble_eq_true rfl⟩) ⟨px_blind, (px_recv hK hP gX_0 rfl), fun U hU hW => px_pre hP hK hD hE hS hFc hU hW⟩ rfl rfl hl.1 rfl (lv_room (Nat.le_of_ble_eq_true rfl)) dH_requestOpen_17 ⟨Nat.le_of_ble_eq_true rfl, Nat.le_of_ble_eq_true rfl⟩) hS (fun q _ h => hFc q h) hFc (fun s1 t H locs ht hvm hw hB _ _ hS => ?_)
  obtain ⟨hP, -, hD⟩ := hB
  rw [ht] at hP
  have hD := hD.weaken (fun _ _ _ h9 => hFc _ h9)
  exact W.vret hx hb hr (fun t ht hW => ⟨⟨s1, rfl, hw, by rw [ht]; exact hP, va_K.moved hW.alike hK, hD⟩, hS.F ht⟩) hS.2.2 dH_requestOpen_20
theorem dH_requestWhatWasAsked_0 : decode cH_requestWhatWasAsked 0 = .ok (.aload_n 1, 1) := by decide +kernel
theorem dH_requestWhatWasAsked_1 : decode cH_requestWhatWasAsked 1 = .ok (.iconst 0, 1) := by decide +kernel
theorem dH_requestWhatWasAsked_2 : decode cH_requestWhatWasAsked 2 = .ok (.putfield 169, 3) := by decide +kernel
theorem dH_requestWhatWasAsked_5 : decode cH_requestWhatWasAsked 5 = .ok (.aload_n 1, 1) := by decide +kernel
theorem dH_requestWhatWasAsked_6 : decode cH_requestWhatWasAsked 6 = .ok (.dup, 1) := by decide +kernel
theorem dH_requestWhatWasAsked_7 : decode cH_requestWhatWasAsked 7 = .ok (.getfield 123, 3) := by decide +kernel
theorem dH_requestWhatWasAsked_10 : decode cH_requestWhatWasAsked 10 = .ok (.iconst 1, 1) := by decide +kernel
theorem dH_requestWhatWasAsked_11 : decode cH_requestWhatWasAsked 11 = .ok (.iadd, 1) := by decide +kernel
theorem dH_requestWhatWasAsked_12 : decode cH_requestWhatWasAsked 12 = .ok (.putfield 123, 3) := by decide +kernel
theorem dH_requestWhatWasAsked_15 : decode cH_requestWhatWasAsked 15 = .ok (.aload_n 1, 1) := by decide +kernel
theorem dH_requestWhatWasAsked_16 : decode cH_requestWhatWasAsked 16 = .ok (.getfield 234, 3) := by decide +kernel
theorem dH_requestWhatWasAsked_19 : decode cH_requestWhatWasAsked 19 = .ok (.invokestatic 100, 3) := by decide +kernel
theorem dH_requestWhatWasAsked_22 : decode cH_requestWhatWasAsked 22 = .ok (.ifCond .eq 13, 3) := by decide +kernel
theorem dH_requestWhatWasAsked_25 : decode cH_requestWhatWasAsked 25 = .ok (.aload_n 1, 1) := by decide +kernel
theorem dH_requestWhatWasAsked_26 : decode cH_requestWhatWasAsked 26 = .ok (.dup, 1) := by decide +kernel
theorem dH_requestWhatWasAsked_27 : decode cH_requestWhatWasAsked 27 = .ok (.getfield 159, 3) := by decide +kernel
theorem dH_requestWhatWasAsked_30 : decode cH_requestWhatWasAsked 30 = .ok (.iconst 1, 1) := by decide +kernel
theorem dH_requestWhatWasAsked_31 : decode cH_requestWhatWasAsked 31 = .ok (.iadd, 1) := by decide +kernel
theorem dH_requestWhatWasAsked_32 : decode cH_requestWhatWasAsked 32 = .ok (.putfield 159, 3) := by decide +kernel
theorem dH_requestWhatWasAsked_35 : decode cH_requestWhatWasAsked 35 = .ok (.aload_n 0, 1) := by decide +kernel
theorem dH_requestWhatWasAsked_36 : decode cH_requestWhatWasAsked 36 = .ok (.aload_n 1, 1) := by decide +kernel
theorem dH_requestWhatWasAsked_37 : decode cH_requestWhatWasAsked 37 = .ok (.invokevirtual 231, 3) := by decide +kernel
theorem dH_requestWhatWasAsked_40 : decode cH_requestWhatWasAsked 40 = .ok (.return_, 1) := by decide +kernel
def wp_requestWhatWasAsked (post : Sg → Prop) (σ : Sg) (k0 : Nat) : Prop := wp_isCommand (fun r2 s1 => (((r2 = 0) → wp_send (fun s4 => post s4) s1 k0) ∧ (¬ (r2 = 0) → wp_send (fun s6 => post s6) (uF 9 k0 ((sF s1 9 k0) + 1) s1) k0))) (uF 10 k0 ((sF σ 10 k0) + 1) (uF 12 k0 0 σ)) (sF σ 6 k0)
set_option maxHeartbeats 4000000 in
set_option maxRecDepth 100000 in
theorem c_requestWhatWasAsked (l : Launch) (D : va_G) (ca : Nat → ClassId) (ad : Nat → Nat → Nat) (σ : Sg) (k0 : Nat) (hk0 : k0 < 8) (sz : Nat) (post : Sg → Prop) (hw : wp_requestWhatWasAsked post σ k0) : Met l yH_requestWhatWasAsked wsH_requestWhatWasAsked ({ frames := 4, cells := 0, slots := 0, locals := 87 }) (va_Pc [.ref (ad 0 0), .ref (ad 6 k0)] (preX D ca ad σ sz)) (va_Qv post (atX D ca ad (va_A (wX ca ad σ) sz)) (va_A (wX ca ad σ) sz)) 0 0 (va_A (wX ca ad σ) sz) := by
  refine Met.ofW (cc := cH_requestWhatWasAsked) (maxL := 2) (ret := none) (by decide) rfl ?_
  intro p e s m args below meth c s₁ B hml hv
  obtain ⟨rfl, hsz, hP, hK, hD0, hE⟩ := hv
  have hx := B.exec
  have hb := B.bytes
  have hr := B.returns
  have hts : ∀ w ∈ tbG, w.before _ s = true := fun w h => atoms_spec (ws := wsH_requestWhatWasAsked) B.pre w (List.mem_cons_of_mem _ h)
  have hown : s.vm.findClass RH = some m.cls := findClass_of_methodNamed B.named
  have hlocks := B.notSynchronized
  subst hsz
  have hD := hD0.self (sz := s.heap.size)
  generalize hAe : va_A (wX ca ad σ) s.heap.size = A at hD hE ⊢
  have hA : ∀ q : Nat, s.heap.size ≤ q → A q := fun q h => by rw [← hAe]; exact Or.inr h
  clear hAe
  have hS : va_S A s.heap s.heap [] := va_S.rf
  have hl := lv_entry ([.ref (ad 0 0), .ref (ad 6 k0)]) (n := 2) (Nat.le_of_ble_eq_true rfl)
  rw [lg_entry_eq]
  generalize (lg_sl ([.ref (ad 0 0), .ref (ad 6 k0)]) ++ List.replicate (2 - (lg_sl ([.ref (ad 0 0), .ref (ad 6 k0)])).length) Slot.unset).toArray = ls at hl ⊢
  have hl : lv_has ls 2 [(0, .ref (ad 0 0)), (1, .ref (ad 6 k0))] := hl
  unfold wp_requestWhatWasAsked at hw
  have hP : va_P D clX (wX ca ad σ) s.heap := hP
  refine lv_aload_n hx hb dH_requestWhatWasAsked_0 rfl (lv_at hl 1 rfl) ?_
  refine lv_iconst (v := 0) hx hb dH_requestWhatWasAsked_1 (by decide) ?_
  refine va_put (D := D) (ci := 1) (v := .int 0) (ty := .boolean) (C := RP) (T := TP) (N := 16) hx hb hts inP tyP tyP_ok nmP hown hK hP hD hS (6 + k0) (gX_6 hk0) rfl 12 (by decide) (hts _ tw_109) (fun _ h9 => h9) rfl (by decide +kernel) (by decide) (by decide) (Nat.le_of_ble_eq_true rfl) dH_requestWhatWasAsked_2 (fun H locs hP hD hS => ?_)
  rw [sX_6_12 hk0] at hP hD
  refine lv_aload_n hx hb dH_requestWhatWasAsked_5 rfl (lv_at hl 1 rfl) ?_
  refine lv_dup hx hb dH_requestWhatWasAsked_6 rfl ?_
  refine va_get (D := D) (ci := 1) (v := .int (sF σ 10 k0)) (C := RP) (T := TP) (N := 16) hx hb hts inP hown hK hP (6 + k0) (gX_6 hk0) rfl 10 (by decide) (hts _ tw_104) (fun _ h9 => h9) rfl dH_requestWhatWasAsked_7 ?_
  refine lv_iconst (v := 1) hx hb dH_requestWhatWasAsked_10 (by decide) ?_
  refine lv_iadd hx hb dH_requestWhatWasAsked_11 ?_
  refine va_put (D := D) (ci := 1) (v := .int ((sF σ 10 k0) + 1)) (ty := .int) (C := RP) (T := TP) (N := 16) hx hb hts inP tyP tyP_ok nmP hown hK hP hD hS (6 + k0) (gX_6 hk0) rfl 10 (by decide) (hts _ tw_104) (fun _ h9 => h9) rfl (by decide +kernel) rfl rfl (Nat.le_of_ble_eq_true rfl) dH_requestWhatWasAsked_12 (fun H locs hP hD hS => ?_)
  rw [sX_6_10 hk0] at hP hD
  refine lv_aload_n hx hb dH_requestWhatWasAsked_15 rfl (lv_at hl 1 rfl) ?_
  refine va_get (D := D) (ci := 1) (v := .int (sF σ 6 k0)) (C := RP) (T := TP) (N := 16) hx hb hts inP hown hK hP (6 + k0) (gX_6 hk0) rfl 6 (by decide) (hts _ tw_92) (fun _ h9 => h9) rfl dH_requestWhatWasAsked_16 ?_
  have hFc := px_free hD hS hA
  refine va_calli (va_runS (As := [.int (sF σ 6 k0)]) (rest := []) ⟨hx, hb, hml, hown, hts⟩ (c_isCommand l D ca ad (uF 10 k0 ((sF σ 10 k0) + 1) (uF 12 k0 0 σ)) (sF σ 6 k0) _ _ hw) (va_cwS 1 hts (gS tw_440 tw_441 tw_1 tw_442) rfl rfl rfl (by decide +kernel) ⟨Nat.le_of_ble_eq_true rfl, Nat.le_of_ble_eq_true rfl⟩) ⟨px_blind, fun U hU hW => px_pre hP hK hD hE hS hFc hU hW⟩ rfl rfl hl.1 rfl (lv_room (Nat.le_of_ble_eq_true rfl)) dH_requestWhatWasAsked_19 ⟨Nat.le_of_ble_eq_true rfl, Nat.le_of_ble_eq_true rfl⟩) hS (fun q _ h => hFc q h) hFc (fun r2 s1 t H locs ht hvm hw hB _ _ hS => ?_)
  obtain ⟨hP, -, hD⟩ := hB
  rw [ht] at hP
  have hD := hD.weaken (fun _ _ _ h9 => hFc _ h9)
  refine lv_if_eq (tgt := 35) hx hb dH_requestWhatWasAsked_22 (by decide) (fun c3 => ?_) (fun c3 => ?_)
  · have hw := hw.1 c3
    refine lv_aload_n hx hb dH_requestWhatWasAsked_35 rfl (lv_at hl 0 rfl) ?_
    refine lv_aload_n hx hb dH_requestWhatWasAsked_36 rfl (lv_at hl 1 rfl) ?_
    have hFc := px_free hD hS hA
    refine va_callv (va_runV (As := [.ref (ad 6 k0)]) (rest := []) ⟨hx, hb, hml, hown, hts⟩ (c_send l D ca ad s1 k0 hk0 _ _ hw) (cwV 1 hts (gV tw_447 tw_449 tp_9 tw_1 tw_450) rfl rfl rfl (by decide +kernel) ⟨Nat.le_of_ble_eq_true rfl, Nat.le_of_ble_eq_true rfl⟩) ⟨px_blind, (px_recv hK hP gX_0 rfl), fun U hU hW => px_pre hP hK hD hE hS hFc hU hW⟩ rfl rfl hl.1 rfl (lv_room (Nat.le_of_ble_eq_true rfl)) dH_requestWhatWasAsked_37 ⟨Nat.le_of_ble_eq_true rfl, Nat.le_of_ble_eq_true rfl⟩) hS (fun q _ h => hFc q h) hFc (fun s4 t H locs ht hvm hw hB _ _ hS => ?_)
    obtain ⟨hP, -, hD⟩ := hB
    rw [ht] at hP
    have hD := hD.weaken (fun _ _ _ h9 => hFc _ h9)
    exact W.vret hx hb hr (fun t ht hW => ⟨⟨s4, rfl, hw, by rw [ht]; exact hP, va_K.moved hW.alike hK, hD⟩, hS.F ht⟩) hS.2.2 dH_requestWhatWasAsked_40
  · have hw := hw.2 c3
    refine lv_aload_n hx hb dH_requestWhatWasAsked_25 rfl (lv_at hl 1 rfl) ?_
    refine lv_dup hx hb dH_requestWhatWasAsked_26 rfl ?_
    refine va_get (D := D) (ci := 1) (v := .int (sF s1 9 k0)) (C := RP) (T := TP) (N := 16) hx hb hts inP hown hK hP (6 + k0) (gX_6 hk0) rfl 9 (by decide) (hts _ tw_101) (fun _ h9 => h9) rfl dH_requestWhatWasAsked_27 ?_
    refine lv_iconst (v := 1) hx hb dH_requestWhatWasAsked_30 (by decide) ?_
    refine lv_iadd hx hb dH_requestWhatWasAsked_31 ?_
    refine va_put (D := D) (ci := 1) (v := .int ((sF s1 9 k0) + 1)) (ty := .int) (C := RP) (T := TP) (N := 16) hx hb hts inP tyP tyP_ok nmP hown hK hP hD hS (6 + k0) (gX_6 hk0) rfl 9 (by decide) (hts _ tw_101) (fun _ h9 => h9) rfl (by decide +kernel) rfl rfl (Nat.le_of_ble_eq_true rfl) dH_requestWhatWasAsked_32 (fun H locs hP hD hS => ?_)
    rw [sX_6_9 hk0] at hP hD
    refine lv_aload_n hx hb dH_requestWhatWasAsked_35 rfl (lv_at hl 0 rfl) ?_
    refine lv_aload_n hx hb dH_requestWhatWasAsked_36 rfl (lv_at hl 1 rfl) ?_
    have hFc := px_free hD hS hA
    refine va_callv (va_runV (As := [.ref (ad 6 k0)]) (rest := []) ⟨hx, hb, hml, hown, hts⟩ (c_send l D ca ad (uF 9 k0 ((sF s1 9 k0) + 1) s1) k0 hk0 _ _ hw) (cwV 1 hts (gV tw_447 tw_449 tp_9 tw_1 tw_450) rfl rfl rfl (by decide +kernel) ⟨Nat.le_of_ble_eq_true rfl, Nat.le_of_ble_eq_true rfl⟩) ⟨px_blind, (px_recv hK hP gX_0 rfl), fun U hU hW => px_pre hP hK hD hE hS hFc hU hW⟩ rfl rfl hl.1 rfl (lv_room (Nat.le_of_ble_eq_true rfl)) dH_requestWhatWasAsked_37 ⟨Nat.le_of_ble_eq_true rfl, Nat.le_of_ble_eq_true rfl⟩) hS (fun q _ h => hFc q h) hFc (fun s6 t H locs ht hvm hw hB _ _ hS => ?_)
    obtain ⟨hP, -, hD⟩ := hB
    rw [ht] at hP
    have hD := hD.weaken (fun _ _ _ h9 => hFc _ h9)
    exact W.vret hx hb hr (fun t ht hW => ⟨⟨s6, rfl, hw, by rw [ht]; exact hP, va_K.moved hW.alike hK, hD⟩, hS.F ht⟩) hS.2.2 dH_requestWhatWasAsked_40
theorem dH_howManyWait_0 : decode cH_howManyWait 0 = .ok (.iconst 0, 1) := by decide +kernel
theorem dH_howManyWait_1 : decode cH_howManyWait 1 = .ok (.istore_n 1, 1) := by decide +kernel
theorem dH_howManyWait_2 : decode cH_howManyWait 2 = .ok (.iconst 0, 1) := by decide +kernel
theorem dH_howManyWait_3 : decode cH_howManyWait 3 = .ok (.istore_n 2, 1) := by decide +kernel
theorem dH_howManyWait_4 : decode cH_howManyWait 4 = .ok (.iload_n 2, 1) := by decide +kernel
theorem dH_howManyWait_5 : decode cH_howManyWait 5 = .ok (.bipush 8, 2) := by decide +kernel
theorem dH_howManyWait_7 : decode cH_howManyWait 7 = .ok (.if_icmp .ge 24, 3) := by decide +kernel
theorem dH_howManyWait_10 : decode cH_howManyWait 10 = .ok (.iload_n 1, 1) := by decide +kernel
theorem dH_howManyWait_11 : decode cH_howManyWait 11 = .ok (.aload_n 0, 1) := by decide +kernel
theorem dH_howManyWait_12 : decode cH_howManyWait 12 = .ok (.getfield 11, 3) := by decide +kernel
theorem dH_howManyWait_15 : decode cH_howManyWait 15 = .ok (.iload_n 2, 1) := by decide +kernel
theorem dH_howManyWait_16 : decode cH_howManyWait 16 = .ok (.aaload, 1) := by decide +kernel
theorem dH_howManyWait_17 : decode cH_howManyWait 17 = .ok (.invokevirtual 78, 3) := by decide +kernel
theorem dH_howManyWait_20 : decode cH_howManyWait 20 = .ok (.invokestatic 152, 3) := by decide +kernel
theorem dH_howManyWait_23 : decode cH_howManyWait 23 = .ok (.iadd, 1) := by decide +kernel
theorem dH_howManyWait_24 : decode cH_howManyWait 24 = .ok (.istore_n 1, 1) := by decide +kernel
theorem dH_howManyWait_25 : decode cH_howManyWait 25 = .ok (.iinc 2 1, 3) := by decide +kernel
theorem dH_howManyWait_28 : decode cH_howManyWait 28 = .ok (.goto (-24), 3) := by decide +kernel
theorem dH_howManyWait_31 : decode cH_howManyWait 31 = .ok (.iload_n 1, 1) := by decide +kernel
theorem dH_howManyWait_32 : decode cH_howManyWait 32 = .ok (.ireturn, 1) := by decide +kernel
def wpl_howManyWait_L4 : Nat → (Int32 → Sg → Prop) → Sg → Int32 → Int32 → Prop
  | 0, _, _, _, _ => False
  | n + 1, post, σ, x1, x2 => (((8 ≤ x2) → post x1 σ) ∧ (¬ (8 ≤ x2) → (vp_in x2 8 ∧ wp_waits (fun r5 s4 => wp_asInt (fun r7 s6 => wpl_howManyWait_L4 n post s6 (x1 + r7) (x2 + 1)) s4 r5) σ ((x2).toNatClampNeg))))
def wp_howManyWait (post : Int32 → Sg → Prop) (σ : Sg)  : Prop := (∃ n : Nat, wpl_howManyWait_L4 n post σ 0 0)
set_option maxHeartbeats 4000000 in
set_option maxRecDepth 100000 in
theorem l_howManyWait_L4 {p : Program} {l : Launch} {e : Env} {s : State} {m : MethodId} {args : Array Value} {below : List Frame} {meth : Method} {c : Code} {D : va_G} {ca : Nat → ClassId} {ad : Nat → Nat → Nat} {A : Nat → Prop}  {post : Int32 → Sg → Prop} (hx : p.tables.exec = Jvm.exec) (hb : c.code = cH_howManyWait) (hr : meth.sig.returnType = (some .int)) (hml : c.maxLocals = 3) (hts : ∀ w ∈ tbG, w.before args s = true) (hown : s.vm.findClass RH = some m.cls) (hlocks : meth.locks = false) (hA : ∀ q : Nat, s.heap.size ≤ q → A q) (hK : va_K D clX (tyA ca) s) (hE : eX A s) : ∀ (n : Nat) (σ : Sg) (x1 : Int32) (x2 : Int32), wpl_howManyWait_L4 n post σ x1 x2 → ∀ (H : Heap) (locs : List Loc), va_P D clX (wX ca ad σ) H → va_D A (wX ca ad σ) → va_S A s.heap H locs → ∀ ls : Array Slot, lv_has ls 3 [(0, .ref (ad 0 0)), (1, .int x1), (2, .int x2)] → W p l e (headSpec wsH_howManyWait ({ frames := 1, cells := 0, slots := 0, locals := 20 })).room s m args below meth c H locs 0 0 (MQ below (va_Qi post (atX D ca ad A) A) args s 0 0 A) (F0 m 4 ls []) := by
  intro n
  induction n with
  | zero => intro σ x1 x2 hw; exact hw.elim
  | succ n ih =>
    intro σ x1 x2 hw H locs hP hD hS ls hl
    refine lv_iload_n hx hb dH_howManyWait_4 rfl (lv_at hl 2 rfl) ?_
    refine lv_bipush (v := 8) hx hb dH_howManyWait_5 (by decide) ?_
    refine lv_icmp_ge (tgt := 31) hx hb dH_howManyWait_7 (by decide) (fun c1 => ?_) (fun c1 => ?_)
    · have hw := hw.1 c1
      refine lv_iload_n hx hb dH_howManyWait_31 rfl (lv_at hl 1 rfl) ?_
      exact W.iret (v := x1) hx hb hr (fun t ht hW => ⟨⟨x1, σ, rfl, hw, by rw [ht]; exact hP, va_K.moved hW.alike hK, hD⟩, hS.F ht⟩) hS.2.2 dH_howManyWait_32
    · have hw := hw.2 c1
      refine lv_iload_n hx hb dH_howManyWait_10 rfl (lv_at hl 1 rfl) ?_
      refine lv_aload_n hx hb dH_howManyWait_11 rfl (lv_at hl 0 rfl) ?_
      refine va_get (D := D) (ci := 0) (v := .ref (ad 1 0)) (C := RH) (T := TH) (N := 8) hx hb hts inH hown hK hP 0 gX_0 rfl 0 (by decide) (hts _ tw_150) (fun _ h9 => h9) rfl dH_howManyWait_12 ?_
      refine lv_iload_n hx hb dH_howManyWait_15 rfl (lv_at hl 2 rfl) ?_
      obtain ⟨hin2, hw⟩ := hw
      have hj3 := px_lt hin2
      refine va_aldq hx hb hK hP 1 2 gX_1 rfl hin2 dH_howManyWait_16 ?_
      refine W.eq (g2 := F0 m 17 ls [.ref (ad 6 ((x2).toNatClampNeg)), .int x1]) rfl ?_
      have hFc := px_free hD hS hA
      refine va_calli (va_runV (As := []) (rest := [.int x1]) ⟨hx, hb, hml, hown, hts⟩ (c_waits l D ca ad σ ((x2).toNatClampNeg) hj3 _ _ hw) (cwV 0 hts (gV tw_198 tw_199 tw_200 tw_6 tw_201) rfl rfl rfl (by decide +kernel) ⟨Nat.le_of_ble_eq_true rfl, Nat.le_of_ble_eq_true rfl⟩) ⟨px_blind, (px_recv hK hP (gX_6 hj3) rfl), fun U hU hW => px_pre hP hK hD hE hS hFc hU hW⟩ rfl rfl hl.1 rfl (lv_room (Nat.le_of_ble_eq_true rfl)) dH_howManyWait_17 ⟨Nat.le_of_ble_eq_true rfl, Nat.le_of_ble_eq_true rfl⟩) hS (fun q _ h => hFc q h) hFc (fun r5 s4 t H locs ht hvm hw hB _ _ hS => ?_)
      obtain ⟨hP, -, hD⟩ := hB
      rw [ht] at hP
      have hD := hD.weaken (fun _ _ _ h9 => hFc _ h9)
      have hFc := px_free hD hS hA
      refine va_calli (va_runS (As := [.int r5]) (rest := [.int x1]) ⟨hx, hb, hml, hown, hts⟩ (c_asInt l D ca ad s4 r5 _ _ hw) (va_cwS 1 hts (gS tw_202 tw_203 tw_1 tw_204) rfl rfl rfl (by decide +kernel) ⟨Nat.le_of_ble_eq_true rfl, Nat.le_of_ble_eq_true rfl⟩) ⟨px_blind, fun U hU hW => px_pre hP hK hD hE hS hFc hU hW⟩ rfl rfl hl.1 rfl (lv_room (Nat.le_of_ble_eq_true rfl)) dH_howManyWait_20 ⟨Nat.le_of_ble_eq_true rfl, Nat.le_of_ble_eq_true rfl⟩) hS (fun q _ h => hFc q h) hFc (fun r7 s6 t H locs ht hvm hw hB _ _ hS => ?_)
      obtain ⟨hP, -, hD⟩ := hB
      rw [ht] at hP
      have hD := hD.weaken (fun _ _ _ h9 => hFc _ h9)
      refine lv_iadd hx hb dH_howManyWait_23 ?_
      refine lv_istore_n (lv' := [(1, .int (x1 + r7)), (0, .ref (ad 0 0)), (2, .int x2)]) hx hb dH_howManyWait_24 rfl hl (by decide) rfl (fun ls hl => ?_)
      refine lv_iinc (v := x2 + 1) (lv' := [(2, .int (x2 + 1)), (1, .int (x1 + r7)), (0, .ref (ad 0 0))]) hx hb dH_howManyWait_25 hl (k := 2) rfl rfl (by decide) rfl (fun ls hl => ?_)
      refine lv_goto (tgt := 4) hx hb dH_howManyWait_28 (by decide) ?_
      exact ih s6 (x1 + r7) (x2 + 1) hw _ _ hP hD hS ls (lv_sub hl [2, 1, 0] rfl)
set_option maxHeartbeats 4000000 in
set_option maxRecDepth 100000 in
theorem c_howManyWait (l : Launch) (D : va_G) (ca : Nat → ClassId) (ad : Nat → Nat → Nat) (σ : Sg)  (sz : Nat) (post : Int32 → Sg → Prop) (hw : wp_howManyWait post σ ) : Met l yH_howManyWait wsH_howManyWait ({ frames := 1, cells := 0, slots := 0, locals := 20 }) (va_Pc [.ref (ad 0 0)] (preX D ca ad σ sz)) (va_Qi post (atX D ca ad (va_A (wX ca ad σ) sz)) (va_A (wX ca ad σ) sz)) 0 0 (va_A (wX ca ad σ) sz) := by
  refine Met.ofW (cc := cH_howManyWait) (maxL := 3) (ret := (some .int)) (by decide) rfl ?_
  intro p e s m args below meth c s₁ B hml hv
  obtain ⟨rfl, hsz, hP, hK, hD0, hE⟩ := hv
  have hx := B.exec
  have hb := B.bytes
  have hr := B.returns
  have hts : ∀ w ∈ tbG, w.before _ s = true := fun w h => atoms_spec (ws := wsH_howManyWait) B.pre w (List.mem_cons_of_mem _ h)
  have hown : s.vm.findClass RH = some m.cls := findClass_of_methodNamed B.named
  have hlocks := B.notSynchronized
  subst hsz
  have hD := hD0.self (sz := s.heap.size)
  generalize hAe : va_A (wX ca ad σ) s.heap.size = A at hD hE ⊢
  have hA : ∀ q : Nat, s.heap.size ≤ q → A q := fun q h => by rw [← hAe]; exact Or.inr h
  clear hAe
  have hS : va_S A s.heap s.heap [] := va_S.rf
  have hl := lv_entry ([.ref (ad 0 0)]) (n := 3) (Nat.le_of_ble_eq_true rfl)
  rw [lg_entry_eq]
  generalize (lg_sl ([.ref (ad 0 0)]) ++ List.replicate (3 - (lg_sl ([.ref (ad 0 0)])).length) Slot.unset).toArray = ls at hl ⊢
  have hl : lv_has ls 3 [(0, .ref (ad 0 0))] := hl
  unfold wp_howManyWait at hw
  have hP : va_P D clX (wX ca ad σ) s.heap := hP
  refine lv_iconst (v := 0) hx hb dH_howManyWait_0 (by decide) ?_
  refine lv_istore_n (lv' := [(1, .int 0), (0, .ref (ad 0 0))]) hx hb dH_howManyWait_1 rfl hl (by decide) rfl (fun ls hl => ?_)
  refine lv_iconst (v := 0) hx hb dH_howManyWait_2 (by decide) ?_
  refine lv_istore_n (lv' := [(2, .int 0), (1, .int 0), (0, .ref (ad 0 0))]) hx hb dH_howManyWait_3 rfl hl (by decide) rfl (fun ls hl => ?_)
  obtain ⟨n, hw⟩ := hw
  exact l_howManyWait_L4 (D := D) (ca := ca) (ad := ad)  hx hb hr hml hts hown hlocks hA hK hE n σ 0 0 hw _ _ hP hD hS ls (lv_sub hl [2, 1, 0] rfl)
theorem dH_firstToRing_0 : decode cH_firstToRing 0 = .ok (.aconst_null, 1) := by decide +kernel
theorem dH_firstToRing_1 : decode cH_firstToRing 1 = .ok (.astore_n 2, 1) := by decide +kernel
theorem dH_firstToRing_2 : decode cH_firstToRing 2 = .ok (.iconst 0, 1) := by decide +kernel
theorem dH_firstToRing_3 : decode cH_firstToRing 3 = .ok (.istore_n 3, 1) := by decide +kernel
theorem dH_firstToRing_4 : decode cH_firstToRing 4 = .ok (.iload_n 3, 1) := by decide +kernel
theorem dH_firstToRing_5 : decode cH_firstToRing 5 = .ok (.bipush 8, 2) := by decide +kernel
theorem dH_firstToRing_7 : decode cH_firstToRing 7 = .ok (.if_icmp .ge 51, 3) := by decide +kernel
theorem dH_firstToRing_10 : decode cH_firstToRing 10 = .ok (.aload_n 0, 1) := by decide +kernel
theorem dH_firstToRing_11 : decode cH_firstToRing 11 = .ok (.getfield 11, 3) := by decide +kernel
theorem dH_firstToRing_14 : decode cH_firstToRing 14 = .ok (.iload_n 3, 1) := by decide +kernel
theorem dH_firstToRing_15 : decode cH_firstToRing 15 = .ok (.aaload, 1) := by decide +kernel
theorem dH_firstToRing_16 : decode cH_firstToRing 16 = .ok (.astore 4, 2) := by decide +kernel
theorem dH_firstToRing_18 : decode cH_firstToRing 18 = .ok (.aload 4, 2) := by decide +kernel
theorem dH_firstToRing_20 : decode cH_firstToRing 20 = .ok (.getfield 146, 3) := by decide +kernel
theorem dH_firstToRing_23 : decode cH_firstToRing 23 = .ok (.iconst (-1), 1) := by decide +kernel
theorem dH_firstToRing_24 : decode cH_firstToRing 24 = .ok (.if_icmp .eq 28, 3) := by decide +kernel
theorem dH_firstToRing_27 : decode cH_firstToRing 27 = .ok (.aload 4, 2) := by decide +kernel
theorem dH_firstToRing_29 : decode cH_firstToRing 29 = .ok (.getfield 146, 3) := by decide +kernel
theorem dH_firstToRing_32 : decode cH_firstToRing 32 = .ok (.iload_n 1, 1) := by decide +kernel
theorem dH_firstToRing_33 : decode cH_firstToRing 33 = .ok (.if_icmp .gt 19, 3) := by decide +kernel
theorem dH_firstToRing_36 : decode cH_firstToRing 36 = .ok (.aload_n 2, 1) := by decide +kernel
theorem dH_firstToRing_37 : decode cH_firstToRing 37 = .ok (.ifnull 12, 3) := by decide +kernel
theorem dH_firstToRing_40 : decode cH_firstToRing 40 = .ok (.aload 4, 2) := by decide +kernel
theorem dH_firstToRing_42 : decode cH_firstToRing 42 = .ok (.aload_n 2, 1) := by decide +kernel
theorem dH_firstToRing_43 : decode cH_firstToRing 43 = .ok (.invokevirtual 243, 3) := by decide +kernel
theorem dH_firstToRing_46 : decode cH_firstToRing 46 = .ok (.ifCond .eq 6, 3) := by decide +kernel
theorem dH_firstToRing_49 : decode cH_firstToRing 49 = .ok (.aload 4, 2) := by decide +kernel
theorem dH_firstToRing_51 : decode cH_firstToRing 51 = .ok (.astore_n 2, 1) := by decide +kernel
theorem dH_firstToRing_52 : decode cH_firstToRing 52 = .ok (.iinc 3 1, 3) := by decide +kernel
theorem dH_firstToRing_55 : decode cH_firstToRing 55 = .ok (.goto (-51), 3) := by decide +kernel
theorem dH_firstToRing_58 : decode cH_firstToRing 58 = .ok (.aload_n 2, 1) := by decide +kernel
theorem dH_firstToRing_59 : decode cH_firstToRing 59 = .ok (.areturn, 1) := by decide +kernel
def wpl_firstToRing_L4 : Nat → (Option Nat → Sg → Prop) → Sg → Int32 → Option Nat → Int32 → Prop
  | 0, _, _, _, _, _ => False
  | n + 1, post, σ, x1, x2, x3 => ((x2 = none → (((8 ≤ x3) → post none σ) ∧ (¬ (8 ≤ x3) → (vp_in x3 8 ∧ ((((sF σ 13 ((x3).toNatClampNeg)) = (-1)) → wpl_firstToRing_L4 n post σ x1 none (x3 + 1)) ∧ (¬ ((sF σ 13 ((x3).toNatClampNeg)) = (-1)) → (((x1 < (sF σ 13 ((x3).toNatClampNeg))) → wpl_firstToRing_L4 n post σ x1 none (x3 + 1)) ∧ (¬ (x1 < (sF σ 13 ((x3).toNatClampNeg))) → wpl_firstToRing_L4 n post σ x1 (some ((x3).toNatClampNeg)) (x3 + 1))))))))) ∧ (∀ j1 : Nat, x2 = some j1 → (j1 < 8 ∧ (((8 ≤ x3) → post (some j1) σ) ∧ (¬ (8 ≤ x3) → (vp_in x3 8 ∧ ((((sF σ 13 ((x3).toNatClampNeg)) = (-1)) → wpl_firstToRing_L4 n post σ x1 (some j1) (x3 + 1)) ∧ (¬ ((sF σ 13 ((x3).toNatClampNeg)) = (-1)) → (((x1 < (sF σ 13 ((x3).toNatClampNeg))) → wpl_firstToRing_L4 n post σ x1 (some j1) (x3 + 1)) ∧ (¬ (x1 < (sF σ 13 ((x3).toNatClampNeg))) → wp_ringsBefore (fun r15 s14 => (((r15 = 0) → wpl_firstToRing_L4 n post s14 x1 (some j1) (x3 + 1)) ∧ (¬ (r15 = 0) → wpl_firstToRing_L4 n post s14 x1 (some ((x3).toNatClampNeg)) (x3 + 1)))) σ ((x3).toNatClampNeg) j1))))))))))
def wp_firstToRing (post : Option Nat → Sg → Prop) (σ : Sg) (a0 : Int32) : Prop := (∃ n : Nat, wpl_firstToRing_L4 n post σ a0 none 0)
set_option maxHeartbeats 4000000 in
set_option maxRecDepth 100000 in
theorem l_firstToRing_L4 {p : Program} {l : Launch} {e : Env} {s : State} {m : MethodId} {args : Array Value} {below : List Frame} {meth : Method} {c : Code} {D : va_G} {ca : Nat → ClassId} {ad : Nat → Nat → Nat} {A : Nat → Prop}  {post : Option Nat → Sg → Prop} (hx : p.tables.exec = Jvm.exec) (hb : c.code = cH_firstToRing) (hr : meth.sig.returnType = (some (.object "PatronHall$Patron"))) (hml : c.maxLocals = 5) (hts : ∀ w ∈ tbG, w.before args s = true) (hown : s.vm.findClass RH = some m.cls) (hlocks : meth.locks = false) (hA : ∀ q : Nat, s.heap.size ≤ q → A q) (hK : va_K D clX (tyA ca) s) (hE : eX A s) : ∀ (n : Nat) (σ : Sg) (x1 : Int32) (x2 : Option Nat) (x3 : Int32), wpl_firstToRing_L4 n post σ x1 x2 x3 → ∀ (H : Heap) (locs : List Loc), va_P D clX (wX ca ad σ) H → va_D A (wX ca ad σ) → va_S A s.heap H locs → ∀ ls : Array Slot, lv_has ls 5 [(0, .ref (ad 0 0)), (1, .int x1), (2, va_re (ad 6) x2), (3, .int x3)] → W p l e (headSpec wsH_firstToRing ({ frames := 1, cells := 0, slots := 0, locals := 21 })).room s m args below meth c H locs 0 0 (MQ below (va_Qe (ad 6) post (atX D ca ad A) A) args s 0 0 A) (F0 m 4 ls []) := by
  intro n
  induction n with
  | zero => intro σ x1 x2 x3 hw; exact hw.elim
  | succ n ih =>
    intro σ x1 x2 x3 hw H locs hP hD hS ls hl
    cases e2 : x2 with
    | none =>
      have hw := hw.1 e2
      try rw [e2] at hl
      refine lv_iload_n hx hb dH_firstToRing_4 rfl (lv_at hl 3 rfl) ?_
      refine lv_bipush (v := 8) hx hb dH_firstToRing_5 (by decide) ?_
      refine lv_icmp_ge (tgt := 58) hx hb dH_firstToRing_7 (by decide) (fun c4 => ?_) (fun c4 => ?_)
      · have hw := hw.1 c4
        refine lv_aload_nN hx hb dH_firstToRing_58 rfl (lv_at hl 2 rfl) ?_
        exact W.aret (v := va_re (ad 6) none) (rt := .object "PatronHall$Patron") hx hb hr (Or.inl ⟨_, rfl⟩) (va_re_or _ _) (fun t ht hW => ⟨⟨none, σ, rfl, hw, by rw [ht]; exact hP, va_K.moved hW.alike hK, hD⟩, hS.F ht⟩) hS.2.2 dH_firstToRing_59
      · have hw := hw.2 c4
        refine lv_aload_n hx hb dH_firstToRing_10 rfl (lv_at hl 0 rfl) ?_
        refine va_get (D := D) (ci := 0) (v := .ref (ad 1 0)) (C := RH) (T := TH) (N := 8) hx hb hts inH hown hK hP 0 gX_0 rfl 0 (by decide) (hts _ tw_150) (fun _ h9 => h9) rfl dH_firstToRing_11 ?_
        refine lv_iload_n hx hb dH_firstToRing_14 rfl (lv_at hl 3 rfl) ?_
        obtain ⟨hin5, hw⟩ := hw
        have hj6 := px_lt hin5
        refine va_aldq hx hb hK hP 1 2 gX_1 rfl hin5 dH_firstToRing_15 ?_
        refine W.eq (g2 := F0 m 16 ls [.ref (ad 6 ((x3).toNatClampNeg))]) rfl ?_
        refine lv_astore (lv' := [(4, .ref (ad 6 ((x3).toNatClampNeg))), (0, .ref (ad 0 0)), (1, .int x1), (2, .null), (3, .int x3)]) hx hb dH_firstToRing_16 hl (by decide) rfl (fun ls hl => ?_)
        refine lv_aload hx hb dH_firstToRing_18 (lv_at hl 0 rfl) ?_
        refine va_get (D := D) (ci := 1) (v := .int (sF σ 13 ((x3).toNatClampNeg))) (C := RP) (T := TP) (N := 16) hx hb hts inP hown hK hP (6 + ((x3).toNatClampNeg)) (gX_6 hj6) rfl 13 (by decide) (hts _ tw_111) (fun _ h9 => h9) rfl dH_firstToRing_20 ?_
        refine lv_iconst (v := (-1)) hx hb dH_firstToRing_23 (by decide) ?_
        refine lv_icmp_eq (tgt := 52) hx hb dH_firstToRing_24 (by decide) (fun c7 => ?_) (fun c7 => ?_)
        · have hw := hw.1 c7
          refine lv_iinc (v := x3 + 1) (lv' := [(3, .int (x3 + 1)), (4, .ref (ad 6 ((x3).toNatClampNeg))), (0, .ref (ad 0 0)), (1, .int x1), (2, .null)]) hx hb dH_firstToRing_52 hl (k := 4) rfl rfl (by decide) rfl (fun ls hl => ?_)
          refine lv_goto (tgt := 4) hx hb dH_firstToRing_55 (by decide) ?_
          exact ih σ x1 none (x3 + 1) hw _ _ hP hD hS ls (lv_sub hl [2, 3, 4, 0] rfl)
        · have hw := hw.2 c7
          refine lv_aload hx hb dH_firstToRing_27 (lv_at hl 0 rfl) ?_
          refine va_get (D := D) (ci := 1) (v := .int (sF σ 13 ((x3).toNatClampNeg))) (C := RP) (T := TP) (N := 16) hx hb hts inP hown hK hP (6 + ((x3).toNatClampNeg)) (gX_6 hj6) rfl 13 (by decide) (hts _ tw_111) (fun _ h9 => h9) rfl dH_firstToRing_29 ?_
          refine lv_iload_n hx hb dH_firstToRing_32 rfl (lv_at hl 2 rfl) ?_
          refine lv_icmp_gt (tgt := 52) hx hb dH_firstToRing_33 (by decide) (fun c8 => ?_) (fun c8 => ?_)
          · have hw := hw.1 c8
            refine lv_iinc (v := x3 + 1) (lv' := [(3, .int (x3 + 1)), (4, .ref (ad 6 ((x3).toNatClampNeg))), (0, .ref (ad 0 0)), (1, .int x1), (2, .null)]) hx hb dH_firstToRing_52 hl (k := 4) rfl rfl (by decide) rfl (fun ls hl => ?_)
            refine lv_goto (tgt := 4) hx hb dH_firstToRing_55 (by decide) ?_
            exact ih σ x1 none (x3 + 1) hw _ _ hP hD hS ls (lv_sub hl [2, 3, 4, 0] rfl)
          · have hw := hw.2 c8
            refine lv_aload_nN hx hb dH_firstToRing_36 rfl (lv_at hl 3 rfl) ?_
            refine lv_ifnullN (tgt := 49) hx hb dH_firstToRing_37 (by decide) ?_
            refine lv_aload hx hb dH_firstToRing_49 (lv_at hl 0 rfl) ?_
            refine lv_astore_n (lv' := [(2, .ref (ad 6 ((x3).toNatClampNeg))), (4, .ref (ad 6 ((x3).toNatClampNeg))), (0, .ref (ad 0 0)), (1, .int x1), (3, .int x3)]) hx hb dH_firstToRing_51 rfl hl (by decide) rfl (fun ls hl => ?_)
            refine lv_iinc (v := x3 + 1) (lv' := [(3, .int (x3 + 1)), (2, .ref (ad 6 ((x3).toNatClampNeg))), (4, .ref (ad 6 ((x3).toNatClampNeg))), (0, .ref (ad 0 0)), (1, .int x1)]) hx hb dH_firstToRing_52 hl (k := 4) rfl rfl (by decide) rfl (fun ls hl => ?_)
            refine lv_goto (tgt := 4) hx hb dH_firstToRing_55 (by decide) ?_
            exact ih σ x1 (some ((x3).toNatClampNeg)) (x3 + 1) hw _ _ hP hD hS ls (lv_sub hl [3, 4, 1, 0] rfl)
    | some j1 =>
      obtain ⟨hj3, hw⟩ := hw.2 j1 e2
      try rw [e2] at hl
      refine lv_iload_n hx hb dH_firstToRing_4 rfl (lv_at hl 3 rfl) ?_
      refine lv_bipush (v := 8) hx hb dH_firstToRing_5 (by decide) ?_
      refine lv_icmp_ge (tgt := 58) hx hb dH_firstToRing_7 (by decide) (fun c9 => ?_) (fun c9 => ?_)
      · have hw := hw.1 c9
        refine lv_aload_n hx hb dH_firstToRing_58 rfl (lv_at hl 2 rfl) ?_
        exact W.aret (v := va_re (ad 6) (some j1)) (rt := .object "PatronHall$Patron") hx hb hr (Or.inl ⟨_, rfl⟩) (va_re_or _ _) (fun t ht hW => ⟨⟨(some j1), σ, rfl, hw, by rw [ht]; exact hP, va_K.moved hW.alike hK, hD⟩, hS.F ht⟩) hS.2.2 dH_firstToRing_59
      · have hw := hw.2 c9
        refine lv_aload_n hx hb dH_firstToRing_10 rfl (lv_at hl 0 rfl) ?_
        refine va_get (D := D) (ci := 0) (v := .ref (ad 1 0)) (C := RH) (T := TH) (N := 8) hx hb hts inH hown hK hP 0 gX_0 rfl 0 (by decide) (hts _ tw_150) (fun _ h9 => h9) rfl dH_firstToRing_11 ?_
        refine lv_iload_n hx hb dH_firstToRing_14 rfl (lv_at hl 3 rfl) ?_
        obtain ⟨hin10, hw⟩ := hw
        have hj11 := px_lt hin10
        refine va_aldq hx hb hK hP 1 2 gX_1 rfl hin10 dH_firstToRing_15 ?_
        refine W.eq (g2 := F0 m 16 ls [.ref (ad 6 ((x3).toNatClampNeg))]) rfl ?_
        refine lv_astore (lv' := [(4, .ref (ad 6 ((x3).toNatClampNeg))), (0, .ref (ad 0 0)), (1, .int x1), (2, .ref (ad 6 j1)), (3, .int x3)]) hx hb dH_firstToRing_16 hl (by decide) rfl (fun ls hl => ?_)
        refine lv_aload hx hb dH_firstToRing_18 (lv_at hl 0 rfl) ?_
        refine va_get (D := D) (ci := 1) (v := .int (sF σ 13 ((x3).toNatClampNeg))) (C := RP) (T := TP) (N := 16) hx hb hts inP hown hK hP (6 + ((x3).toNatClampNeg)) (gX_6 hj11) rfl 13 (by decide) (hts _ tw_111) (fun _ h9 => h9) rfl dH_firstToRing_20 ?_
        refine lv_iconst (v := (-1)) hx hb dH_firstToRing_23 (by decide) ?_
        refine lv_icmp_eq (tgt := 52) hx hb dH_firstToRing_24 (by decide) (fun c12 => ?_) (fun c12 => ?_)
        · have hw := hw.1 c12
          refine lv_iinc (v := x3 + 1) (lv' := [(3, .int (x3 + 1)), (4, .ref (ad 6 ((x3).toNatClampNeg))), (0, .ref (ad 0 0)), (1, .int x1), (2, .ref (ad 6 j1))]) hx hb dH_firstToRing_52 hl (k := 4) rfl rfl (by decide) rfl (fun ls hl => ?_)
          refine lv_goto (tgt := 4) hx hb dH_firstToRing_55 (by decide) ?_
          exact ih σ x1 (some j1) (x3 + 1) hw _ _ hP hD hS ls (lv_sub hl [2, 3, 4, 0] rfl)
        · have hw := hw.2 c12
          refine lv_aload hx hb dH_firstToRing_27 (lv_at hl 0 rfl) ?_
          refine va_get (D := D) (ci := 1) (v := .int (sF σ 13 ((x3).toNatClampNeg))) (C := RP) (T := TP) (N := 16) hx hb hts inP hown hK hP (6 + ((x3).toNatClampNeg)) (gX_6 hj11) rfl 13 (by decide) (hts _ tw_111) (fun _ h9 => h9) rfl dH_firstToRing_29 ?_
          refine lv_iload_n hx hb dH_firstToRing_32 rfl (lv_at hl 2 rfl) ?_
          refine lv_icmp_gt (tgt := 52) hx hb dH_firstToRing_33 (by decide) (fun c13 => ?_) (fun c13 => ?_)
          · have hw := hw.1 c13
            refine lv_iinc (v := x3 + 1) (lv' := [(3, .int (x3 + 1)), (4, .ref (ad 6 ((x3).toNatClampNeg))), (0, .ref (ad 0 0)), (1, .int x1), (2, .ref (ad 6 j1))]) hx hb dH_firstToRing_52 hl (k := 4) rfl rfl (by decide) rfl (fun ls hl => ?_)
            refine lv_goto (tgt := 4) hx hb dH_firstToRing_55 (by decide) ?_
            exact ih σ x1 (some j1) (x3 + 1) hw _ _ hP hD hS ls (lv_sub hl [2, 3, 4, 0] rfl)
          · have hw := hw.2 c13
            refine lv_aload_n hx hb dH_firstToRing_36 rfl (lv_at hl 3 rfl) ?_
            refine lv_ifnull hx hb dH_firstToRing_37 ?_
            refine lv_aload hx hb dH_firstToRing_40 (lv_at hl 0 rfl) ?_
            refine lv_aload_n hx hb dH_firstToRing_42 rfl (lv_at hl 3 rfl) ?_
            have hFc := px_free hD hS hA
            refine va_calli (va_runV (As := [.ref (ad 6 j1)]) (rest := []) ⟨hx, hb, hml, hown, hts⟩ (c_ringsBefore l D ca ad σ ((x3).toNatClampNeg) hj11 j1 hj3 _ _ hw) (cwV 1 hts (gV tw_523 tw_524 tw_525 tw_6 tw_526) rfl rfl rfl (by decide +kernel) ⟨Nat.le_of_ble_eq_true rfl, Nat.le_of_ble_eq_true rfl⟩) ⟨px_blind, (px_recv hK hP (gX_6 hj11) rfl), fun U hU hW => px_pre hP hK hD hE hS hFc hU hW⟩ rfl rfl hl.1 rfl (lv_room (Nat.le_of_ble_eq_true rfl)) dH_firstToRing_43 ⟨Nat.le_of_ble_eq_true rfl, Nat.le_of_ble_eq_true rfl⟩) hS (fun q _ h => hFc q h) hFc (fun r15 s14 t H locs ht hvm hw hB _ _ hS => ?_)
            obtain ⟨hP, -, hD⟩ := hB
            rw [ht] at hP
            have hD := hD.weaken (fun _ _ _ h9 => hFc _ h9)
            refine lv_if_eq (tgt := 52) hx hb dH_firstToRing_46 (by decide) (fun c16 => ?_) (fun c16 => ?_)
            · have hw := hw.1 c16
              refine lv_iinc (v := x3 + 1) (lv' := [(3, .int (x3 + 1)), (4, .ref (ad 6 ((x3).toNatClampNeg))), (0, .ref (ad 0 0)), (1, .int x1), (2, .ref (ad 6 j1))]) hx hb dH_firstToRing_52 hl (k := 4) rfl rfl (by decide) rfl (fun ls hl => ?_)
              refine lv_goto (tgt := 4) hx hb dH_firstToRing_55 (by decide) ?_
              exact ih s14 x1 (some j1) (x3 + 1) hw _ _ hP hD hS ls (lv_sub hl [2, 3, 4, 0] rfl)
            · have hw := hw.2 c16
              refine lv_aload hx hb dH_firstToRing_49 (lv_at hl 0 rfl) ?_
              refine lv_astore_n (lv' := [(2, .ref (ad 6 ((x3).toNatClampNeg))), (4, .ref (ad 6 ((x3).toNatClampNeg))), (0, .ref (ad 0 0)), (1, .int x1), (3, .int x3)]) hx hb dH_firstToRing_51 rfl hl (by decide) rfl (fun ls hl => ?_)
              refine lv_iinc (v := x3 + 1) (lv' := [(3, .int (x3 + 1)), (2, .ref (ad 6 ((x3).toNatClampNeg))), (4, .ref (ad 6 ((x3).toNatClampNeg))), (0, .ref (ad 0 0)), (1, .int x1)]) hx hb dH_firstToRing_52 hl (k := 4) rfl rfl (by decide) rfl (fun ls hl => ?_)
              refine lv_goto (tgt := 4) hx hb dH_firstToRing_55 (by decide) ?_
              exact ih s14 x1 (some ((x3).toNatClampNeg)) (x3 + 1) hw _ _ hP hD hS ls (lv_sub hl [3, 4, 1, 0] rfl)
set_option maxHeartbeats 4000000 in
set_option maxRecDepth 100000 in
theorem c_firstToRing (l : Launch) (D : va_G) (ca : Nat → ClassId) (ad : Nat → Nat → Nat) (σ : Sg) (a0 : Int32) (sz : Nat) (post : Option Nat → Sg → Prop) (hw : wp_firstToRing post σ a0) : Met l yH_firstToRing wsH_firstToRing ({ frames := 1, cells := 0, slots := 0, locals := 21 }) (va_Pc [.ref (ad 0 0), .int a0] (preX D ca ad σ sz)) (va_Qe (ad 6) post (atX D ca ad (va_A (wX ca ad σ) sz)) (va_A (wX ca ad σ) sz)) 0 0 (va_A (wX ca ad σ) sz) := by
  refine Met.ofW (cc := cH_firstToRing) (maxL := 5) (ret := (some (.object "PatronHall$Patron"))) (by decide) rfl ?_
  intro p e s m args below meth c s₁ B hml hv
  obtain ⟨rfl, hsz, hP, hK, hD0, hE⟩ := hv
  have hx := B.exec
  have hb := B.bytes
  have hr := B.returns
  have hts : ∀ w ∈ tbG, w.before _ s = true := fun w h => atoms_spec (ws := wsH_firstToRing) B.pre w (List.mem_cons_of_mem _ h)
  have hown : s.vm.findClass RH = some m.cls := findClass_of_methodNamed B.named
  have hlocks := B.notSynchronized
  subst hsz
  have hD := hD0.self (sz := s.heap.size)
  generalize hAe : va_A (wX ca ad σ) s.heap.size = A at hD hE ⊢
  have hA : ∀ q : Nat, s.heap.size ≤ q → A q := fun q h => by rw [← hAe]; exact Or.inr h
  clear hAe
  have hS : va_S A s.heap s.heap [] := va_S.rf
  have hl := lv_entry ([.ref (ad 0 0), .int a0]) (n := 5) (Nat.le_of_ble_eq_true rfl)
  rw [lg_entry_eq]
  generalize (lg_sl ([.ref (ad 0 0), .int a0]) ++ List.replicate (5 - (lg_sl ([.ref (ad 0 0), .int a0])).length) Slot.unset).toArray = ls at hl ⊢
  have hl : lv_has ls 5 [(0, .ref (ad 0 0)), (1, .int a0)] := hl
  unfold wp_firstToRing at hw
  have hP : va_P D clX (wX ca ad σ) s.heap := hP
  refine lv_null hx hb dH_firstToRing_0 ?_
  refine lv_astore_nN (lv' := [(2, .null), (0, .ref (ad 0 0)), (1, .int a0)]) hx hb dH_firstToRing_1 rfl hl (by decide) rfl (fun ls hl => ?_)
  refine lv_iconst (v := 0) hx hb dH_firstToRing_2 (by decide) ?_
  refine lv_istore_n (lv' := [(3, .int 0), (2, .null), (0, .ref (ad 0 0)), (1, .int a0)]) hx hb dH_firstToRing_3 rfl hl (by decide) rfl (fun ls hl => ?_)
  obtain ⟨n, hw⟩ := hw
  exact l_firstToRing_L4 (D := D) (ca := ca) (ad := ad)  hx hb hr hml hts hown hlocks hA hK hE n σ a0 none 0 hw _ _ hP hD hS ls (lv_sub hl [2, 3, 1, 0] rfl)
theorem dH_hearAnswer_0 : decode cH_hearAnswer 0 = .ok (.aload_n 1, 1) := by decide +kernel
theorem dH_hearAnswer_1 : decode cH_hearAnswer 1 = .ok (.getfield 169, 3) := by decide +kernel
theorem dH_hearAnswer_4 : decode cH_hearAnswer 4 = .ok (.ifCond .eq 21, 3) := by decide +kernel
theorem dH_hearAnswer_7 : decode cH_hearAnswer 7 = .ok (.aload_n 1, 1) := by decide +kernel
theorem dH_hearAnswer_8 : decode cH_hearAnswer 8 = .ok (.iload_n 2, 1) := by decide +kernel
theorem dH_hearAnswer_9 : decode cH_hearAnswer 9 = .ok (.putfield 104, 3) := by decide +kernel
theorem dH_hearAnswer_12 : decode cH_hearAnswer 12 = .ok (.aload_n 1, 1) := by decide +kernel
theorem dH_hearAnswer_13 : decode cH_hearAnswer 13 = .ok (.iconst 0, 1) := by decide +kernel
theorem dH_hearAnswer_14 : decode cH_hearAnswer 14 = .ok (.putfield 159, 3) := by decide +kernel
theorem dH_hearAnswer_17 : decode cH_hearAnswer 17 = .ok (.aload_n 0, 1) := by decide +kernel
theorem dH_hearAnswer_18 : decode cH_hearAnswer 18 = .ok (.aload_n 1, 1) := by decide +kernel
theorem dH_hearAnswer_19 : decode cH_hearAnswer 19 = .ok (.invokevirtual 111, 3) := by decide +kernel
theorem dH_hearAnswer_22 : decode cH_hearAnswer 22 = .ok (.goto 19, 3) := by decide +kernel
theorem dH_hearAnswer_25 : decode cH_hearAnswer 25 = .ok (.aload_n 1, 1) := by decide +kernel
theorem dH_hearAnswer_26 : decode cH_hearAnswer 26 = .ok (.aload_n 0, 1) := by decide +kernel
theorem dH_hearAnswer_27 : decode cH_hearAnswer 27 = .ok (.getfield 29, 3) := by decide +kernel
theorem dH_hearAnswer_30 : decode cH_hearAnswer 30 = .ok (.iload_n 3, 1) := by decide +kernel
theorem dH_hearAnswer_31 : decode cH_hearAnswer 31 = .ok (.invokevirtual 247, 3) := by decide +kernel
theorem dH_hearAnswer_34 : decode cH_hearAnswer 34 = .ok (.aload_n 0, 1) := by decide +kernel
theorem dH_hearAnswer_35 : decode cH_hearAnswer 35 = .ok (.aload_n 1, 1) := by decide +kernel
theorem dH_hearAnswer_36 : decode cH_hearAnswer 36 = .ok (.iconst 1, 1) := by decide +kernel
theorem dH_hearAnswer_37 : decode cH_hearAnswer 37 = .ok (.iload_n 2, 1) := by decide +kernel
theorem dH_hearAnswer_38 : decode cH_hearAnswer 38 = .ok (.invokevirtual 134, 3) := by decide +kernel
theorem dH_hearAnswer_41 : decode cH_hearAnswer 41 = .ok (.return_, 1) := by decide +kernel
def wp_hearAnswer (post : Sg → Prop) (σ : Sg) (k0 : Nat) (a1 : Int32) (a2 : Int32) : Prop := ((((sF σ 12 k0) = 0) → wp_keepAnswer (fun s2 => wp_tell (fun s4 => post s4) s2 k0 1 a1) σ k0 a2) ∧ (¬ ((sF σ 12 k0) = 0) → wp_requestWhatWasAsked (fun s6 => post s6) (uF 9 k0 0 (uF 8 k0 a1 σ)) k0))
set_option maxHeartbeats 4000000 in
set_option maxRecDepth 100000 in
theorem c_hearAnswer (l : Launch) (D : va_G) (ca : Nat → ClassId) (ad : Nat → Nat → Nat) (σ : Sg) (k0 : Nat) (hk0 : k0 < 8) (a1 : Int32) (a2 : Int32) (sz : Nat) (post : Sg → Prop) (hw : wp_hearAnswer post σ k0 a1 a2) : Met l yH_hearAnswer wsH_hearAnswer ({ frames := 5, cells := 0, slots := 0, locals := 108 }) (va_Pc [.ref (ad 0 0), .ref (ad 6 k0), .int a1, .int a2] (preX D ca ad σ sz)) (va_Qv post (atX D ca ad (va_A (wX ca ad σ) sz)) (va_A (wX ca ad σ) sz)) 0 0 (va_A (wX ca ad σ) sz) := by
  refine Met.ofW (cc := cH_hearAnswer) (maxL := 4) (ret := none) (by decide) rfl ?_
  intro p e s m args below meth c s₁ B hml hv
  obtain ⟨rfl, hsz, hP, hK, hD0, hE⟩ := hv
  have hx := B.exec
  have hb := B.bytes
  have hr := B.returns
  have hts : ∀ w ∈ tbG, w.before _ s = true := fun w h => atoms_spec (ws := wsH_hearAnswer) B.pre w (List.mem_cons_of_mem _ h)
  have hown : s.vm.findClass RH = some m.cls := findClass_of_methodNamed B.named
  have hlocks := B.notSynchronized
  subst hsz
  have hD := hD0.self (sz := s.heap.size)
  generalize hAe : va_A (wX ca ad σ) s.heap.size = A at hD hE ⊢
  have hA : ∀ q : Nat, s.heap.size ≤ q → A q := fun q h => by rw [← hAe]; exact Or.inr h
  clear hAe
  have hS : va_S A s.heap s.heap [] := va_S.rf
  have hl := lv_entry ([.ref (ad 0 0), .ref (ad 6 k0), .int a1, .int a2]) (n := 4) (Nat.le_of_ble_eq_true rfl)
  rw [lg_entry_eq]
  generalize (lg_sl ([.ref (ad 0 0), .ref (ad 6 k0), .int a1, .int a2]) ++ List.replicate (4 - (lg_sl ([.ref (ad 0 0), .ref (ad 6 k0), .int a1, .int a2])).length) Slot.unset).toArray = ls at hl ⊢
  have hl : lv_has ls 4 [(0, .ref (ad 0 0)), (1, .ref (ad 6 k0)), (2, .int a1), (3, .int a2)] := hl
  unfold wp_hearAnswer at hw
  have hP : va_P D clX (wX ca ad σ) s.heap := hP
  refine lv_aload_n hx hb dH_hearAnswer_0 rfl (lv_at hl 1 rfl) ?_
  refine va_get (D := D) (ci := 1) (v := .int (sF σ 12 k0)) (C := RP) (T := TP) (N := 16) hx hb hts inP hown hK hP (6 + k0) (gX_6 hk0) rfl 12 (by decide) (hts _ tw_109) (fun _ h9 => h9) rfl dH_hearAnswer_1 ?_
  refine lv_if_eq (tgt := 25) hx hb dH_hearAnswer_4 (by decide) (fun c1 => ?_) (fun c1 => ?_)
  · have hw := hw.1 c1
    refine lv_aload_n hx hb dH_hearAnswer_25 rfl (lv_at hl 1 rfl) ?_
    refine lv_aload_n hx hb dH_hearAnswer_26 rfl (lv_at hl 0 rfl) ?_
    refine va_get (D := D) (ci := 0) (v := .ref (ad 4 0)) (C := RH) (T := TH) (N := 8) hx hb hts inH hown hK hP 0 gX_0 rfl 3 (by decide) (hts _ tw_153) (fun _ h9 => h9) rfl dH_hearAnswer_27 ?_
    refine lv_iload_n hx hb dH_hearAnswer_30 rfl (lv_at hl 3 rfl) ?_
    have hFc := px_free hD hS hA
    refine va_callv (va_runV (As := [.ref (ad 4 0), .int a2]) (rest := []) ⟨hx, hb, hml, hown, hts⟩ (c_keepAnswer l D ca ad σ k0 hk0 a2 _ _ hw) (cwV 2 hts (gV tw_499 tw_500 tw_501 tw_6 tw_502) rfl rfl rfl (by decide +kernel) ⟨Nat.le_of_ble_eq_true rfl, Nat.le_of_ble_eq_true rfl⟩) ⟨px_blind, (px_recv hK hP (gX_6 hk0) rfl), fun U hU hW => px_pre hP hK hD hE hS hFc hU hW⟩ rfl rfl hl.1 rfl (lv_room (Nat.le_of_ble_eq_true rfl)) dH_hearAnswer_31 ⟨Nat.le_of_ble_eq_true rfl, Nat.le_of_ble_eq_true rfl⟩) hS (fun q _ h => hFc q h) hFc (fun s2 t H locs ht hvm hw hB _ _ hS => ?_)
    obtain ⟨hP, -, hD⟩ := hB
    rw [ht] at hP
    have hD := hD.weaken (fun _ _ _ h9 => hFc _ h9)
    refine lv_aload_n hx hb dH_hearAnswer_34 rfl (lv_at hl 0 rfl) ?_
    refine lv_aload_n hx hb dH_hearAnswer_35 rfl (lv_at hl 1 rfl) ?_
    refine lv_iconst (v := 1) hx hb dH_hearAnswer_36 (by decide) ?_
    refine lv_iload_n hx hb dH_hearAnswer_37 rfl (lv_at hl 2 rfl) ?_
    have hFc := px_free hD hS hA
    refine va_callv (va_runV (As := [.ref (ad 6 k0), .int 1, .int a1]) (rest := []) ⟨hx, hb, hml, hown, hts⟩ (c_tell l D ca ad s2 k0 hk0 1 a1 _ _ hw) (cwV 3 hts (gV tw_455 tw_457 tp_11 tw_1 tw_458) rfl rfl rfl (by decide +kernel) ⟨Nat.le_of_ble_eq_true rfl, Nat.le_of_ble_eq_true rfl⟩) ⟨px_blind, (px_recv hK hP gX_0 rfl), fun U hU hW => px_pre hP hK hD hE hS hFc hU hW⟩ rfl rfl hl.1 rfl (lv_room (Nat.le_of_ble_eq_true rfl)) dH_hearAnswer_38 ⟨Nat.le_of_ble_eq_true rfl, Nat.le_of_ble_eq_true rfl⟩) hS (fun q _ h => hFc q h) hFc (fun s4 t H locs ht hvm hw hB _ _ hS => ?_)
    obtain ⟨hP, -, hD⟩ := hB
    rw [ht] at hP
    have hD := hD.weaken (fun _ _ _ h9 => hFc _ h9)
    exact W.vret hx hb hr (fun t ht hW => ⟨⟨s4, rfl, hw, by rw [ht]; exact hP, va_K.moved hW.alike hK, hD⟩, hS.F ht⟩) hS.2.2 dH_hearAnswer_41
  · have hw := hw.2 c1
    refine lv_aload_n hx hb dH_hearAnswer_7 rfl (lv_at hl 1 rfl) ?_
    refine lv_iload_n hx hb dH_hearAnswer_8 rfl (lv_at hl 2 rfl) ?_
    refine va_put (D := D) (ci := 1) (v := .int a1) (ty := .int) (C := RP) (T := TP) (N := 16) hx hb hts inP tyP tyP_ok nmP hown hK hP hD hS (6 + k0) (gX_6 hk0) rfl 8 (by decide) (hts _ tw_98) (fun _ h9 => h9) rfl (by decide +kernel) rfl rfl (Nat.le_of_ble_eq_true rfl) dH_hearAnswer_9 (fun H locs hP hD hS => ?_)
    rw [sX_6_8 hk0] at hP hD
    refine lv_aload_n hx hb dH_hearAnswer_12 rfl (lv_at hl 1 rfl) ?_
    refine lv_iconst (v := 0) hx hb dH_hearAnswer_13 (by decide) ?_
    refine va_put (D := D) (ci := 1) (v := .int 0) (ty := .int) (C := RP) (T := TP) (N := 16) hx hb hts inP tyP tyP_ok nmP hown hK hP hD hS (6 + k0) (gX_6 hk0) rfl 9 (by decide) (hts _ tw_101) (fun _ h9 => h9) rfl (by decide +kernel) rfl rfl (Nat.le_of_ble_eq_true rfl) dH_hearAnswer_14 (fun H locs hP hD hS => ?_)
    rw [sX_6_9 hk0] at hP hD
    refine lv_aload_n hx hb dH_hearAnswer_17 rfl (lv_at hl 0 rfl) ?_
    refine lv_aload_n hx hb dH_hearAnswer_18 rfl (lv_at hl 1 rfl) ?_
    have hFc := px_free hD hS hA
    refine va_callv (va_runV (As := [.ref (ad 6 k0)]) (rest := []) ⟨hx, hb, hml, hown, hts⟩ (c_requestWhatWasAsked l D ca ad (uF 9 k0 0 (uF 8 k0 a1 σ)) k0 hk0 _ _ hw) (cwV 1 hts (gV tw_472 tw_474 tp_13 tw_1 tw_475) rfl rfl rfl (by decide +kernel) ⟨Nat.le_of_ble_eq_true rfl, Nat.le_of_ble_eq_true rfl⟩) ⟨px_blind, (px_recv hK hP gX_0 rfl), fun U hU hW => px_pre hP hK hD hE hS hFc hU hW⟩ rfl rfl hl.1 rfl (lv_room (Nat.le_of_ble_eq_true rfl)) dH_hearAnswer_19 ⟨Nat.le_of_ble_eq_true rfl, Nat.le_of_ble_eq_true rfl⟩) hS (fun q _ h => hFc q h) hFc (fun s6 t H locs ht hvm hw hB _ _ hS => ?_)
    obtain ⟨hP, -, hD⟩ := hB
    rw [ht] at hP
    have hD := hD.weaken (fun _ _ _ h9 => hFc _ h9)
    refine lv_goto (tgt := 41) hx hb dH_hearAnswer_22 (by decide) ?_
    exact W.vret hx hb hr (fun t ht hW => ⟨⟨s6, rfl, hw, by rw [ht]; exact hP, va_K.moved hW.alike hK, hD⟩, hS.F ht⟩) hS.2.2 dH_hearAnswer_41
theorem dH_hearWhoLeads_0 : decode cH_hearWhoLeads 0 = .ok (.iload_n 2, 1) := by decide +kernel
theorem dH_hearWhoLeads_1 : decode cH_hearWhoLeads 1 = .ok (.iconst (-1), 1) := by decide +kernel
theorem dH_hearWhoLeads_2 : decode cH_hearWhoLeads 2 = .ok (.if_icmp .ne 17, 3) := by decide +kernel
theorem dH_hearWhoLeads_5 : decode cH_hearWhoLeads 5 = .ok (.aload_n 1, 1) := by decide +kernel
theorem dH_hearWhoLeads_6 : decode cH_hearWhoLeads 6 = .ok (.invokevirtual 240, 3) := by decide +kernel
theorem dH_hearWhoLeads_9 : decode cH_hearWhoLeads 9 = .ok (.aload_n 0, 1) := by decide +kernel
theorem dH_hearWhoLeads_10 : decode cH_hearWhoLeads 10 = .ok (.aload_n 1, 1) := by decide +kernel
theorem dH_hearWhoLeads_11 : decode cH_hearWhoLeads 11 = .ok (.iconst 5, 1) := by decide +kernel
theorem dH_hearWhoLeads_12 : decode cH_hearWhoLeads 12 = .ok (.iconst 0, 1) := by decide +kernel
theorem dH_hearWhoLeads_13 : decode cH_hearWhoLeads 13 = .ok (.invokevirtual 137, 3) := by decide +kernel
theorem dH_hearWhoLeads_16 : decode cH_hearWhoLeads 16 = .ok (.goto 13, 3) := by decide +kernel
theorem dH_hearWhoLeads_19 : decode cH_hearWhoLeads 19 = .ok (.aload_n 1, 1) := by decide +kernel
theorem dH_hearWhoLeads_20 : decode cH_hearWhoLeads 20 = .ok (.iload_n 2, 1) := by decide +kernel
theorem dH_hearWhoLeads_21 : decode cH_hearWhoLeads 21 = .ok (.putfield 156, 3) := by decide +kernel
theorem dH_hearWhoLeads_24 : decode cH_hearWhoLeads 24 = .ok (.aload_n 0, 1) := by decide +kernel
theorem dH_hearWhoLeads_25 : decode cH_hearWhoLeads 25 = .ok (.aload_n 1, 1) := by decide +kernel
theorem dH_hearWhoLeads_26 : decode cH_hearWhoLeads 26 = .ok (.invokevirtual 231, 3) := by decide +kernel
theorem dH_hearWhoLeads_29 : decode cH_hearWhoLeads 29 = .ok (.return_, 1) := by decide +kernel
def wp_hearWhoLeads (post : Sg → Prop) (σ : Sg) (k0 : Nat) (a1 : Int32) : Prop := ((¬ (a1 = (-1)) → wp_send (fun s2 => post s2) (uF 7 k0 a1 σ) k0) ∧ ((a1 = (-1)) → wp_turnToNextServer (fun s4 => wp_makeAlarm (fun s6 => post s6) s4 k0 5 0) σ k0))
set_option maxHeartbeats 4000000 in
set_option maxRecDepth 100000 in
theorem c_hearWhoLeads (l : Launch) (D : va_G) (ca : Nat → ClassId) (ad : Nat → Nat → Nat) (σ : Sg) (k0 : Nat) (hk0 : k0 < 8) (a1 : Int32) (sz : Nat) (post : Sg → Prop) (hw : wp_hearWhoLeads post σ k0 a1) : Met l yH_hearWhoLeads wsH_hearWhoLeads ({ frames := 4, cells := 0, slots := 0, locals := 87 }) (va_Pc [.ref (ad 0 0), .ref (ad 6 k0), .int a1] (preX D ca ad σ sz)) (va_Qv post (atX D ca ad (va_A (wX ca ad σ) sz)) (va_A (wX ca ad σ) sz)) 0 0 (va_A (wX ca ad σ) sz) := by
  refine Met.ofW (cc := cH_hearWhoLeads) (maxL := 3) (ret := none) (by decide) rfl ?_
  intro p e s m args below meth c s₁ B hml hv
  obtain ⟨rfl, hsz, hP, hK, hD0, hE⟩ := hv
  have hx := B.exec
  have hb := B.bytes
  have hr := B.returns
  have hts : ∀ w ∈ tbG, w.before _ s = true := fun w h => atoms_spec (ws := wsH_hearWhoLeads) B.pre w (List.mem_cons_of_mem _ h)
  have hown : s.vm.findClass RH = some m.cls := findClass_of_methodNamed B.named
  have hlocks := B.notSynchronized
  subst hsz
  have hD := hD0.self (sz := s.heap.size)
  generalize hAe : va_A (wX ca ad σ) s.heap.size = A at hD hE ⊢
  have hA : ∀ q : Nat, s.heap.size ≤ q → A q := fun q h => by rw [← hAe]; exact Or.inr h
  clear hAe
  have hS : va_S A s.heap s.heap [] := va_S.rf
  have hl := lv_entry ([.ref (ad 0 0), .ref (ad 6 k0), .int a1]) (n := 3) (Nat.le_of_ble_eq_true rfl)
  rw [lg_entry_eq]
  generalize (lg_sl ([.ref (ad 0 0), .ref (ad 6 k0), .int a1]) ++ List.replicate (3 - (lg_sl ([.ref (ad 0 0), .ref (ad 6 k0), .int a1])).length) Slot.unset).toArray = ls at hl ⊢
  have hl : lv_has ls 3 [(0, .ref (ad 0 0)), (1, .ref (ad 6 k0)), (2, .int a1)] := hl
  unfold wp_hearWhoLeads at hw
  have hP : va_P D clX (wX ca ad σ) s.heap := hP
  refine lv_iload_n hx hb dH_hearWhoLeads_0 rfl (lv_at hl 2 rfl) ?_
  refine lv_iconst (v := (-1)) hx hb dH_hearWhoLeads_1 (by decide) ?_
  refine lv_icmp_ne (tgt := 19) hx hb dH_hearWhoLeads_2 (by decide) (fun c1 => ?_) (fun c1 => ?_)
  · have hw := hw.1 c1
    refine lv_aload_n hx hb dH_hearWhoLeads_19 rfl (lv_at hl 1 rfl) ?_
    refine lv_iload_n hx hb dH_hearWhoLeads_20 rfl (lv_at hl 2 rfl) ?_
    refine va_put (D := D) (ci := 1) (v := .int a1) (ty := .int) (C := RP) (T := TP) (N := 16) hx hb hts inP tyP tyP_ok nmP hown hK hP hD hS (6 + k0) (gX_6 hk0) rfl 7 (by decide) (hts _ tw_95) (fun _ h9 => h9) rfl (by decide +kernel) rfl rfl (Nat.le_of_ble_eq_true rfl) dH_hearWhoLeads_21 (fun H locs hP hD hS => ?_)
    rw [sX_6_7 hk0] at hP hD
    refine lv_aload_n hx hb dH_hearWhoLeads_24 rfl (lv_at hl 0 rfl) ?_
    refine lv_aload_n hx hb dH_hearWhoLeads_25 rfl (lv_at hl 1 rfl) ?_
    have hFc := px_free hD hS hA
    refine va_callv (va_runV (As := [.ref (ad 6 k0)]) (rest := []) ⟨hx, hb, hml, hown, hts⟩ (c_send l D ca ad (uF 7 k0 a1 σ) k0 hk0 _ _ hw) (cwV 1 hts (gV tw_447 tw_449 tp_9 tw_1 tw_450) rfl rfl rfl (by decide +kernel) ⟨Nat.le_of_ble_eq_true rfl, Nat.le_of_ble_eq_true rfl⟩) ⟨px_blind, (px_recv hK hP gX_0 rfl), fun U hU hW => px_pre hP hK hD hE hS hFc hU hW⟩ rfl rfl hl.1 rfl (lv_room (Nat.le_of_ble_eq_true rfl)) dH_hearWhoLeads_26 ⟨Nat.le_of_ble_eq_true rfl, Nat.le_of_ble_eq_true rfl⟩) hS (fun q _ h => hFc q h) hFc (fun s2 t H locs ht hvm hw hB _ _ hS => ?_)
    obtain ⟨hP, -, hD⟩ := hB
    rw [ht] at hP
    have hD := hD.weaken (fun _ _ _ h9 => hFc _ h9)
    exact W.vret hx hb hr (fun t ht hW => ⟨⟨s2, rfl, hw, by rw [ht]; exact hP, va_K.moved hW.alike hK, hD⟩, hS.F ht⟩) hS.2.2 dH_hearWhoLeads_29
  · have hw := hw.2 c1
    refine lv_aload_n hx hb dH_hearWhoLeads_5 rfl (lv_at hl 1 rfl) ?_
    have hFc := px_free hD hS hA
    refine va_callv (va_runV (As := []) (rest := []) ⟨hx, hb, hml, hown, hts⟩ (c_turnToNextServer l D ca ad σ k0 hk0 _ _ hw) (cwV 0 hts (gV tw_507 tw_508 tw_509 tw_6 tw_510) rfl rfl rfl (by decide +kernel) ⟨Nat.le_of_ble_eq_true rfl, Nat.le_of_ble_eq_true rfl⟩) ⟨px_blind, (px_recv hK hP (gX_6 hk0) rfl), fun U hU hW => px_pre hP hK hD hE hS hFc hU hW⟩ rfl rfl hl.1 rfl (lv_room (Nat.le_of_ble_eq_true rfl)) dH_hearWhoLeads_6 ⟨Nat.le_of_ble_eq_true rfl, Nat.le_of_ble_eq_true rfl⟩) hS (fun q _ h => hFc q h) hFc (fun s4 t H locs ht hvm hw hB _ _ hS => ?_)
    obtain ⟨hP, -, hD⟩ := hB
    rw [ht] at hP
    have hD := hD.weaken (fun _ _ _ h9 => hFc _ h9)
    refine lv_aload_n hx hb dH_hearWhoLeads_9 rfl (lv_at hl 0 rfl) ?_
    refine lv_aload_n hx hb dH_hearWhoLeads_10 rfl (lv_at hl 1 rfl) ?_
    refine lv_iconst (v := 5) hx hb dH_hearWhoLeads_11 (by decide) ?_
    refine lv_iconst (v := 0) hx hb dH_hearWhoLeads_12 (by decide) ?_
    have hFc := px_free hD hS hA
    refine va_callv (va_runV (As := [.ref (ad 6 k0), .int 5, .int 0]) (rest := []) ⟨hx, hb, hml, hown, hts⟩ (c_makeAlarm l D ca ad s4 k0 hk0 5 0 _ _ hw) (cwV 3 hts (gV tw_468 tw_470 tp_12 tw_1 tw_471) rfl rfl rfl (by decide +kernel) ⟨Nat.le_of_ble_eq_true rfl, Nat.le_of_ble_eq_true rfl⟩) ⟨px_blind, (px_recv hK hP gX_0 rfl), fun U hU hW => px_pre hP hK hD hE hS hFc hU hW⟩ rfl rfl hl.1 rfl (lv_room (Nat.le_of_ble_eq_true rfl)) dH_hearWhoLeads_13 ⟨Nat.le_of_ble_eq_true rfl, Nat.le_of_ble_eq_true rfl⟩) hS (fun q _ h => hFc q h) hFc (fun s6 t H locs ht hvm hw hB _ _ hS => ?_)
    obtain ⟨hP, -, hD⟩ := hB
    rw [ht] at hP
    have hD := hD.weaken (fun _ _ _ h9 => hFc _ h9)
    refine lv_goto (tgt := 29) hx hb dH_hearWhoLeads_16 (by decide) ?_
    exact W.vret hx hb hr (fun t ht hW => ⟨⟨s6, rfl, hw, by rw [ht]; exact hP, va_K.moved hW.alike hK, hD⟩, hS.F ht⟩) hS.2.2 dH_hearWhoLeads_29
end
section
theorem dH_feed_0 : decode cH_feed 0 = .ok (.iload_n 3, 1) := by decide +kernel
theorem dH_feed_1 : decode cH_feed 1 = .ok (.iconst 1, 1) := by decide +kernel
theorem dH_feed_2 : decode cH_feed 2 = .ok (.if_icmp .lt 9, 3) := by decide +kernel
theorem dH_feed_5 : decode cH_feed 5 = .ok (.iload_n 3, 1) := by decide +kernel
theorem dH_feed_6 : decode cH_feed 6 = .ok (.bipush 8, 2) := by decide +kernel
theorem dH_feed_8 : decode cH_feed 8 = .ok (.if_icmp .le 13, 3) := by decide +kernel
theorem dH_feed_11 : decode cH_feed 11 = .ok (.new 49, 3) := by decide +kernel
theorem dH_feed_14 : decode cH_feed 14 = .ok (.dup, 1) := by decide +kernel
theorem dH_feed_15 : decode cH_feed 15 = .ok (.ldc 51, 2) := by decide +kernel
theorem dH_feed_17 : decode cH_feed 17 = .ok (.invokespecial 53, 3) := by decide +kernel
theorem dH_feed_20 : decode cH_feed 20 = .ok (.athrow, 1) := by decide +kernel
theorem dH_feed_21 : decode cH_feed 21 = .ok (.aload_n 0, 1) := by decide +kernel
theorem dH_feed_22 : decode cH_feed 22 = .ok (.getfield 33, 3) := by decide +kernel
theorem dH_feed_25 : decode cH_feed 25 = .ok (.sipush 240, 3) := by decide +kernel
theorem dH_feed_28 : decode cH_feed 28 = .ok (.iload_n 3, 1) := by decide +kernel
theorem dH_feed_29 : decode cH_feed 29 = .ok (.isub, 1) := by decide +kernel
theorem dH_feed_30 : decode cH_feed 30 = .ok (.if_icmp .le 13, 3) := by decide +kernel
theorem dH_feed_33 : decode cH_feed 33 = .ok (.new 56, 3) := by decide +kernel
theorem dH_feed_36 : decode cH_feed 36 = .ok (.dup, 1) := by decide +kernel
theorem dH_feed_37 : decode cH_feed 37 = .ok (.ldc 58, 2) := by decide +kernel
theorem dH_feed_39 : decode cH_feed 39 = .ok (.invokespecial 60, 3) := by decide +kernel
theorem dH_feed_42 : decode cH_feed 42 = .ok (.athrow, 1) := by decide +kernel
theorem dH_feed_43 : decode cH_feed 43 = .ok (.iconst 0, 1) := by decide +kernel
theorem dH_feed_44 : decode cH_feed 44 = .ok (.istore 4, 2) := by decide +kernel
theorem dH_feed_46 : decode cH_feed 46 = .ok (.iload 4, 2) := by decide +kernel
theorem dH_feed_48 : decode cH_feed 48 = .ok (.iload_n 3, 1) := by decide +kernel
theorem dH_feed_49 : decode cH_feed 49 = .ok (.if_icmp .ge 30, 3) := by decide +kernel
theorem dH_feed_52 : decode cH_feed 52 = .ok (.aload_n 0, 1) := by decide +kernel
theorem dH_feed_53 : decode cH_feed 53 = .ok (.getfield 29, 3) := by decide +kernel
theorem dH_feed_56 : decode cH_feed 56 = .ok (.aload_n 0, 1) := by decide +kernel
theorem dH_feed_57 : decode cH_feed 57 = .ok (.getfield 33, 3) := by decide +kernel
theorem dH_feed_60 : decode cH_feed 60 = .ok (.iload 4, 2) := by decide +kernel
theorem dH_feed_62 : decode cH_feed 62 = .ok (.iadd, 1) := by decide +kernel
theorem dH_feed_63 : decode cH_feed 63 = .ok (.lload_n 1, 1) := by decide +kernel
theorem dH_feed_64 : decode cH_feed 64 = .ok (.bipush 8, 2) := by decide +kernel
theorem dH_feed_66 : decode cH_feed 66 = .ok (.iload 4, 2) := by decide +kernel
theorem dH_feed_68 : decode cH_feed 68 = .ok (.imul, 1) := by decide +kernel
theorem dH_feed_69 : decode cH_feed 69 = .ok (.lushr, 1) := by decide +kernel
theorem dH_feed_70 : decode cH_feed 70 = .ok (.l2i, 1) := by decide +kernel
theorem dH_feed_71 : decode cH_feed 71 = .ok (.i2b, 1) := by decide +kernel
theorem dH_feed_72 : decode cH_feed 72 = .ok (.bastore, 1) := by decide +kernel
theorem dH_feed_73 : decode cH_feed 73 = .ok (.iinc 4 1, 3) := by decide +kernel
theorem dH_feed_76 : decode cH_feed 76 = .ok (.goto (-30), 3) := by decide +kernel
theorem dH_feed_79 : decode cH_feed 79 = .ok (.aload_n 0, 1) := by decide +kernel
theorem dH_feed_80 : decode cH_feed 80 = .ok (.dup, 1) := by decide +kernel
theorem dH_feed_81 : decode cH_feed 81 = .ok (.getfield 33, 3) := by decide +kernel
theorem dH_feed_84 : decode cH_feed 84 = .ok (.iload_n 3, 1) := by decide +kernel
theorem dH_feed_85 : decode cH_feed 85 = .ok (.iadd, 1) := by decide +kernel
theorem dH_feed_86 : decode cH_feed 86 = .ok (.putfield 33, 3) := by decide +kernel
theorem dH_feed_89 : decode cH_feed 89 = .ok (.aload_n 0, 1) := by decide +kernel
theorem dH_feed_90 : decode cH_feed 90 = .ok (.getfield 33, 3) := by decide +kernel
theorem dH_feed_93 : decode cH_feed 93 = .ok (.ireturn, 1) := by decide +kernel
def wpl_feed_L46 : Nat → (Int32 → Sg → Prop) → (String → Sg → Prop) → Sg → Int64 → Int32 → Int32 → Prop
  | 0, _, _, _, _, _, _ => False
  | n + 1, post, px, σ, x1, x3, x4 => (((x3 ≤ x4) → post ((sG σ 0) + x3) (uG 0 ((sG σ 0) + x3) σ)) ∧ (¬ (x3 ≤ x4) → (vp_in ((sG σ 0) + x4) 240 ∧ wpl_feed_L46 n post px (uA 0 (upd (sA σ 0) ((sG σ 0) + x4).toNatClampNeg (vp_nar .byte ((((x1.toUInt64 >>> ((8 * x4).toInt64.toUInt64 &&& Int64.toUInt64 63)).toInt64).toInt32).toInt8.toInt32))) σ) x1 x3 (x4 + 1))))
def wp_feed (post : Int32 → Sg → Prop) (px : String → Sg → Prop) (σ : Sg) (a0 : Int64) (a1 : Int32) : Prop := (((a1 < 1) → px "java/lang/IllegalArgumentException" σ) ∧ (¬ (a1 < 1) → (((a1 ≤ 8) → ((((sG σ 0) ≤ (240 - a1)) → (∃ n : Nat, wpl_feed_L46 n post px σ a0 a1 0)) ∧ (¬ ((sG σ 0) ≤ (240 - a1)) → px "java/lang/IllegalStateException" σ))) ∧ (¬ (a1 ≤ 8) → px "java/lang/IllegalArgumentException" σ))))
set_option maxHeartbeats 4000000 in
set_option maxRecDepth 100000 in
theorem l_feed_L46 {p : Program} {l : Launch} {e : Env} {s : State} {m : MethodId} {args : Array Value} {below : List Frame} {meth : Method} {c : Code} {D : va_G} {ca : Nat → ClassId} {ad : Nat → Nat → Nat} {A : Nat → Prop}  {post : Int32 → Sg → Prop} {px : String → Sg → Prop} (hx : p.tables.exec = Jvm.exec) (hb : c.code = cH_feed) (hr : meth.sig.returnType = (some .int)) (hml : c.maxLocals = 5) (hts : ∀ w ∈ tbG, w.before args s = true) (hown : s.vm.findClass RH = some m.cls) (hlocks : meth.locks = false) (hA : ∀ q : Nat, s.heap.size ≤ q → A q) (hK : va_K D clX (tyA ca) s) (hE : eX A s) (hl0 : l.stackTraces = false) (hexc : ∀ x ∈ c.exceptionTable.toList, False) : ∀ (n : Nat) (σ : Sg) (x1 : Int64) (x3 : Int32) (x4 : Int32), wpl_feed_L46 n post px σ x1 x3 x4 → ∀ (H : Heap) (locs : List Loc), va_P D clX (wX ca ad σ) H → va_D A (wX ca ad σ) → va_S A s.heap H locs → ∀ ls : Array Slot, lv_has ls 5 [(0, .ref (ad 0 0)), (1, .long x1), (3, .int x3), (4, .int x4)] → W p l e (headSpec wsH_feed ({ frames := 8, cells := 1, slots := 6, locals := 120 })).room s m args below meth c H locs 0 0 (vx_MQ below (va_Qi post (atX D ca ad A) A) (vx_X (fun u : String × Sg => px u.1 u.2) (atXx D ca ad A) A) args s 1 6 A) (F0 m 46 ls []) := by
  intro n
  induction n with
  | zero => intro σ x1 x3 x4 hw; exact hw.elim
  | succ n ih =>
    intro σ x1 x3 x4 hw H locs hP hD hS ls hl
    refine lv_iload hx hb dH_feed_46 (lv_at hl 3 rfl) ?_
    refine lv_iload_n hx hb dH_feed_48 rfl (lv_at hl 2 rfl) ?_
    refine lv_icmp_ge (tgt := 79) hx hb dH_feed_49 (by decide) (fun c4 => ?_) (fun c4 => ?_)
    · have hw := hw.1 c4
      refine lv_aload_n hx hb dH_feed_79 rfl (lv_at hl 0 rfl) ?_
      refine lv_dup hx hb dH_feed_80 rfl ?_
      refine va_get (D := D) (ci := 0) (v := .int (sG σ 0)) (C := RH) (T := TH) (N := 8) hx hb hts inH hown hK hP 0 gX_0 rfl 4 (by decide) (hts _ tw_154) (fun _ h9 => h9) rfl dH_feed_81 ?_
      refine lv_iload_n hx hb dH_feed_84 rfl (lv_at hl 2 rfl) ?_
      refine lv_iadd hx hb dH_feed_85 ?_
      refine va_put (D := D) (ci := 0) (v := .int ((sG σ 0) + x3)) (ty := .int) (C := RH) (T := TH) (N := 8) hx hb hts inH tyH tyH_ok nmH hown hK hP hD hS 0 gX_0 rfl 4 (by decide) (hts _ tw_154) (fun _ h9 => h9) rfl (by decide +kernel) rfl rfl (Nat.le_of_ble_eq_true rfl) dH_feed_86 (fun H locs hP hD hS => ?_)
      rw [sX_0_4] at hP hD
      refine lv_aload_n hx hb dH_feed_89 rfl (lv_at hl 0 rfl) ?_
      refine va_get (D := D) (ci := 0) (v := .int ((sG σ 0) + x3)) (C := RH) (T := TH) (N := 8) hx hb hts inH hown hK hP 0 gX_0 rfl 4 (by decide) (hts _ tw_154) (fun _ h9 => h9) rfl dH_feed_90 ?_
      refine W.widen (k := 1) (n := 6) (by decide) (by decide) ?_
      exact vx_ret (W.iret (v := ((sG σ 0) + x3)) hx hb hr (fun t ht hW => ⟨⟨((sG σ 0) + x3), (uG 0 ((sG σ 0) + x3) σ), rfl, hw, by rw [ht]; exact hP, va_K.moved hW.alike hK, hD⟩, hS.F ht⟩) hS.2.2 dH_feed_93)
    · have hw := hw.2 c4
      refine lv_aload_n hx hb dH_feed_52 rfl (lv_at hl 0 rfl) ?_
      refine va_get (D := D) (ci := 0) (v := .ref (ad 4 0)) (C := RH) (T := TH) (N := 8) hx hb hts inH hown hK hP 0 gX_0 rfl 3 (by decide) (hts _ tw_153) (fun _ h9 => h9) rfl dH_feed_53 ?_
      refine lv_aload_n hx hb dH_feed_56 rfl (lv_at hl 0 rfl) ?_
      refine va_get (D := D) (ci := 0) (v := .int (sG σ 0)) (C := RH) (T := TH) (N := 8) hx hb hts inH hown hK hP 0 gX_0 rfl 4 (by decide) (hts _ tw_154) (fun _ h9 => h9) rfl dH_feed_57 ?_
      refine lv_iload hx hb dH_feed_60 (lv_at hl 3 rfl) ?_
      refine lv_iadd hx hb dH_feed_62 ?_
      refine lv_lload_n hx hb dH_feed_63 rfl (lv_at hl 1 rfl) ?_
      refine lv_bipush (v := 8) hx hb dH_feed_64 (by decide) ?_
      refine lv_iload hx hb dH_feed_66 (lv_at hl 3 rfl) ?_
      refine lv_imul hx hb dH_feed_68 ?_
      refine lv_lushr hx hb dH_feed_69 rfl ?_
      refine lv_l2i hx hb dH_feed_70 rfl ?_
      refine lv_i2b hx hb dH_feed_71 rfl ?_
      obtain ⟨hin5, hw⟩ := hw
      refine va_bast hx hb hK hP hD hS 4 1 gX_4 rfl hin5 dH_feed_72 (fun H locs hP hD hS => ?_)
      rw [sX_4] at hP hD
      refine lv_iinc (v := x4 + 1) (lv' := [(4, .int (x4 + 1)), (0, .ref (ad 0 0)), (1, .long x1), (3, .int x3)]) hx hb dH_feed_73 hl (k := 3) rfl rfl (by decide) rfl (fun ls hl => ?_)
      refine lv_goto (tgt := 46) hx hb dH_feed_76 (by decide) ?_
      exact ih (uA 0 (upd (sA σ 0) ((sG σ 0) + x4).toNatClampNeg (vp_nar .byte ((((x1.toUInt64 >>> ((8 * x4).toInt64.toUInt64 &&& Int64.toUInt64 63)).toInt64).toInt32).toInt8.toInt32))) σ) x1 x3 (x4 + 1) hw _ _ hP hD hS ls (lv_sub hl [1, 2, 3, 0] rfl)
set_option maxHeartbeats 4000000 in
set_option maxRecDepth 100000 in
theorem c_feed (l : Launch) (D : va_G) (ca : Nat → ClassId) (ad : Nat → Nat → Nat) (σ : Sg) (a0 : Int64) (a1 : Int32) (sz : Nat) (post : Int32 → Sg → Prop) (px : String → Sg → Prop) (hl0 : l.stackTraces = false) (hw : wp_feed post px σ a0 a1) : vx_Met l yH_feed wsH_feed ({ frames := 8, cells := 1, slots := 6, locals := 120 }) (va_Pc [.ref (ad 0 0), .long a0, .int a1] (preX D ca ad σ sz)) (va_Qi post (atX D ca ad (va_A (wX ca ad σ) sz)) (va_A (wX ca ad σ) sz)) (vx_X (fun u : String × Sg => px u.1 u.2) (atXx D ca ad (va_A (wX ca ad σ) sz)) (va_A (wX ca ad σ) sz)) 1 6 (va_A (wX ca ad σ) sz) := by
  refine vx_ofW (cc := cH_feed) (maxL := 5) (ret := (some .int)) (by decide) rfl ?_
  intro p e s m args below meth c s₁ B hml hexc hv
  obtain ⟨rfl, hsz, hP, hK, hD0, hE⟩ := hv
  have hx := B.exec
  have hb := B.bytes
  have hr := B.returns
  have hts : ∀ w ∈ tbG, w.before _ s = true := fun w h => atoms_spec (ws := wsH_feed) B.pre w (List.mem_cons_of_mem _ h)
  have hown : s.vm.findClass RH = some m.cls := findClass_of_methodNamed B.named
  have hlocks := B.notSynchronized
  subst hsz
  have hD := hD0.self (sz := s.heap.size)
  generalize hAe : va_A (wX ca ad σ) s.heap.size = A at hD hE ⊢
  have hA : ∀ q : Nat, s.heap.size ≤ q → A q := fun q h => by rw [← hAe]; exact Or.inr h
  clear hAe
  have hS : va_S A s.heap s.heap [] := va_S.rf
  have hl := lv_entry ([.ref (ad 0 0), .long a0, .int a1]) (n := 5) (Nat.le_of_ble_eq_true rfl)
  rw [lg_entry_eq]
  generalize (lg_sl ([.ref (ad 0 0), .long a0, .int a1]) ++ List.replicate (5 - (lg_sl ([.ref (ad 0 0), .long a0, .int a1])).length) Slot.unset).toArray = ls at hl ⊢
  have hl : lv_has ls 5 [(0, .ref (ad 0 0)), (1, .long a0), (3, .int a1)] := hl
  unfold wp_feed at hw
  have hP : va_P D clX (wX ca ad σ) s.heap := hP
  refine lv_iload_n hx hb dH_feed_0 rfl (lv_at hl 2 rfl) ?_
  refine lv_iconst (v := 1) hx hb dH_feed_1 (by decide) ?_
  refine lv_icmp_lt (tgt := 11) hx hb dH_feed_2 (by decide) (fun c1 => ?_) (fun c1 => ?_)
  · have hw := hw.1 c1
    obtain ⟨sa9, hstr⟩ := hE.str 0 _ rfl
    exact vx_throwS (names := ["java/lang/RuntimeException", "java/lang/Exception"]) hx hb hl0 hown (by decide +kernel) (by decide +kernel) (hts _ tw_214) (hts _ tw_11) hstr (hE.hat53 hts) gd_53 hE.1 hE.2.1 hS (hl.1.trans hml.symm) dH_feed_11 dH_feed_14 dH_feed_15 dH_feed_17 dH_feed_20 (fun x9 h9 => (hexc x9 h9).elim) (by decide) (by decide) (by decide) (by decide) hlocks (fun t hv hz hk => ⟨(_, σ), hw, ⟨rfl, hP.kept (fun k9 q9 h9 => hk _ (va_at.lt (hP k9 q9 h9))), va_K.moved hv hK, hD⟩, va_S.F2 hS hz hk⟩) hS.2.2 (by decide) (by decide)
  · have hw := hw.2 c1
    refine lv_iload_n hx hb dH_feed_5 rfl (lv_at hl 2 rfl) ?_
    refine lv_bipush (v := 8) hx hb dH_feed_6 (by decide) ?_
    refine lv_icmp_le (tgt := 21) hx hb dH_feed_8 (by decide) (fun c2 => ?_) (fun c2 => ?_)
    · have hw := hw.1 c2
      refine lv_aload_n hx hb dH_feed_21 rfl (lv_at hl 0 rfl) ?_
      refine va_get (D := D) (ci := 0) (v := .int (sG σ 0)) (C := RH) (T := TH) (N := 8) hx hb hts inH hown hK hP 0 gX_0 rfl 4 (by decide) (hts _ tw_154) (fun _ h9 => h9) rfl dH_feed_22 ?_
      refine lv_sipush (v := 240) hx hb dH_feed_25 (by decide) ?_
      refine lv_iload_n hx hb dH_feed_28 rfl (lv_at hl 2 rfl) ?_
      refine lv_isub hx hb dH_feed_29 ?_
      refine lv_icmp_le (tgt := 43) hx hb dH_feed_30 (by decide) (fun c3 => ?_) (fun c3 => ?_)
      · have hw := hw.1 c3
        refine lv_iconst (v := 0) hx hb dH_feed_43 (by decide) ?_
        refine lv_istore (lv' := [(4, .int 0), (0, .ref (ad 0 0)), (1, .long a0), (3, .int a1)]) hx hb dH_feed_44 hl (by decide) rfl (fun ls hl => ?_)
        obtain ⟨n, hw⟩ := hw
        exact l_feed_L46 (D := D) (ca := ca) (ad := ad)  hx hb hr hml hts hown hlocks hA hK hE hl0 hexc n σ a0 a1 0 hw _ _ hP hD hS ls (lv_sub hl [1, 2, 3, 0] rfl)
      · have hw := hw.2 c3
        obtain ⟨sa9, hstr⟩ := hE.str 1 _ rfl
        exact vx_throwS (names := ["java/lang/RuntimeException", "java/lang/Exception"]) hx hb hl0 hown (by decide +kernel) (by decide +kernel) (hts _ tw_281) (hts _ tw_12) hstr (hE.hat60 hts) gd_60 hE.1 hE.2.1 hS (hl.1.trans hml.symm) dH_feed_33 dH_feed_36 dH_feed_37 dH_feed_39 dH_feed_42 (fun x9 h9 => (hexc x9 h9).elim) (by decide) (by decide) (by decide) (by decide) hlocks (fun t hv hz hk => ⟨(_, σ), hw, ⟨rfl, hP.kept (fun k9 q9 h9 => hk _ (va_at.lt (hP k9 q9 h9))), va_K.moved hv hK, hD⟩, va_S.F2 hS hz hk⟩) hS.2.2 (by decide) (by decide)
    · have hw := hw.2 c2
      obtain ⟨sa9, hstr⟩ := hE.str 0 _ rfl
      exact vx_throwS (names := ["java/lang/RuntimeException", "java/lang/Exception"]) hx hb hl0 hown (by decide +kernel) (by decide +kernel) (hts _ tw_214) (hts _ tw_11) hstr (hE.hat53 hts) gd_53 hE.1 hE.2.1 hS (hl.1.trans hml.symm) dH_feed_11 dH_feed_14 dH_feed_15 dH_feed_17 dH_feed_20 (fun x9 h9 => (hexc x9 h9).elim) (by decide) (by decide) (by decide) (by decide) hlocks (fun t hv hz hk => ⟨(_, σ), hw, ⟨rfl, hP.kept (fun k9 q9 h9 => hk _ (va_at.lt (hP k9 q9 h9))), va_K.moved hv hK, hD⟩, va_S.F2 hS hz hk⟩) hS.2.2 (by decide) (by decide)
theorem dH_tick_0 : decode cH_tick 0 = .ok (.iload_n 1, 1) := by decide +kernel
theorem dH_tick_1 : decode cH_tick 1 = .ok (.iconst 1, 1) := by decide +kernel
theorem dH_tick_2 : decode cH_tick 2 = .ok (.if_icmp .lt 10, 3) := by decide +kernel
theorem dH_tick_5 : decode cH_tick 5 = .ok (.iload_n 1, 1) := by decide +kernel
theorem dH_tick_6 : decode cH_tick 6 = .ok (.sipush 1000, 3) := by decide +kernel
theorem dH_tick_9 : decode cH_tick 9 = .ok (.if_icmp .le 13, 3) := by decide +kernel
theorem dH_tick_12 : decode cH_tick 12 = .ok (.new 49, 3) := by decide +kernel
theorem dH_tick_15 : decode cH_tick 15 = .ok (.dup, 1) := by decide +kernel
theorem dH_tick_16 : decode cH_tick 16 = .ok (.ldc 141, 2) := by decide +kernel
theorem dH_tick_18 : decode cH_tick 18 = .ok (.invokespecial 53, 3) := by decide +kernel
theorem dH_tick_21 : decode cH_tick 21 = .ok (.athrow, 1) := by decide +kernel
theorem dH_tick_22 : decode cH_tick 22 = .ok (.aload_n 0, 1) := by decide +kernel
theorem dH_tick_23 : decode cH_tick 23 = .ok (.getfield 37, 3) := by decide +kernel
theorem dH_tick_26 : decode cH_tick 26 = .ok (.iload_n 1, 1) := by decide +kernel
theorem dH_tick_27 : decode cH_tick 27 = .ok (.iadd, 1) := by decide +kernel
theorem dH_tick_28 : decode cH_tick 28 = .ok (.istore_n 2, 1) := by decide +kernel
theorem dH_tick_29 : decode cH_tick 29 = .ok (.iconst 0, 1) := by decide +kernel
theorem dH_tick_30 : decode cH_tick 30 = .ok (.istore_n 3, 1) := by decide +kernel
theorem dH_tick_31 : decode cH_tick 31 = .ok (.sipush 328, 3) := by decide +kernel
theorem dH_tick_34 : decode cH_tick 34 = .ok (.istore 4, 2) := by decide +kernel
theorem dH_tick_36 : decode cH_tick 36 = .ok (.iload_n 3, 1) := by decide +kernel
theorem dH_tick_37 : decode cH_tick 37 = .ok (.iload 4, 2) := by decide +kernel
theorem dH_tick_39 : decode cH_tick 39 = .ok (.if_icmp .ge 39, 3) := by decide +kernel
theorem dH_tick_42 : decode cH_tick 42 = .ok (.aload_n 0, 1) := by decide +kernel
theorem dH_tick_43 : decode cH_tick 43 = .ok (.iload_n 2, 1) := by decide +kernel
theorem dH_tick_44 : decode cH_tick 44 = .ok (.invokevirtual 143, 3) := by decide +kernel
theorem dH_tick_47 : decode cH_tick 47 = .ok (.astore 5, 2) := by decide +kernel
theorem dH_tick_49 : decode cH_tick 49 = .ok (.aload 5, 2) := by decide +kernel
theorem dH_tick_51 : decode cH_tick 51 = .ok (.ifnonnull 6, 3) := by decide +kernel
theorem dH_tick_54 : decode cH_tick 54 = .ok (.goto 24, 3) := by decide +kernel
theorem dH_tick_57 : decode cH_tick 57 = .ok (.aload_n 0, 1) := by decide +kernel
theorem dH_tick_58 : decode cH_tick 58 = .ok (.aload 5, 2) := by decide +kernel
theorem dH_tick_60 : decode cH_tick 60 = .ok (.getfield 146, 3) := by decide +kernel
theorem dH_tick_63 : decode cH_tick 63 = .ok (.putfield 37, 3) := by decide +kernel
theorem dH_tick_66 : decode cH_tick 66 = .ok (.aload_n 0, 1) := by decide +kernel
theorem dH_tick_67 : decode cH_tick 67 = .ok (.aload 5, 2) := by decide +kernel
theorem dH_tick_69 : decode cH_tick 69 = .ok (.invokevirtual 149, 3) := by decide +kernel
theorem dH_tick_72 : decode cH_tick 72 = .ok (.iinc 3 1, 3) := by decide +kernel
theorem dH_tick_75 : decode cH_tick 75 = .ok (.goto (-39), 3) := by decide +kernel
theorem dH_tick_78 : decode cH_tick 78 = .ok (.aload_n 0, 1) := by decide +kernel
theorem dH_tick_79 : decode cH_tick 79 = .ok (.iload_n 2, 1) := by decide +kernel
theorem dH_tick_80 : decode cH_tick 80 = .ok (.putfield 37, 3) := by decide +kernel
theorem dH_tick_83 : decode cH_tick 83 = .ok (.iload_n 3, 1) := by decide +kernel
theorem dH_tick_84 : decode cH_tick 84 = .ok (.ireturn, 1) := by decide +kernel
def wpl_tick_L36 : Nat → (Int32 → Sg → Prop) → (String → Sg → Prop) → Sg → Int32 → Int32 → Int32 → Int32 → Prop
  | 0, _, _, _, _, _, _, _ => False
  | n + 1, post, px, σ, x1, x2, x3, x4 => (((x4 ≤ x3) → post x3 (uG 1 x2 σ)) ∧ (¬ (x4 ≤ x3) → wp_firstToRing (fun r5 s4 => ((r5 = none → post x3 (uG 1 x2 s4)) ∧ (∀ j6 : Nat, r5 = some j6 → (j6 < 8 ∧ wp_ring (fun s9 => wpl_tick_L36 n post px s9 x1 x2 (x3 + 1) x4) (uG 1 (sF s4 13 j6) s4) j6)))) σ x2))
def wp_tick (post : Int32 → Sg → Prop) (px : String → Sg → Prop) (σ : Sg) (a0 : Int32) : Prop := (((a0 < 1) → px "java/lang/IllegalArgumentException" σ) ∧ (¬ (a0 < 1) → (((a0 ≤ 1000) → (∃ n : Nat, wpl_tick_L36 n post px σ a0 ((sG σ 1) + a0) 0 328)) ∧ (¬ (a0 ≤ 1000) → px "java/lang/IllegalArgumentException" σ))))
set_option maxHeartbeats 4000000 in
set_option maxRecDepth 100000 in
theorem l_tick_L36 {p : Program} {l : Launch} {e : Env} {s : State} {m : MethodId} {args : Array Value} {below : List Frame} {meth : Method} {c : Code} {D : va_G} {ca : Nat → ClassId} {ad : Nat → Nat → Nat} {A : Nat → Prop}  {post : Int32 → Sg → Prop} {px : String → Sg → Prop} (hx : p.tables.exec = Jvm.exec) (hb : c.code = cH_tick) (hr : meth.sig.returnType = (some .int)) (hml : c.maxLocals = 6) (hts : ∀ w ∈ tbG, w.before args s = true) (hown : s.vm.findClass RH = some m.cls) (hlocks : meth.locks = false) (hA : ∀ q : Nat, s.heap.size ≤ q → A q) (hK : va_K D clX (tyA ca) s) (hE : eX A s) (hl0 : l.stackTraces = false) (hexc : ∀ x ∈ c.exceptionTable.toList, False) : ∀ (n : Nat) (σ : Sg) (x1 : Int32) (x2 : Int32) (x3 : Int32) (x4 : Int32), wpl_tick_L36 n post px σ x1 x2 x3 x4 → ∀ (H : Heap) (locs : List Loc), va_P D clX (wX ca ad σ) H → va_D A (wX ca ad σ) → va_S A s.heap H locs → ∀ ls : Array Slot, lv_has ls 6 [(0, .ref (ad 0 0)), (1, .int x1), (2, .int x2), (3, .int x3), (4, .int x4)] → W p l e (headSpec wsH_tick ({ frames := 8, cells := 1, slots := 6, locals := 120 })).room s m args below meth c H locs 0 0 (vx_MQ below (va_Qi post (atX D ca ad A) A) (vx_X (fun u : String × Sg => px u.1 u.2) (atXx D ca ad A) A) args s 1 6 A) (F0 m 36 ls []) := by
  intro n
  induction n with
  | zero => intro σ x1 x2 x3 x4 hw; exact hw.elim
  | succ n ih =>
    intro σ x1 x2 x3 x4 hw H locs hP hD hS ls hl
    refine lv_iload_n hx hb dH_tick_36 rfl (lv_at hl 3 rfl) ?_
    refine lv_iload hx hb dH_tick_37 (lv_at hl 4 rfl) ?_
    refine lv_icmp_ge (tgt := 78) hx hb dH_tick_39 (by decide) (fun c3 => ?_) (fun c3 => ?_)
    · have hw := hw.1 c3
      refine lv_aload_n hx hb dH_tick_78 rfl (lv_at hl 0 rfl) ?_
      refine lv_iload_n hx hb dH_tick_79 rfl (lv_at hl 2 rfl) ?_
      refine va_put (D := D) (ci := 0) (v := .int x2) (ty := .int) (C := RH) (T := TH) (N := 8) hx hb hts inH tyH tyH_ok nmH hown hK hP hD hS 0 gX_0 rfl 5 (by decide) (hts _ tw_155) (fun _ h9 => h9) rfl (by decide +kernel) rfl rfl (Nat.le_of_ble_eq_true rfl) dH_tick_80 (fun H locs hP hD hS => ?_)
      rw [sX_0_5] at hP hD
      refine lv_iload_n hx hb dH_tick_83 rfl (lv_at hl 3 rfl) ?_
      refine W.widen (k := 1) (n := 6) (by decide) (by decide) ?_
      exact vx_ret (W.iret (v := x3) hx hb hr (fun t ht hW => ⟨⟨x3, (uG 1 x2 σ), rfl, hw, by rw [ht]; exact hP, va_K.moved hW.alike hK, hD⟩, hS.F ht⟩) hS.2.2 dH_tick_84)
    · have hw := hw.2 c3
      refine lv_aload_n hx hb dH_tick_42 rfl (lv_at hl 0 rfl) ?_
      refine lv_iload_n hx hb dH_tick_43 rfl (lv_at hl 2 rfl) ?_
      have hFc := px_free hD hS hA
      refine va_calle (va_runV (As := [.int x2]) (rest := []) ⟨hx, hb, hml, hown, hts⟩ (c_firstToRing l D ca ad σ x2 _ _ hw) (cwV 1 hts (gV tw_519 tw_521 tp_16 tw_1 tw_522) rfl rfl rfl (by decide +kernel) ⟨Nat.le_of_ble_eq_true rfl, Nat.le_of_ble_eq_true rfl⟩) ⟨px_blind, (px_recv hK hP gX_0 rfl), fun U hU hW => px_pre hP hK hD hE hS hFc hU hW⟩ rfl rfl hl.1 rfl (lv_room (Nat.le_of_ble_eq_true rfl)) dH_tick_44 ⟨Nat.le_of_ble_eq_true rfl, Nat.le_of_ble_eq_true rfl⟩) hS (fun q _ h => hFc q h) hFc (fun r5 s4 t H locs ht hvm hw hB _ _ hS => ?_)
      obtain ⟨hP, -, hD⟩ := hB
      rw [ht] at hP
      have hD := hD.weaken (fun _ _ _ h9 => hFc _ h9)
      cases e7 : r5 with
      | none =>
        have hw := hw.1 e7
        try rw [e7]
        refine lv_astoreN (lv' := [(5, .null), (0, .ref (ad 0 0)), (1, .int x1), (2, .int x2), (3, .int x3), (4, .int x4)]) hx hb dH_tick_47 hl (by decide) rfl (fun ls hl => ?_)
        refine lv_aloadN hx hb dH_tick_49 (lv_at hl 0 rfl) ?_
        refine lv_ifnonnullN hx hb dH_tick_51 ?_
        refine lv_goto (tgt := 78) hx hb dH_tick_54 (by decide) ?_
        refine lv_aload_n hx hb dH_tick_78 rfl (lv_at hl 1 rfl) ?_
        refine lv_iload_n hx hb dH_tick_79 rfl (lv_at hl 3 rfl) ?_
        refine va_put (D := D) (ci := 0) (v := .int x2) (ty := .int) (C := RH) (T := TH) (N := 8) hx hb hts inH tyH tyH_ok nmH hown hK hP hD hS 0 gX_0 rfl 5 (by decide) (hts _ tw_155) (fun _ h9 => h9) rfl (by decide +kernel) rfl rfl (Nat.le_of_ble_eq_true rfl) dH_tick_80 (fun H locs hP hD hS => ?_)
        rw [sX_0_5] at hP hD
        refine lv_iload_n hx hb dH_tick_83 rfl (lv_at hl 4 rfl) ?_
        refine W.widen (k := 1) (n := 6) (by decide) (by decide) ?_
        exact vx_ret (W.iret (v := x3) hx hb hr (fun t ht hW => ⟨⟨x3, (uG 1 x2 s4), rfl, hw, by rw [ht]; exact hP, va_K.moved hW.alike hK, hD⟩, hS.F ht⟩) hS.2.2 dH_tick_84)
      | some j6 =>
        obtain ⟨hj8, hw⟩ := hw.2 j6 e7
        try rw [e7]
        refine lv_astore (lv' := [(5, .ref (ad 6 j6)), (0, .ref (ad 0 0)), (1, .int x1), (2, .int x2), (3, .int x3), (4, .int x4)]) hx hb dH_tick_47 hl (by decide) rfl (fun ls hl => ?_)
        refine lv_aload hx hb dH_tick_49 (lv_at hl 0 rfl) ?_
        refine lv_ifnonnull (tgt := 57) hx hb dH_tick_51 (by decide) ?_
        refine lv_aload_n hx hb dH_tick_57 rfl (lv_at hl 1 rfl) ?_
        refine lv_aload hx hb dH_tick_58 (lv_at hl 0 rfl) ?_
        refine va_get (D := D) (ci := 1) (v := .int (sF s4 13 j6)) (C := RP) (T := TP) (N := 16) hx hb hts inP hown hK hP (6 + j6) (gX_6 hj8) rfl 13 (by decide) (hts _ tw_111) (fun _ h9 => h9) rfl dH_tick_60 ?_
        refine va_put (D := D) (ci := 0) (v := .int (sF s4 13 j6)) (ty := .int) (C := RH) (T := TH) (N := 8) hx hb hts inH tyH tyH_ok nmH hown hK hP hD hS 0 gX_0 rfl 5 (by decide) (hts _ tw_155) (fun _ h9 => h9) rfl (by decide +kernel) rfl rfl (Nat.le_of_ble_eq_true rfl) dH_tick_63 (fun H locs hP hD hS => ?_)
        rw [sX_0_5] at hP hD
        refine lv_aload_n hx hb dH_tick_66 rfl (lv_at hl 1 rfl) ?_
        refine lv_aload hx hb dH_tick_67 (lv_at hl 0 rfl) ?_
        have hFc := px_free hD hS hA
        refine va_callv (va_runV (As := [.ref (ad 6 j6)]) (rest := []) ⟨hx, hb, hml, hown, hts⟩ (c_ring l D ca ad (uG 1 (sF s4 13 j6) s4) j6 hj8 _ _ hw) (cwV 1 hts (gV tw_527 tw_529 tp_17 tw_1 tw_530) rfl rfl rfl (by decide +kernel) ⟨Nat.le_of_ble_eq_true rfl, Nat.le_of_ble_eq_true rfl⟩) ⟨px_blind, (px_recv hK hP gX_0 rfl), fun U hU hW => px_pre hP hK hD hE hS hFc hU hW⟩ rfl rfl hl.1 rfl (lv_room (Nat.le_of_ble_eq_true rfl)) dH_tick_69 ⟨Nat.le_of_ble_eq_true rfl, Nat.le_of_ble_eq_true rfl⟩) hS (fun q _ h => hFc q h) hFc (fun s9 t H locs ht hvm hw hB _ _ hS => ?_)
        obtain ⟨hP, -, hD⟩ := hB
        rw [ht] at hP
        have hD := hD.weaken (fun _ _ _ h9 => hFc _ h9)
        refine lv_iinc (v := x3 + 1) (lv' := [(3, .int (x3 + 1)), (5, .ref (ad 6 j6)), (0, .ref (ad 0 0)), (1, .int x1), (2, .int x2), (4, .int x4)]) hx hb dH_tick_72 hl (k := 4) rfl rfl (by decide) rfl (fun ls hl => ?_)
        refine lv_goto (tgt := 36) hx hb dH_tick_75 (by decide) ?_
        exact ih s9 x1 x2 (x3 + 1) x4 hw _ _ hP hD hS ls (lv_sub hl [2, 3, 4, 0, 5] rfl)
set_option maxHeartbeats 4000000 in
set_option maxRecDepth 100000 in
theorem c_tick (l : Launch) (D : va_G) (ca : Nat → ClassId) (ad : Nat → Nat → Nat) (σ : Sg) (a0 : Int32) (sz : Nat) (post : Int32 → Sg → Prop) (px : String → Sg → Prop) (hl0 : l.stackTraces = false) (hw : wp_tick post px σ a0) : vx_Met l yH_tick wsH_tick ({ frames := 8, cells := 1, slots := 6, locals := 120 }) (va_Pc [.ref (ad 0 0), .int a0] (preX D ca ad σ sz)) (va_Qi post (atX D ca ad (va_A (wX ca ad σ) sz)) (va_A (wX ca ad σ) sz)) (vx_X (fun u : String × Sg => px u.1 u.2) (atXx D ca ad (va_A (wX ca ad σ) sz)) (va_A (wX ca ad σ) sz)) 1 6 (va_A (wX ca ad σ) sz) := by
  refine vx_ofW (cc := cH_tick) (maxL := 6) (ret := (some .int)) (by decide) rfl ?_
  intro p e s m args below meth c s₁ B hml hexc hv
  obtain ⟨rfl, hsz, hP, hK, hD0, hE⟩ := hv
  have hx := B.exec
  have hb := B.bytes
  have hr := B.returns
  have hts : ∀ w ∈ tbG, w.before _ s = true := fun w h => atoms_spec (ws := wsH_tick) B.pre w (List.mem_cons_of_mem _ h)
  have hown : s.vm.findClass RH = some m.cls := findClass_of_methodNamed B.named
  have hlocks := B.notSynchronized
  subst hsz
  have hD := hD0.self (sz := s.heap.size)
  generalize hAe : va_A (wX ca ad σ) s.heap.size = A at hD hE ⊢
  have hA : ∀ q : Nat, s.heap.size ≤ q → A q := fun q h => by rw [← hAe]; exact Or.inr h
  clear hAe
  have hS : va_S A s.heap s.heap [] := va_S.rf
  have hl := lv_entry ([.ref (ad 0 0), .int a0]) (n := 6) (Nat.le_of_ble_eq_true rfl)
  rw [lg_entry_eq]
  generalize (lg_sl ([.ref (ad 0 0), .int a0]) ++ List.replicate (6 - (lg_sl ([.ref (ad 0 0), .int a0])).length) Slot.unset).toArray = ls at hl ⊢
  have hl : lv_has ls 6 [(0, .ref (ad 0 0)), (1, .int a0)] := hl
  unfold wp_tick at hw
  have hP : va_P D clX (wX ca ad σ) s.heap := hP
  refine lv_iload_n hx hb dH_tick_0 rfl (lv_at hl 1 rfl) ?_
  refine lv_iconst (v := 1) hx hb dH_tick_1 (by decide) ?_
  refine lv_icmp_lt (tgt := 12) hx hb dH_tick_2 (by decide) (fun c1 => ?_) (fun c1 => ?_)
  · have hw := hw.1 c1
    obtain ⟨sa9, hstr⟩ := hE.str 6 _ rfl
    exact vx_throwS (names := ["java/lang/RuntimeException", "java/lang/Exception"]) hx hb hl0 hown (by decide +kernel) (by decide +kernel) (hts _ tw_214) (hts _ tw_11) hstr (hE.hat53 hts) gd_53 hE.1 hE.2.1 hS (hl.1.trans hml.symm) dH_tick_12 dH_tick_15 dH_tick_16 dH_tick_18 dH_tick_21 (fun x9 h9 => (hexc x9 h9).elim) (by decide) (by decide) (by decide) (by decide) hlocks (fun t hv hz hk => ⟨(_, σ), hw, ⟨rfl, hP.kept (fun k9 q9 h9 => hk _ (va_at.lt (hP k9 q9 h9))), va_K.moved hv hK, hD⟩, va_S.F2 hS hz hk⟩) hS.2.2 (by decide) (by decide)
  · have hw := hw.2 c1
    refine lv_iload_n hx hb dH_tick_5 rfl (lv_at hl 1 rfl) ?_
    refine lv_sipush (v := 1000) hx hb dH_tick_6 (by decide) ?_
    refine lv_icmp_le (tgt := 22) hx hb dH_tick_9 (by decide) (fun c2 => ?_) (fun c2 => ?_)
    · have hw := hw.1 c2
      refine lv_aload_n hx hb dH_tick_22 rfl (lv_at hl 0 rfl) ?_
      refine va_get (D := D) (ci := 0) (v := .int (sG σ 1)) (C := RH) (T := TH) (N := 8) hx hb hts inH hown hK hP 0 gX_0 rfl 5 (by decide) (hts _ tw_155) (fun _ h9 => h9) rfl dH_tick_23 ?_
      refine lv_iload_n hx hb dH_tick_26 rfl (lv_at hl 1 rfl) ?_
      refine lv_iadd hx hb dH_tick_27 ?_
      refine lv_istore_n (lv' := [(2, .int ((sG σ 1) + a0)), (0, .ref (ad 0 0)), (1, .int a0)]) hx hb dH_tick_28 rfl hl (by decide) rfl (fun ls hl => ?_)
      refine lv_iconst (v := 0) hx hb dH_tick_29 (by decide) ?_
      refine lv_istore_n (lv' := [(3, .int 0), (2, .int ((sG σ 1) + a0)), (0, .ref (ad 0 0)), (1, .int a0)]) hx hb dH_tick_30 rfl hl (by decide) rfl (fun ls hl => ?_)
      refine lv_sipush (v := 328) hx hb dH_tick_31 (by decide) ?_
      refine lv_istore (lv' := [(4, .int 328), (3, .int 0), (2, .int ((sG σ 1) + a0)), (0, .ref (ad 0 0)), (1, .int a0)]) hx hb dH_tick_34 hl (by decide) rfl (fun ls hl => ?_)
      obtain ⟨n, hw⟩ := hw
      exact l_tick_L36 (D := D) (ca := ca) (ad := ad)  hx hb hr hml hts hown hlocks hA hK hE hl0 hexc n σ a0 ((sG σ 1) + a0) 0 328 hw _ _ hP hD hS ls (lv_sub hl [3, 4, 2, 1, 0] rfl)
    · have hw := hw.2 c2
      obtain ⟨sa9, hstr⟩ := hE.str 6 _ rfl
      exact vx_throwS (names := ["java/lang/RuntimeException", "java/lang/Exception"]) hx hb hl0 hown (by decide +kernel) (by decide +kernel) (hts _ tw_214) (hts _ tw_11) hstr (hE.hat53 hts) gd_53 hE.1 hE.2.1 hS (hl.1.trans hml.symm) dH_tick_12 dH_tick_15 dH_tick_16 dH_tick_18 dH_tick_21 (fun x9 h9 => (hexc x9 h9).elim) (by decide) (by decide) (by decide) (by decide) hlocks (fun t hv hz hk => ⟨(_, σ), hw, ⟨rfl, hP.kept (fun k9 q9 h9 => hk _ (va_at.lt (hP k9 q9 h9))), va_K.moved hv hK, hD⟩, va_S.F2 hS hz hk⟩) hS.2.2 (by decide) (by decide)
theorem dH_reply_0 : decode cH_reply 0 = .ok (.aload_n 0, 1) := by decide +kernel
theorem dH_reply_1 : decode cH_reply 1 = .ok (.invokevirtual 61, 3) := by decide +kernel
theorem dH_reply_4 : decode cH_reply 4 = .ok (.istore 5, 2) := by decide +kernel
theorem dH_reply_6 : decode cH_reply 6 = .ok (.aload_n 0, 1) := by decide +kernel
theorem dH_reply_7 : decode cH_reply 7 = .ok (.iload_n 1, 1) := by decide +kernel
theorem dH_reply_8 : decode cH_reply 8 = .ok (.invokevirtual 65, 3) := by decide +kernel
theorem dH_reply_11 : decode cH_reply 11 = .ok (.astore 6, 2) := by decide +kernel
theorem dH_reply_13 : decode cH_reply 13 = .ok (.iload_n 3, 1) := by decide +kernel
theorem dH_reply_14 : decode cH_reply 14 = .ok (.iload 4, 2) := by decide +kernel
theorem dH_reply_16 : decode cH_reply 16 = .ok (.iload 5, 2) := by decide +kernel
theorem dH_reply_18 : decode cH_reply 18 = .ok (.invokestatic 117, 3) := by decide +kernel
theorem dH_reply_21 : decode cH_reply 21 = .ok (.ifCond .ne 13, 3) := by decide +kernel
theorem dH_reply_24 : decode cH_reply 24 = .ok (.new 49, 3) := by decide +kernel
theorem dH_reply_27 : decode cH_reply 27 = .ok (.dup, 1) := by decide +kernel
theorem dH_reply_28 : decode cH_reply 28 = .ok (.ldc 121, 2) := by decide +kernel
theorem dH_reply_30 : decode cH_reply 30 = .ok (.invokespecial 53, 3) := by decide +kernel
theorem dH_reply_33 : decode cH_reply 33 = .ok (.athrow, 1) := by decide +kernel
theorem dH_reply_34 : decode cH_reply 34 = .ok (.aload 6, 2) := by decide +kernel
theorem dH_reply_36 : decode cH_reply 36 = .ok (.invokevirtual 78, 3) := by decide +kernel
theorem dH_reply_39 : decode cH_reply 39 = .ok (.ifCond .eq 12, 3) := by decide +kernel
theorem dH_reply_42 : decode cH_reply 42 = .ok (.iload_n 2, 1) := by decide +kernel
theorem dH_reply_43 : decode cH_reply 43 = .ok (.aload 6, 2) := by decide +kernel
theorem dH_reply_45 : decode cH_reply 45 = .ok (.getfield 123, 3) := by decide +kernel
theorem dH_reply_48 : decode cH_reply 48 = .ok (.if_icmp .eq 5, 3) := by decide +kernel
theorem dH_reply_51 : decode cH_reply 51 = .ok (.iconst 0, 1) := by decide +kernel
theorem dH_reply_52 : decode cH_reply 52 = .ok (.ireturn, 1) := by decide +kernel
theorem dH_reply_53 : decode cH_reply 53 = .ok (.iload_n 3, 1) := by decide +kernel
theorem dH_reply_54 : decode cH_reply 54 = .ok (.tableswitch 67 0 2 #[26, 39, 50], 26) := by decide +kernel
theorem dH_reply_80 : decode cH_reply 80 = .ok (.aload_n 0, 1) := by decide +kernel
theorem dH_reply_81 : decode cH_reply 81 = .ok (.aload 6, 2) := by decide +kernel
theorem dH_reply_83 : decode cH_reply 83 = .ok (.iload 4, 2) := by decide +kernel
theorem dH_reply_85 : decode cH_reply 85 = .ok (.iload 5, 2) := by decide +kernel
theorem dH_reply_87 : decode cH_reply 87 = .ok (.invokevirtual 126, 3) := by decide +kernel
theorem dH_reply_90 : decode cH_reply 90 = .ok (.goto 40, 3) := by decide +kernel
theorem dH_reply_93 : decode cH_reply 93 = .ok (.aload_n 0, 1) := by decide +kernel
theorem dH_reply_94 : decode cH_reply 94 = .ok (.aload 6, 2) := by decide +kernel
theorem dH_reply_96 : decode cH_reply 96 = .ok (.iload 4, 2) := by decide +kernel
theorem dH_reply_98 : decode cH_reply 98 = .ok (.invokevirtual 130, 3) := by decide +kernel
theorem dH_reply_101 : decode cH_reply 101 = .ok (.goto 29, 3) := by decide +kernel
theorem dH_reply_104 : decode cH_reply 104 = .ok (.aload 6, 2) := by decide +kernel
theorem dH_reply_106 : decode cH_reply 106 = .ok (.iconst (-1), 1) := by decide +kernel
theorem dH_reply_107 : decode cH_reply 107 = .ok (.putfield 104, 3) := by decide +kernel
theorem dH_reply_110 : decode cH_reply 110 = .ok (.aload_n 0, 1) := by decide +kernel
theorem dH_reply_111 : decode cH_reply 111 = .ok (.aload 6, 2) := by decide +kernel
theorem dH_reply_113 : decode cH_reply 113 = .ok (.iconst 2, 1) := by decide +kernel
theorem dH_reply_114 : decode cH_reply 114 = .ok (.iconst (-1), 1) := by decide +kernel
theorem dH_reply_115 : decode cH_reply 115 = .ok (.invokevirtual 134, 3) := by decide +kernel
theorem dH_reply_118 : decode cH_reply 118 = .ok (.goto 12, 3) := by decide +kernel
theorem dH_reply_121 : decode cH_reply 121 = .ok (.aload_n 0, 1) := by decide +kernel
theorem dH_reply_122 : decode cH_reply 122 = .ok (.aload 6, 2) := by decide +kernel
theorem dH_reply_124 : decode cH_reply 124 = .ok (.bipush 20, 2) := by decide +kernel
theorem dH_reply_126 : decode cH_reply 126 = .ok (.iconst 0, 1) := by decide +kernel
theorem dH_reply_127 : decode cH_reply 127 = .ok (.invokevirtual 137, 3) := by decide +kernel
theorem dH_reply_130 : decode cH_reply 130 = .ok (.iconst 1, 1) := by decide +kernel
theorem dH_reply_131 : decode cH_reply 131 = .ok (.ireturn, 1) := by decide +kernel
def wp_reply (post : Int32 → Sg → Prop) (px : String → Sg → Prop) (σ : Sg) (a0 : Int32) (a1 : Int32) (a2 : Int32) (a3 : Int32) : Prop := wp_takeTape (fun r2 s1 => wp_patronOf (fun r4 s3 => (∃ j5 : Nat, r4 = some j5 ∧ j5 < 8 ∧ wp_canBeReplied (fun r9 s8 => ((¬ (r9 = 0) → wp_waits (fun r12 s11 => (((r12 = 0) → post 0 s11) ∧ (¬ (r12 = 0) → (((a1 = (sF s11 10 j5)) → ((a2 = 0 → wp_hearAnswer (fun s16 => post 1 s16) s11 j5 a3 r2) ∧ (¬ (a2 = 0) → ((a2 = 1 → wp_hearWhoLeads (fun s19 => post 1 s19) s11 j5 a3) ∧ (¬ (a2 = 1) → ((a2 = 2 → wp_tell (fun s22 => post 1 s22) (uF 8 j5 (-1) s11) j5 2 (-1)) ∧ (¬ (a2 = 2) → wp_makeAlarm (fun s24 => post 1 s24) s11 j5 20 0))))))) ∧ (¬ (a1 = (sF s11 10 j5)) → post 0 s11))))) s8 j5) ∧ ((r9 = 0) → px "java/lang/IllegalArgumentException" s8))) s3 a2 a3 r2)) px s1 a0) σ
set_option maxHeartbeats 4000000 in
set_option maxRecDepth 100000 in
theorem c_reply (l : Launch) (D : va_G) (ca : Nat → ClassId) (ad : Nat → Nat → Nat) (σ : Sg) (a0 : Int32) (a1 : Int32) (a2 : Int32) (a3 : Int32) (sz : Nat) (post : Int32 → Sg → Prop) (px : String → Sg → Prop) (hl0 : l.stackTraces = false) (hw : wp_reply post px σ a0 a1 a2 a3) : vx_Met l yH_reply wsH_reply ({ frames := 9, cells := 2, slots := 12, locals := 141 }) (va_Pc [.ref (ad 0 0), .int a0, .int a1, .int a2, .int a3] (preX D ca ad σ sz)) (va_Qi post (atX D ca ad (va_A (wX ca ad σ) sz)) (va_A (wX ca ad σ) sz)) (vx_X (fun u : String × Sg => px u.1 u.2) (atXx D ca ad (va_A (wX ca ad σ) sz)) (va_A (wX ca ad σ) sz)) 2 12 (va_A (wX ca ad σ) sz) := by
  refine vx_ofW (cc := cH_reply) (maxL := 7) (ret := (some .boolean)) (by decide) rfl ?_
  intro p e s m args below meth c s₁ B hml hexc hv
  obtain ⟨rfl, hsz, hP, hK, hD0, hE⟩ := hv
  have hx := B.exec
  have hb := B.bytes
  have hr := B.returns
  have hts : ∀ w ∈ tbG, w.before _ s = true := fun w h => atoms_spec (ws := wsH_reply) B.pre w (List.mem_cons_of_mem _ h)
  have hown : s.vm.findClass RH = some m.cls := findClass_of_methodNamed B.named
  have hlocks := B.notSynchronized
  subst hsz
  have hD := hD0.self (sz := s.heap.size)
  generalize hAe : va_A (wX ca ad σ) s.heap.size = A at hD hE ⊢
  have hA : ∀ q : Nat, s.heap.size ≤ q → A q := fun q h => by rw [← hAe]; exact Or.inr h
  clear hAe
  have hS : va_S A s.heap s.heap [] := va_S.rf
  have hl := lv_entry ([.ref (ad 0 0), .int a0, .int a1, .int a2, .int a3]) (n := 7) (Nat.le_of_ble_eq_true rfl)
  rw [lg_entry_eq]
  generalize (lg_sl ([.ref (ad 0 0), .int a0, .int a1, .int a2, .int a3]) ++ List.replicate (7 - (lg_sl ([.ref (ad 0 0), .int a0, .int a1, .int a2, .int a3])).length) Slot.unset).toArray = ls at hl ⊢
  have hl : lv_has ls 7 [(0, .ref (ad 0 0)), (1, .int a0), (2, .int a1), (3, .int a2), (4, .int a3)] := hl
  unfold wp_reply at hw
  have hP : va_P D clX (wX ca ad σ) s.heap := hP
  refine lv_aload_n hx hb dH_reply_0 rfl (lv_at hl 0 rfl) ?_
  have hFc := px_free hD hS hA
  refine va_calli (va_runV (As := []) (rest := []) ⟨hx, hb, hml, hown, hts⟩ (c_takeTape l D ca ad σ  _ _ hw) (cwV 0 hts (gV tw_305 tw_307 tp_2 tw_1 tw_308) rfl rfl rfl (by decide +kernel) ⟨Nat.le_of_ble_eq_true rfl, Nat.le_of_ble_eq_true rfl⟩) ⟨px_blind, (px_recv hK hP gX_0 rfl), fun U hU hW => px_pre hP hK hD hE hS hFc hU hW⟩ rfl rfl hl.1 rfl (lv_room (Nat.le_of_ble_eq_true rfl)) dH_reply_1 ⟨Nat.le_of_ble_eq_true rfl, Nat.le_of_ble_eq_true rfl⟩) hS (fun q _ h => hFc q h) hFc (fun r2 s1 t H locs ht hvm hw hB _ _ hS => ?_)
  obtain ⟨hP, -, hD⟩ := hB
  rw [ht] at hP
  have hD := hD.weaken (fun _ _ _ h9 => hFc _ h9)
  refine lv_istore (lv' := [(5, .int r2), (0, .ref (ad 0 0)), (1, .int a0), (2, .int a1), (3, .int a2), (4, .int a3)]) hx hb dH_reply_4 hl (by decide) rfl (fun ls hl => ?_)
  refine lv_aload_n hx hb dH_reply_6 rfl (lv_at hl 1 rfl) ?_
  refine lv_iload_n hx hb dH_reply_7 rfl (lv_at hl 2 rfl) ?_
  have hFc := px_free hD hS hA
  refine vx_calle (vx_runV (As := [.int a0]) (rest := []) ⟨hx, hb, hml, hown, hts⟩ (c_patronOf l D ca ad s1 a0 _ _ _ hl0 hw) (cwV 1 hts (gV tw_309 tw_311 tp_3 tw_1 tw_312) rfl rfl rfl (by decide +kernel) ⟨Nat.le_of_ble_eq_true rfl, Nat.le_of_ble_eq_true rfl⟩) ⟨px_blind, (px_recv hK hP gX_0 rfl), fun U hU hW => px_pre hP hK hD hE hS hFc hU hW⟩ rfl rfl hl.1 rfl (lv_room (Nat.le_of_ble_eq_true rfl)) dH_reply_8 ⟨Nat.le_of_ble_eq_true rfl, Nat.le_of_ble_eq_true rfl⟩) hS (fun q _ h => hFc q h) hFc (fun q _ h => hFc q h) (fun E9 ce9 q9 u9 t9 H locs ht hvm hw hB _ _ hS hce hcv hcl => ?_) (fun r4 s3 t H locs ht hvm hw hB _ _ hS => ?_)
  · obtain ⟨rfl, hP, -, hD⟩ := hB
    rw [ht] at hP
    exact vx_out (fun x9 h9 => (hexc x9 h9).elim) hlocks hce hcv hcl (fun t8 h8 hv8 => ⟨u9, hw, ⟨rfl, by rw [h8]; exact hP, va_K.moved hv8 hK, hD.weaken (fun _ _ _ h7 => hFc _ h7)⟩, hS.F h8⟩) hS.2.2 (by decide) (by decide)
  obtain ⟨hP, -, hD⟩ := hB
  rw [ht] at hP
  have hD := hD.weaken (fun _ _ _ h9 => hFc _ h9)
  refine W.widen (k := 1) (n := 6) (by decide) (by decide) ?_
  obtain ⟨j5, e6, hj7, hw⟩ := hw
  subst e6
  refine lv_astore (lv' := [(6, .ref (ad 6 j5)), (5, .int r2), (0, .ref (ad 0 0)), (1, .int a0), (2, .int a1), (3, .int a2), (4, .int a3)]) hx hb dH_reply_11 hl (by decide) rfl (fun ls hl => ?_)
  refine lv_iload_n hx hb dH_reply_13 rfl (lv_at hl 5 rfl) ?_
  refine lv_iload hx hb dH_reply_14 (lv_at hl 6 rfl) ?_
  refine lv_iload hx hb dH_reply_16 (lv_at hl 1 rfl) ?_
  have hFc := px_free hD hS hA
  refine va_calli (va_runS (As := [.int a2, .int a3, .int r2]) (rest := []) ⟨hx, hb, hml, hown, hts⟩ (c_canBeReplied l D ca ad s3 a2 a3 r2 _ _ hw) (va_cwS 3 hts (gS tw_490 tw_491 tw_1 tw_492) rfl rfl rfl (by decide +kernel) ⟨Nat.le_of_ble_eq_true rfl, Nat.le_of_ble_eq_true rfl⟩) ⟨px_blind, fun U hU hW => px_pre hP hK hD hE hS hFc hU hW⟩ rfl rfl hl.1 rfl (lv_room (Nat.le_of_ble_eq_true rfl)) dH_reply_18 ⟨Nat.le_of_ble_eq_true rfl, Nat.le_of_ble_eq_true rfl⟩) hS (fun q _ h => hFc q h) hFc (fun r9 s8 t H locs ht hvm hw hB _ _ hS => ?_)
  obtain ⟨hP, -, hD⟩ := hB
  rw [ht] at hP
  have hD := hD.weaken (fun _ _ _ h9 => hFc _ h9)
  refine W.widen (k := 1) (n := 6) (by decide) (by decide) ?_
  refine lv_if_ne (tgt := 34) hx hb dH_reply_21 (by decide) (fun c10 => ?_) (fun c10 => ?_)
  · have hw := hw.1 c10
    refine lv_aload hx hb dH_reply_34 (lv_at hl 0 rfl) ?_
    have hFc := px_free hD hS hA
    refine va_calli (va_runV (As := []) (rest := []) ⟨hx, hb, hml, hown, hts⟩ (c_waits l D ca ad s8 j5 hj7 _ _ hw) (cwV 0 hts (gV tw_198 tw_199 tw_200 tw_6 tw_201) rfl rfl rfl (by decide +kernel) ⟨Nat.le_of_ble_eq_true rfl, Nat.le_of_ble_eq_true rfl⟩) ⟨px_blind, (px_recv hK hP (gX_6 hj7) rfl), fun U hU hW => px_pre hP hK hD hE hS hFc hU hW⟩ rfl rfl hl.1 rfl (lv_room (Nat.le_of_ble_eq_true rfl)) dH_reply_36 ⟨Nat.le_of_ble_eq_true rfl, Nat.le_of_ble_eq_true rfl⟩) hS (fun q _ h => hFc q h) hFc (fun r12 s11 t H locs ht hvm hw hB _ _ hS => ?_)
    obtain ⟨hP, -, hD⟩ := hB
    rw [ht] at hP
    have hD := hD.weaken (fun _ _ _ h9 => hFc _ h9)
    refine W.widen (k := 1) (n := 6) (by decide) (by decide) ?_
    refine lv_if_eq (tgt := 51) hx hb dH_reply_39 (by decide) (fun c13 => ?_) (fun c13 => ?_)
    · have hw := hw.1 c13
      refine lv_iconst (v := 0) hx hb dH_reply_51 (by decide) ?_
      refine W.widen (k := 2) (n := 12) (by decide) (by decide) ?_
      exact vx_ret (W.zret (ty := .boolean) (v := 0) hx hb hr (by decide) (fun t ht hW => ⟨⟨0, s11, rfl, hw, by rw [ht]; exact hP, va_K.moved hW.alike hK, hD⟩, hS.F ht⟩) hS.2.2 dH_reply_52)
    · have hw := hw.2 c13
      refine lv_iload_n hx hb dH_reply_42 rfl (lv_at hl 4 rfl) ?_
      refine lv_aload hx hb dH_reply_43 (lv_at hl 0 rfl) ?_
      refine va_get (D := D) (ci := 1) (v := .int (sF s11 10 j5)) (C := RP) (T := TP) (N := 16) hx hb hts inP hown hK hP (6 + j5) (gX_6 hj7) rfl 10 (by decide) (hts _ tw_104) (fun _ h9 => h9) rfl dH_reply_45 ?_
      refine lv_icmp_eq (tgt := 53) hx hb dH_reply_48 (by decide) (fun c14 => ?_) (fun c14 => ?_)
      · have hw := hw.1 c14
        refine lv_iload_n hx hb dH_reply_53 rfl (lv_at hl 5 rfl) ?_
        by_cases c15 : a2 = 0
        · have hw := hw.1 c15
          refine lv_tableIn (tgt := 80) hx hb dH_reply_54 (by rw [c15]; decide) (by rw [c15]; decide) (by rw [c15]; rfl) (by decide) ?_
          refine lv_aload_n hx hb dH_reply_80 rfl (lv_at hl 2 rfl) ?_
          refine lv_aload hx hb dH_reply_81 (lv_at hl 0 rfl) ?_
          refine lv_iload hx hb dH_reply_83 (lv_at hl 6 rfl) ?_
          refine lv_iload hx hb dH_reply_85 (lv_at hl 1 rfl) ?_
          have hFc := px_free hD hS hA
          refine va_callv (va_runV (As := [.ref (ad 6 j5), .int a3, .int r2]) (rest := []) ⟨hx, hb, hml, hown, hts⟩ (c_hearAnswer l D ca ad s11 j5 hj7 a3 r2 _ _ hw) (cwV 3 hts (gV tw_495 tw_497 tp_14 tw_1 tw_498) rfl rfl rfl (by decide +kernel) ⟨Nat.le_of_ble_eq_true rfl, Nat.le_of_ble_eq_true rfl⟩) ⟨px_blind, (px_recv hK hP gX_0 rfl), fun U hU hW => px_pre hP hK hD hE hS hFc hU hW⟩ rfl rfl hl.1 rfl (lv_room (Nat.le_of_ble_eq_true rfl)) dH_reply_87 ⟨Nat.le_of_ble_eq_true rfl, Nat.le_of_ble_eq_true rfl⟩) hS (fun q _ h => hFc q h) hFc (fun s16 t H locs ht hvm hw hB _ _ hS => ?_)
          obtain ⟨hP, -, hD⟩ := hB
          rw [ht] at hP
          have hD := hD.weaken (fun _ _ _ h9 => hFc _ h9)
          refine W.widen (k := 1) (n := 6) (by decide) (by decide) ?_
          refine lv_goto (tgt := 130) hx hb dH_reply_90 (by decide) ?_
          refine lv_iconst (v := 1) hx hb dH_reply_130 (by decide) ?_
          refine W.widen (k := 2) (n := 12) (by decide) (by decide) ?_
          exact vx_ret (W.zret (ty := .boolean) (v := 1) hx hb hr (by decide) (fun t ht hW => ⟨⟨1, s16, rfl, hw, by rw [ht]; exact hP, va_K.moved hW.alike hK, hD⟩, hS.F ht⟩) hS.2.2 dH_reply_131)
        · have hw := hw.2 c15
          by_cases c18 : a2 = 1
          · have hw := hw.1 c18
            refine lv_tableIn (tgt := 93) hx hb dH_reply_54 (by rw [c18]; decide) (by rw [c18]; decide) (by rw [c18]; rfl) (by decide) ?_
            refine lv_aload_n hx hb dH_reply_93 rfl (lv_at hl 2 rfl) ?_
            refine lv_aload hx hb dH_reply_94 (lv_at hl 0 rfl) ?_
            refine lv_iload hx hb dH_reply_96 (lv_at hl 6 rfl) ?_
            have hFc := px_free hD hS hA
            refine va_callv (va_runV (As := [.ref (ad 6 j5), .int a3]) (rest := []) ⟨hx, hb, hml, hown, hts⟩ (c_hearWhoLeads l D ca ad s11 j5 hj7 a3 _ _ hw) (cwV 2 hts (gV tw_503 tw_505 tp_15 tw_1 tw_506) rfl rfl rfl (by decide +kernel) ⟨Nat.le_of_ble_eq_true rfl, Nat.le_of_ble_eq_true rfl⟩) ⟨px_blind, (px_recv hK hP gX_0 rfl), fun U hU hW => px_pre hP hK hD hE hS hFc hU hW⟩ rfl rfl hl.1 rfl (lv_room (Nat.le_of_ble_eq_true rfl)) dH_reply_98 ⟨Nat.le_of_ble_eq_true rfl, Nat.le_of_ble_eq_true rfl⟩) hS (fun q _ h => hFc q h) hFc (fun s19 t H locs ht hvm hw hB _ _ hS => ?_)
            obtain ⟨hP, -, hD⟩ := hB
            rw [ht] at hP
            have hD := hD.weaken (fun _ _ _ h9 => hFc _ h9)
            refine W.widen (k := 1) (n := 6) (by decide) (by decide) ?_
            refine lv_goto (tgt := 130) hx hb dH_reply_101 (by decide) ?_
            refine lv_iconst (v := 1) hx hb dH_reply_130 (by decide) ?_
            refine W.widen (k := 2) (n := 12) (by decide) (by decide) ?_
            exact vx_ret (W.zret (ty := .boolean) (v := 1) hx hb hr (by decide) (fun t ht hW => ⟨⟨1, s19, rfl, hw, by rw [ht]; exact hP, va_K.moved hW.alike hK, hD⟩, hS.F ht⟩) hS.2.2 dH_reply_131)
          · have hw := hw.2 c18
            by_cases c21 : a2 = 2
            · have hw := hw.1 c21
              refine lv_tableIn (tgt := 104) hx hb dH_reply_54 (by rw [c21]; decide) (by rw [c21]; decide) (by rw [c21]; rfl) (by decide) ?_
              refine lv_aload hx hb dH_reply_104 (lv_at hl 0 rfl) ?_
              refine lv_iconst (v := (-1)) hx hb dH_reply_106 (by decide) ?_
              refine va_put (D := D) (ci := 1) (v := .int (-1)) (ty := .int) (C := RP) (T := TP) (N := 16) hx hb hts inP tyP tyP_ok nmP hown hK hP hD hS (6 + j5) (gX_6 hj7) rfl 8 (by decide) (hts _ tw_98) (fun _ h9 => h9) rfl (by decide +kernel) rfl rfl (Nat.le_of_ble_eq_true rfl) dH_reply_107 (fun H locs hP hD hS => ?_)
              rw [sX_6_8 hj7] at hP hD
              refine lv_aload_n hx hb dH_reply_110 rfl (lv_at hl 2 rfl) ?_
              refine lv_aload hx hb dH_reply_111 (lv_at hl 0 rfl) ?_
              refine lv_iconst (v := 2) hx hb dH_reply_113 (by decide) ?_
              refine lv_iconst (v := (-1)) hx hb dH_reply_114 (by decide) ?_
              have hFc := px_free hD hS hA
              refine va_callv (va_runV (As := [.ref (ad 6 j5), .int 2, .int (-1)]) (rest := []) ⟨hx, hb, hml, hown, hts⟩ (c_tell l D ca ad (uF 8 j5 (-1) s11) j5 hj7 2 (-1) _ _ hw) (cwV 3 hts (gV tw_455 tw_457 tp_11 tw_1 tw_458) rfl rfl rfl (by decide +kernel) ⟨Nat.le_of_ble_eq_true rfl, Nat.le_of_ble_eq_true rfl⟩) ⟨px_blind, (px_recv hK hP gX_0 rfl), fun U hU hW => px_pre hP hK hD hE hS hFc hU hW⟩ rfl rfl hl.1 rfl (lv_room (Nat.le_of_ble_eq_true rfl)) dH_reply_115 ⟨Nat.le_of_ble_eq_true rfl, Nat.le_of_ble_eq_true rfl⟩) hS (fun q _ h => hFc q h) hFc (fun s22 t H locs ht hvm hw hB _ _ hS => ?_)
              obtain ⟨hP, -, hD⟩ := hB
              rw [ht] at hP
              have hD := hD.weaken (fun _ _ _ h9 => hFc _ h9)
              refine W.widen (k := 1) (n := 6) (by decide) (by decide) ?_
              refine lv_goto (tgt := 130) hx hb dH_reply_118 (by decide) ?_
              refine lv_iconst (v := 1) hx hb dH_reply_130 (by decide) ?_
              refine W.widen (k := 2) (n := 12) (by decide) (by decide) ?_
              exact vx_ret (W.zret (ty := .boolean) (v := 1) hx hb hr (by decide) (fun t ht hW => ⟨⟨1, s22, rfl, hw, by rw [ht]; exact hP, va_K.moved hW.alike hK, hD⟩, hS.F ht⟩) hS.2.2 dH_reply_131)
            · have hw := hw.2 c21
              refine lv_tableOut (tgt := 121) hx hb dH_reply_54 (by first | exact px_out3 c15 c18 c21) (by decide) ?_
              refine lv_aload_n hx hb dH_reply_121 rfl (lv_at hl 2 rfl) ?_
              refine lv_aload hx hb dH_reply_122 (lv_at hl 0 rfl) ?_
              refine lv_bipush (v := 20) hx hb dH_reply_124 (by decide) ?_
              refine lv_iconst (v := 0) hx hb dH_reply_126 (by decide) ?_
              have hFc := px_free hD hS hA
              refine va_callv (va_runV (As := [.ref (ad 6 j5), .int 20, .int 0]) (rest := []) ⟨hx, hb, hml, hown, hts⟩ (c_makeAlarm l D ca ad s11 j5 hj7 20 0 _ _ hw) (cwV 3 hts (gV tw_468 tw_470 tp_12 tw_1 tw_471) rfl rfl rfl (by decide +kernel) ⟨Nat.le_of_ble_eq_true rfl, Nat.le_of_ble_eq_true rfl⟩) ⟨px_blind, (px_recv hK hP gX_0 rfl), fun U hU hW => px_pre hP hK hD hE hS hFc hU hW⟩ rfl rfl hl.1 rfl (lv_room (Nat.le_of_ble_eq_true rfl)) dH_reply_127 ⟨Nat.le_of_ble_eq_true rfl, Nat.le_of_ble_eq_true rfl⟩) hS (fun q _ h => hFc q h) hFc (fun s24 t H locs ht hvm hw hB _ _ hS => ?_)
              obtain ⟨hP, -, hD⟩ := hB
              rw [ht] at hP
              have hD := hD.weaken (fun _ _ _ h9 => hFc _ h9)
              refine W.widen (k := 1) (n := 6) (by decide) (by decide) ?_
              refine lv_iconst (v := 1) hx hb dH_reply_130 (by decide) ?_
              refine W.widen (k := 2) (n := 12) (by decide) (by decide) ?_
              exact vx_ret (W.zret (ty := .boolean) (v := 1) hx hb hr (by decide) (fun t ht hW => ⟨⟨1, s24, rfl, hw, by rw [ht]; exact hP, va_K.moved hW.alike hK, hD⟩, hS.F ht⟩) hS.2.2 dH_reply_131)
      · have hw := hw.2 c14
        refine lv_iconst (v := 0) hx hb dH_reply_51 (by decide) ?_
        refine W.widen (k := 2) (n := 12) (by decide) (by decide) ?_
        exact vx_ret (W.zret (ty := .boolean) (v := 0) hx hb hr (by decide) (fun t ht hW => ⟨⟨0, s11, rfl, hw, by rw [ht]; exact hP, va_K.moved hW.alike hK, hD⟩, hS.F ht⟩) hS.2.2 dH_reply_52)
  · have hw := hw.2 c10
    obtain ⟨sa9, hstr⟩ := hE.str 5 _ rfl
    exact vx_throwS (names := ["java/lang/RuntimeException", "java/lang/Exception"]) hx hb hl0 hown (by decide +kernel) (by decide +kernel) (hts _ tw_214) (hts _ tw_11) hstr (hE.hat53 hts) gd_53 hE.1 hE.2.1 hS (hl.1.trans hml.symm) dH_reply_24 dH_reply_27 dH_reply_28 dH_reply_30 dH_reply_33 (fun x9 h9 => (hexc x9 h9).elim) (by decide) (by decide) (by decide) (by decide) hlocks (fun t hv hz hk => ⟨(_, s8), hw, ⟨rfl, hP.kept (fun k9 q9 h9 => hk _ (va_at.lt (hP k9 q9 h9))), va_K.moved hv hK, hD⟩, va_S.F2 hS hz hk⟩) hS.2.2 (by decide) (by decide)
theorem dH_giveUp_0 : decode cH_giveUp 0 = .ok (.aload_n 0, 1) := by decide +kernel
theorem dH_giveUp_1 : decode cH_giveUp 1 = .ok (.iload_n 1, 1) := by decide +kernel
theorem dH_giveUp_2 : decode cH_giveUp 2 = .ok (.invokevirtual 65, 3) := by decide +kernel
theorem dH_giveUp_5 : decode cH_giveUp 5 = .ok (.astore_n 2, 1) := by decide +kernel
theorem dH_giveUp_6 : decode cH_giveUp 6 = .ok (.aload_n 2, 1) := by decide +kernel
theorem dH_giveUp_7 : decode cH_giveUp 7 = .ok (.invokevirtual 78, 3) := by decide +kernel
theorem dH_giveUp_10 : decode cH_giveUp 10 = .ok (.istore_n 3, 1) := by decide +kernel
theorem dH_giveUp_11 : decode cH_giveUp 11 = .ok (.aload_n 0, 1) := by decide +kernel
theorem dH_giveUp_12 : decode cH_giveUp 12 = .ok (.aload_n 2, 1) := by decide +kernel
theorem dH_giveUp_13 : decode cH_giveUp 13 = .ok (.invokevirtual 114, 3) := by decide +kernel
theorem dH_giveUp_16 : decode cH_giveUp 16 = .ok (.iload_n 3, 1) := by decide +kernel
theorem dH_giveUp_17 : decode cH_giveUp 17 = .ok (.ireturn, 1) := by decide +kernel
def wp_giveUp (post : Int32 → Sg → Prop) (px : String → Sg → Prop) (σ : Sg) (a0 : Int32) : Prop := wp_patronOf (fun r2 s1 => (∃ j3 : Nat, r2 = some j3 ∧ j3 < 8 ∧ wp_waits (fun r7 s6 => wp_abandon (fun s8 => (narrow .boolean (.int r7) = .int r7 ∧ post r7 s8)) s6 j3) s1 j3)) px σ a0
set_option maxHeartbeats 4000000 in
set_option maxRecDepth 100000 in
theorem c_giveUp (l : Launch) (D : va_G) (ca : Nat → ClassId) (ad : Nat → Nat → Nat) (σ : Sg) (a0 : Int32) (sz : Nat) (post : Int32 → Sg → Prop) (px : String → Sg → Prop) (hl0 : l.stackTraces = false) (hw : wp_giveUp post px σ a0) : vx_Met l yH_giveUp wsH_giveUp ({ frames := 9, cells := 1, slots := 6, locals := 141 }) (va_Pc [.ref (ad 0 0), .int a0] (preX D ca ad σ sz)) (va_Qi post (atX D ca ad (va_A (wX ca ad σ) sz)) (va_A (wX ca ad σ) sz)) (vx_X (fun u : String × Sg => px u.1 u.2) (atXx D ca ad (va_A (wX ca ad σ) sz)) (va_A (wX ca ad σ) sz)) 1 6 (va_A (wX ca ad σ) sz) := by
  refine vx_ofW (cc := cH_giveUp) (maxL := 4) (ret := (some .boolean)) (by decide) rfl ?_
  intro p e s m args below meth c s₁ B hml hexc hv
  obtain ⟨rfl, hsz, hP, hK, hD0, hE⟩ := hv
  have hx := B.exec
  have hb := B.bytes
  have hr := B.returns
  have hts : ∀ w ∈ tbG, w.before _ s = true := fun w h => atoms_spec (ws := wsH_giveUp) B.pre w (List.mem_cons_of_mem _ h)
  have hown : s.vm.findClass RH = some m.cls := findClass_of_methodNamed B.named
  have hlocks := B.notSynchronized
  subst hsz
  have hD := hD0.self (sz := s.heap.size)
  generalize hAe : va_A (wX ca ad σ) s.heap.size = A at hD hE ⊢
  have hA : ∀ q : Nat, s.heap.size ≤ q → A q := fun q h => by rw [← hAe]; exact Or.inr h
  clear hAe
  have hS : va_S A s.heap s.heap [] := va_S.rf
  have hl := lv_entry ([.ref (ad 0 0), .int a0]) (n := 4) (Nat.le_of_ble_eq_true rfl)
  rw [lg_entry_eq]
  generalize (lg_sl ([.ref (ad 0 0), .int a0]) ++ List.replicate (4 - (lg_sl ([.ref (ad 0 0), .int a0])).length) Slot.unset).toArray = ls at hl ⊢
  have hl : lv_has ls 4 [(0, .ref (ad 0 0)), (1, .int a0)] := hl
  unfold wp_giveUp at hw
  have hP : va_P D clX (wX ca ad σ) s.heap := hP
  refine lv_aload_n hx hb dH_giveUp_0 rfl (lv_at hl 0 rfl) ?_
  refine lv_iload_n hx hb dH_giveUp_1 rfl (lv_at hl 1 rfl) ?_
  have hFc := px_free hD hS hA
  refine vx_calle (vx_runV (As := [.int a0]) (rest := []) ⟨hx, hb, hml, hown, hts⟩ (c_patronOf l D ca ad σ a0 _ _ _ hl0 hw) (cwV 1 hts (gV tw_309 tw_311 tp_3 tw_1 tw_312) rfl rfl rfl (by decide +kernel) ⟨Nat.le_of_ble_eq_true rfl, Nat.le_of_ble_eq_true rfl⟩) ⟨px_blind, (px_recv hK hP gX_0 rfl), fun U hU hW => px_pre hP hK hD hE hS hFc hU hW⟩ rfl rfl hl.1 rfl (lv_room (Nat.le_of_ble_eq_true rfl)) dH_giveUp_2 ⟨Nat.le_of_ble_eq_true rfl, Nat.le_of_ble_eq_true rfl⟩) hS (fun q _ h => hFc q h) hFc (fun q _ h => hFc q h) (fun E9 ce9 q9 u9 t9 H locs ht hvm hw hB _ _ hS hce hcv hcl => ?_) (fun r2 s1 t H locs ht hvm hw hB _ _ hS => ?_)
  · obtain ⟨rfl, hP, -, hD⟩ := hB
    rw [ht] at hP
    exact vx_out (fun x9 h9 => (hexc x9 h9).elim) hlocks hce hcv hcl (fun t8 h8 hv8 => ⟨u9, hw, ⟨rfl, by rw [h8]; exact hP, va_K.moved hv8 hK, hD.weaken (fun _ _ _ h7 => hFc _ h7)⟩, hS.F h8⟩) hS.2.2 (by decide) (by decide)
  obtain ⟨hP, -, hD⟩ := hB
  rw [ht] at hP
  have hD := hD.weaken (fun _ _ _ h9 => hFc _ h9)
  refine W.widen (k := 1) (n := 6) (by decide) (by decide) ?_
  obtain ⟨j3, e4, hj5, hw⟩ := hw
  subst e4
  refine lv_astore_n (lv' := [(2, .ref (ad 6 j3)), (0, .ref (ad 0 0)), (1, .int a0)]) hx hb dH_giveUp_5 rfl hl (by decide) rfl (fun ls hl => ?_)
  refine lv_aload_n hx hb dH_giveUp_6 rfl (lv_at hl 0 rfl) ?_
  have hFc := px_free hD hS hA
  refine va_calli (va_runV (As := []) (rest := []) ⟨hx, hb, hml, hown, hts⟩ (c_waits l D ca ad s1 j3 hj5 _ _ hw) (cwV 0 hts (gV tw_198 tw_199 tw_200 tw_6 tw_201) rfl rfl rfl (by decide +kernel) ⟨Nat.le_of_ble_eq_true rfl, Nat.le_of_ble_eq_true rfl⟩) ⟨px_blind, (px_recv hK hP (gX_6 hj5) rfl), fun U hU hW => px_pre hP hK hD hE hS hFc hU hW⟩ rfl rfl hl.1 rfl (lv_room (Nat.le_of_ble_eq_true rfl)) dH_giveUp_7 ⟨Nat.le_of_ble_eq_true rfl, Nat.le_of_ble_eq_true rfl⟩) hS (fun q _ h => hFc q h) hFc (fun r7 s6 t H locs ht hvm hw hB _ _ hS => ?_)
  obtain ⟨hP, -, hD⟩ := hB
  rw [ht] at hP
  have hD := hD.weaken (fun _ _ _ h9 => hFc _ h9)
  refine W.widen (k := 1) (n := 6) (by decide) (by decide) ?_
  refine lv_istore_n (lv' := [(3, .int r7), (2, .ref (ad 6 j3)), (0, .ref (ad 0 0)), (1, .int a0)]) hx hb dH_giveUp_10 rfl hl (by decide) rfl (fun ls hl => ?_)
  refine lv_aload_n hx hb dH_giveUp_11 rfl (lv_at hl 2 rfl) ?_
  refine lv_aload_n hx hb dH_giveUp_12 rfl (lv_at hl 1 rfl) ?_
  have hFc := px_free hD hS hA
  refine va_callv (va_runV (As := [.ref (ad 6 j3)]) (rest := []) ⟨hx, hb, hml, hown, hts⟩ (c_abandon l D ca ad s6 j3 hj5 _ _ hw) (cwV 1 hts (gV tw_451 tw_453 tp_10 tw_1 tw_454) rfl rfl rfl (by decide +kernel) ⟨Nat.le_of_ble_eq_true rfl, Nat.le_of_ble_eq_true rfl⟩) ⟨px_blind, (px_recv hK hP gX_0 rfl), fun U hU hW => px_pre hP hK hD hE hS hFc hU hW⟩ rfl rfl hl.1 rfl (lv_room (Nat.le_of_ble_eq_true rfl)) dH_giveUp_13 ⟨Nat.le_of_ble_eq_true rfl, Nat.le_of_ble_eq_true rfl⟩) hS (fun q _ h => hFc q h) hFc (fun s8 t H locs ht hvm hw hB _ _ hS => ?_)
  obtain ⟨hP, -, hD⟩ := hB
  rw [ht] at hP
  have hD := hD.weaken (fun _ _ _ h9 => hFc _ h9)
  refine W.widen (k := 1) (n := 6) (by decide) (by decide) ?_
  refine lv_iload_n hx hb dH_giveUp_16 rfl (lv_at hl 0 rfl) ?_
  obtain ⟨hz, hw⟩ := hw
  refine W.widen (k := 1) (n := 6) (by decide) (by decide) ?_
  exact vx_ret (W.zret (ty := .boolean) (v := r7) hx hb hr hz (fun t ht hW => ⟨⟨r7, s8, rfl, hw, by rw [ht]; exact hP, va_K.moved hW.alike hK, hD⟩, hS.F ht⟩) hS.2.2 dH_giveUp_17)
theorem dH_client_0 : decode cH_client 0 = .ok (.aload_n 0, 1) := by decide +kernel
theorem dH_client_1 : decode cH_client 1 = .ok (.iload_n 1, 1) := by decide +kernel
theorem dH_client_2 : decode cH_client 2 = .ok (.invokevirtual 65, 3) := by decide +kernel
theorem dH_client_5 : decode cH_client 5 = .ok (.astore_n 3, 1) := by decide +kernel
theorem dH_client_6 : decode cH_client 6 = .ok (.iload_n 2, 1) := by decide +kernel
theorem dH_client_7 : decode cH_client 7 = .ok (.tableswitch 103 0 8 #[49, 57, 62, 67, 72, 77, 82, 87, 95], 49) := by decide +kernel
theorem dH_client_56 : decode cH_client 56 = .ok (.aload_n 3, 1) := by decide +kernel
theorem dH_client_57 : decode cH_client 57 = .ok (.invokevirtual 78, 3) := by decide +kernel
theorem dH_client_60 : decode cH_client 60 = .ok (.invokestatic 152, 3) := by decide +kernel
theorem dH_client_63 : decode cH_client 63 = .ok (.ireturn, 1) := by decide +kernel
theorem dH_client_64 : decode cH_client 64 = .ok (.aload_n 3, 1) := by decide +kernel
theorem dH_client_65 : decode cH_client 65 = .ok (.getfield 156, 3) := by decide +kernel
theorem dH_client_68 : decode cH_client 68 = .ok (.ireturn, 1) := by decide +kernel
theorem dH_client_69 : decode cH_client 69 = .ok (.aload_n 3, 1) := by decide +kernel
theorem dH_client_70 : decode cH_client 70 = .ok (.getfield 104, 3) := by decide +kernel
theorem dH_client_73 : decode cH_client 73 = .ok (.ireturn, 1) := by decide +kernel
theorem dH_client_74 : decode cH_client 74 = .ok (.aload_n 3, 1) := by decide +kernel
theorem dH_client_75 : decode cH_client 75 = .ok (.getfield 159, 3) := by decide +kernel
theorem dH_client_78 : decode cH_client 78 = .ok (.ireturn, 1) := by decide +kernel
theorem dH_client_79 : decode cH_client 79 = .ok (.aload_n 3, 1) := by decide +kernel
theorem dH_client_80 : decode cH_client 80 = .ok (.getfield 123, 3) := by decide +kernel
theorem dH_client_83 : decode cH_client 83 = .ok (.ireturn, 1) := by decide +kernel
theorem dH_client_84 : decode cH_client 84 = .ok (.aload_n 3, 1) := by decide +kernel
theorem dH_client_85 : decode cH_client 85 = .ok (.getfield 162, 3) := by decide +kernel
theorem dH_client_88 : decode cH_client 88 = .ok (.ireturn, 1) := by decide +kernel
theorem dH_client_89 : decode cH_client 89 = .ok (.aload_n 3, 1) := by decide +kernel
theorem dH_client_90 : decode cH_client 90 = .ok (.getfield 146, 3) := by decide +kernel
theorem dH_client_93 : decode cH_client 93 = .ok (.ireturn, 1) := by decide +kernel
theorem dH_client_94 : decode cH_client 94 = .ok (.aload_n 3, 1) := by decide +kernel
theorem dH_client_95 : decode cH_client 95 = .ok (.getfield 165, 3) := by decide +kernel
theorem dH_client_98 : decode cH_client 98 = .ok (.invokestatic 152, 3) := by decide +kernel
theorem dH_client_101 : decode cH_client 101 = .ok (.ireturn, 1) := by decide +kernel
theorem dH_client_102 : decode cH_client 102 = .ok (.aload_n 3, 1) := by decide +kernel
theorem dH_client_103 : decode cH_client 103 = .ok (.getfield 169, 3) := by decide +kernel
theorem dH_client_106 : decode cH_client 106 = .ok (.invokestatic 152, 3) := by decide +kernel
theorem dH_client_109 : decode cH_client 109 = .ok (.ireturn, 1) := by decide +kernel
theorem dH_client_110 : decode cH_client 110 = .ok (.new 172, 3) := by decide +kernel
theorem dH_client_113 : decode cH_client 113 = .ok (.dup, 1) := by decide +kernel
theorem dH_client_114 : decode cH_client 114 = .ok (.ldc 174, 2) := by decide +kernel
theorem dH_client_116 : decode cH_client 116 = .ok (.invokespecial 176, 3) := by decide +kernel
theorem dH_client_119 : decode cH_client 119 = .ok (.athrow, 1) := by decide +kernel
def wp_client (post : Int32 → Sg → Prop) (px : String → Sg → Prop) (σ : Sg) (a0 : Int32) (a1 : Int32) : Prop := wp_patronOf (fun r2 s1 => (∃ j3 : Nat, r2 = some j3 ∧ j3 < 8 ∧ ((a1 = 0 → wp_waits (fun r8 s7 => wp_asInt (fun r10 s9 => post r10 s9) s7 r8) s1 j3) ∧ (¬ (a1 = 0) → ((a1 = 1 → post (sF s1 7 j3) s1) ∧ (¬ (a1 = 1) → ((a1 = 2 → post (sF s1 8 j3) s1) ∧ (¬ (a1 = 2) → ((a1 = 3 → post (sF s1 9 j3) s1) ∧ (¬ (a1 = 3) → ((a1 = 4 → post (sF s1 10 j3) s1) ∧ (¬ (a1 = 4) → ((a1 = 5 → post (sF s1 11 j3) s1) ∧ (¬ (a1 = 5) → ((a1 = 6 → post (sF s1 13 j3) s1) ∧ (¬ (a1 = 6) → ((a1 = 7 → wp_asInt (fun r19 s18 => post r19 s18) s1 (sF s1 15 j3)) ∧ (¬ (a1 = 7) → ((a1 = 8 → wp_asInt (fun r22 s21 => post r22 s21) s1 (sF s1 12 j3)) ∧ (¬ (a1 = 8) → px "java/lang/IndexOutOfBoundsException" s1)))))))))))))))))))) px σ a0
set_option maxHeartbeats 4000000 in
set_option maxRecDepth 100000 in
theorem c_client (l : Launch) (D : va_G) (ca : Nat → ClassId) (ad : Nat → Nat → Nat) (σ : Sg) (a0 : Int32) (a1 : Int32) (sz : Nat) (post : Int32 → Sg → Prop) (px : String → Sg → Prop) (hl0 : l.stackTraces = false) (hw : wp_client post px σ a0 a1) : vx_Met l yH_client wsH_client ({ frames := 9, cells := 2, slots := 12, locals := 141 }) (va_Pc [.ref (ad 0 0), .int a0, .int a1] (preX D ca ad σ sz)) (va_Qi post (atX D ca ad (va_A (wX ca ad σ) sz)) (va_A (wX ca ad σ) sz)) (vx_X (fun u : String × Sg => px u.1 u.2) (atXx D ca ad (va_A (wX ca ad σ) sz)) (va_A (wX ca ad σ) sz)) 2 12 (va_A (wX ca ad σ) sz) := by
  refine vx_ofW (cc := cH_client) (maxL := 4) (ret := (some .int)) (by decide) rfl ?_
  intro p e s m args below meth c s₁ B hml hexc hv
  obtain ⟨rfl, hsz, hP, hK, hD0, hE⟩ := hv
  have hx := B.exec
  have hb := B.bytes
  have hr := B.returns
  have hts : ∀ w ∈ tbG, w.before _ s = true := fun w h => atoms_spec (ws := wsH_client) B.pre w (List.mem_cons_of_mem _ h)
  have hown : s.vm.findClass RH = some m.cls := findClass_of_methodNamed B.named
  have hlocks := B.notSynchronized
  subst hsz
  have hD := hD0.self (sz := s.heap.size)
  generalize hAe : va_A (wX ca ad σ) s.heap.size = A at hD hE ⊢
  have hA : ∀ q : Nat, s.heap.size ≤ q → A q := fun q h => by rw [← hAe]; exact Or.inr h
  clear hAe
  have hS : va_S A s.heap s.heap [] := va_S.rf
  have hl := lv_entry ([.ref (ad 0 0), .int a0, .int a1]) (n := 4) (Nat.le_of_ble_eq_true rfl)
  rw [lg_entry_eq]
  generalize (lg_sl ([.ref (ad 0 0), .int a0, .int a1]) ++ List.replicate (4 - (lg_sl ([.ref (ad 0 0), .int a0, .int a1])).length) Slot.unset).toArray = ls at hl ⊢
  have hl : lv_has ls 4 [(0, .ref (ad 0 0)), (1, .int a0), (2, .int a1)] := hl
  unfold wp_client at hw
  have hP : va_P D clX (wX ca ad σ) s.heap := hP
  refine lv_aload_n hx hb dH_client_0 rfl (lv_at hl 0 rfl) ?_
  refine lv_iload_n hx hb dH_client_1 rfl (lv_at hl 1 rfl) ?_
  have hFc := px_free hD hS hA
  refine vx_calle (vx_runV (As := [.int a0]) (rest := []) ⟨hx, hb, hml, hown, hts⟩ (c_patronOf l D ca ad σ a0 _ _ _ hl0 hw) (cwV 1 hts (gV tw_309 tw_311 tp_3 tw_1 tw_312) rfl rfl rfl (by decide +kernel) ⟨Nat.le_of_ble_eq_true rfl, Nat.le_of_ble_eq_true rfl⟩) ⟨px_blind, (px_recv hK hP gX_0 rfl), fun U hU hW => px_pre hP hK hD hE hS hFc hU hW⟩ rfl rfl hl.1 rfl (lv_room (Nat.le_of_ble_eq_true rfl)) dH_client_2 ⟨Nat.le_of_ble_eq_true rfl, Nat.le_of_ble_eq_true rfl⟩) hS (fun q _ h => hFc q h) hFc (fun q _ h => hFc q h) (fun E9 ce9 q9 u9 t9 H locs ht hvm hw hB _ _ hS hce hcv hcl => ?_) (fun r2 s1 t H locs ht hvm hw hB _ _ hS => ?_)
  · obtain ⟨rfl, hP, -, hD⟩ := hB
    rw [ht] at hP
    exact vx_out (fun x9 h9 => (hexc x9 h9).elim) hlocks hce hcv hcl (fun t8 h8 hv8 => ⟨u9, hw, ⟨rfl, by rw [h8]; exact hP, va_K.moved hv8 hK, hD.weaken (fun _ _ _ h7 => hFc _ h7)⟩, hS.F h8⟩) hS.2.2 (by decide) (by decide)
  obtain ⟨hP, -, hD⟩ := hB
  rw [ht] at hP
  have hD := hD.weaken (fun _ _ _ h9 => hFc _ h9)
  refine W.widen (k := 1) (n := 6) (by decide) (by decide) ?_
  obtain ⟨j3, e4, hj5, hw⟩ := hw
  subst e4
  refine lv_astore_n (lv' := [(3, .ref (ad 6 j3)), (0, .ref (ad 0 0)), (1, .int a0), (2, .int a1)]) hx hb dH_client_5 rfl hl (by decide) rfl (fun ls hl => ?_)
  refine lv_iload_n hx hb dH_client_6 rfl (lv_at hl 3 rfl) ?_
  by_cases c6 : a1 = 0
  · have hw := hw.1 c6
    refine lv_tableIn (tgt := 56) hx hb dH_client_7 (by rw [c6]; decide) (by rw [c6]; decide) (by rw [c6]; rfl) (by decide) ?_
    refine lv_aload_n hx hb dH_client_56 rfl (lv_at hl 0 rfl) ?_
    have hFc := px_free hD hS hA
    refine va_calli (va_runV (As := []) (rest := []) ⟨hx, hb, hml, hown, hts⟩ (c_waits l D ca ad s1 j3 hj5 _ _ hw) (cwV 0 hts (gV tw_198 tw_199 tw_200 tw_6 tw_201) rfl rfl rfl (by decide +kernel) ⟨Nat.le_of_ble_eq_true rfl, Nat.le_of_ble_eq_true rfl⟩) ⟨px_blind, (px_recv hK hP (gX_6 hj5) rfl), fun U hU hW => px_pre hP hK hD hE hS hFc hU hW⟩ rfl rfl hl.1 rfl (lv_room (Nat.le_of_ble_eq_true rfl)) dH_client_57 ⟨Nat.le_of_ble_eq_true rfl, Nat.le_of_ble_eq_true rfl⟩) hS (fun q _ h => hFc q h) hFc (fun r8 s7 t H locs ht hvm hw hB _ _ hS => ?_)
    obtain ⟨hP, -, hD⟩ := hB
    rw [ht] at hP
    have hD := hD.weaken (fun _ _ _ h9 => hFc _ h9)
    refine W.widen (k := 1) (n := 6) (by decide) (by decide) ?_
    have hFc := px_free hD hS hA
    refine va_calli (va_runS (As := [.int r8]) (rest := []) ⟨hx, hb, hml, hown, hts⟩ (c_asInt l D ca ad s7 r8 _ _ hw) (va_cwS 1 hts (gS tw_202 tw_203 tw_1 tw_204) rfl rfl rfl (by decide +kernel) ⟨Nat.le_of_ble_eq_true rfl, Nat.le_of_ble_eq_true rfl⟩) ⟨px_blind, fun U hU hW => px_pre hP hK hD hE hS hFc hU hW⟩ rfl rfl hl.1 rfl (lv_room (Nat.le_of_ble_eq_true rfl)) dH_client_60 ⟨Nat.le_of_ble_eq_true rfl, Nat.le_of_ble_eq_true rfl⟩) hS (fun q _ h => hFc q h) hFc (fun r10 s9 t H locs ht hvm hw hB _ _ hS => ?_)
    obtain ⟨hP, -, hD⟩ := hB
    rw [ht] at hP
    have hD := hD.weaken (fun _ _ _ h9 => hFc _ h9)
    refine W.widen (k := 1) (n := 6) (by decide) (by decide) ?_
    refine W.widen (k := 2) (n := 12) (by decide) (by decide) ?_
    exact vx_ret (W.iret (v := r10) hx hb hr (fun t ht hW => ⟨⟨r10, s9, rfl, hw, by rw [ht]; exact hP, va_K.moved hW.alike hK, hD⟩, hS.F ht⟩) hS.2.2 dH_client_63)
  · have hw := hw.2 c6
    by_cases c11 : a1 = 1
    · have hw := hw.1 c11
      refine lv_tableIn (tgt := 64) hx hb dH_client_7 (by rw [c11]; decide) (by rw [c11]; decide) (by rw [c11]; rfl) (by decide) ?_
      refine lv_aload_n hx hb dH_client_64 rfl (lv_at hl 0 rfl) ?_
      refine va_get (D := D) (ci := 1) (v := .int (sF s1 7 j3)) (C := RP) (T := TP) (N := 16) hx hb hts inP hown hK hP (6 + j3) (gX_6 hj5) rfl 7 (by decide) (hts _ tw_95) (fun _ h9 => h9) rfl dH_client_65 ?_
      refine W.widen (k := 2) (n := 12) (by decide) (by decide) ?_
      exact vx_ret (W.iret (v := (sF s1 7 j3)) hx hb hr (fun t ht hW => ⟨⟨(sF s1 7 j3), s1, rfl, hw, by rw [ht]; exact hP, va_K.moved hW.alike hK, hD⟩, hS.F ht⟩) hS.2.2 dH_client_68)
    · have hw := hw.2 c11
      by_cases c12 : a1 = 2
      · have hw := hw.1 c12
        refine lv_tableIn (tgt := 69) hx hb dH_client_7 (by rw [c12]; decide) (by rw [c12]; decide) (by rw [c12]; rfl) (by decide) ?_
        refine lv_aload_n hx hb dH_client_69 rfl (lv_at hl 0 rfl) ?_
        refine va_get (D := D) (ci := 1) (v := .int (sF s1 8 j3)) (C := RP) (T := TP) (N := 16) hx hb hts inP hown hK hP (6 + j3) (gX_6 hj5) rfl 8 (by decide) (hts _ tw_98) (fun _ h9 => h9) rfl dH_client_70 ?_
        refine W.widen (k := 2) (n := 12) (by decide) (by decide) ?_
        exact vx_ret (W.iret (v := (sF s1 8 j3)) hx hb hr (fun t ht hW => ⟨⟨(sF s1 8 j3), s1, rfl, hw, by rw [ht]; exact hP, va_K.moved hW.alike hK, hD⟩, hS.F ht⟩) hS.2.2 dH_client_73)
      · have hw := hw.2 c12
        by_cases c13 : a1 = 3
        · have hw := hw.1 c13
          refine lv_tableIn (tgt := 74) hx hb dH_client_7 (by rw [c13]; decide) (by rw [c13]; decide) (by rw [c13]; rfl) (by decide) ?_
          refine lv_aload_n hx hb dH_client_74 rfl (lv_at hl 0 rfl) ?_
          refine va_get (D := D) (ci := 1) (v := .int (sF s1 9 j3)) (C := RP) (T := TP) (N := 16) hx hb hts inP hown hK hP (6 + j3) (gX_6 hj5) rfl 9 (by decide) (hts _ tw_101) (fun _ h9 => h9) rfl dH_client_75 ?_
          refine W.widen (k := 2) (n := 12) (by decide) (by decide) ?_
          exact vx_ret (W.iret (v := (sF s1 9 j3)) hx hb hr (fun t ht hW => ⟨⟨(sF s1 9 j3), s1, rfl, hw, by rw [ht]; exact hP, va_K.moved hW.alike hK, hD⟩, hS.F ht⟩) hS.2.2 dH_client_78)
        · have hw := hw.2 c13
          by_cases c14 : a1 = 4
          · have hw := hw.1 c14
            refine lv_tableIn (tgt := 79) hx hb dH_client_7 (by rw [c14]; decide) (by rw [c14]; decide) (by rw [c14]; rfl) (by decide) ?_
            refine lv_aload_n hx hb dH_client_79 rfl (lv_at hl 0 rfl) ?_
            refine va_get (D := D) (ci := 1) (v := .int (sF s1 10 j3)) (C := RP) (T := TP) (N := 16) hx hb hts inP hown hK hP (6 + j3) (gX_6 hj5) rfl 10 (by decide) (hts _ tw_104) (fun _ h9 => h9) rfl dH_client_80 ?_
            refine W.widen (k := 2) (n := 12) (by decide) (by decide) ?_
            exact vx_ret (W.iret (v := (sF s1 10 j3)) hx hb hr (fun t ht hW => ⟨⟨(sF s1 10 j3), s1, rfl, hw, by rw [ht]; exact hP, va_K.moved hW.alike hK, hD⟩, hS.F ht⟩) hS.2.2 dH_client_83)
          · have hw := hw.2 c14
            by_cases c15 : a1 = 5
            · have hw := hw.1 c15
              refine lv_tableIn (tgt := 84) hx hb dH_client_7 (by rw [c15]; decide) (by rw [c15]; decide) (by rw [c15]; rfl) (by decide) ?_
              refine lv_aload_n hx hb dH_client_84 rfl (lv_at hl 0 rfl) ?_
              refine va_get (D := D) (ci := 1) (v := .int (sF s1 11 j3)) (C := RP) (T := TP) (N := 16) hx hb hts inP hown hK hP (6 + j3) (gX_6 hj5) rfl 11 (by decide) (hts _ tw_106) (fun _ h9 => h9) rfl dH_client_85 ?_
              refine W.widen (k := 2) (n := 12) (by decide) (by decide) ?_
              exact vx_ret (W.iret (v := (sF s1 11 j3)) hx hb hr (fun t ht hW => ⟨⟨(sF s1 11 j3), s1, rfl, hw, by rw [ht]; exact hP, va_K.moved hW.alike hK, hD⟩, hS.F ht⟩) hS.2.2 dH_client_88)
            · have hw := hw.2 c15
              by_cases c16 : a1 = 6
              · have hw := hw.1 c16
                refine lv_tableIn (tgt := 89) hx hb dH_client_7 (by rw [c16]; decide) (by rw [c16]; decide) (by rw [c16]; rfl) (by decide) ?_
                refine lv_aload_n hx hb dH_client_89 rfl (lv_at hl 0 rfl) ?_
                refine va_get (D := D) (ci := 1) (v := .int (sF s1 13 j3)) (C := RP) (T := TP) (N := 16) hx hb hts inP hown hK hP (6 + j3) (gX_6 hj5) rfl 13 (by decide) (hts _ tw_111) (fun _ h9 => h9) rfl dH_client_90 ?_
                refine W.widen (k := 2) (n := 12) (by decide) (by decide) ?_
                exact vx_ret (W.iret (v := (sF s1 13 j3)) hx hb hr (fun t ht hW => ⟨⟨(sF s1 13 j3), s1, rfl, hw, by rw [ht]; exact hP, va_K.moved hW.alike hK, hD⟩, hS.F ht⟩) hS.2.2 dH_client_93)
              · have hw := hw.2 c16
                by_cases c17 : a1 = 7
                · have hw := hw.1 c17
                  refine lv_tableIn (tgt := 94) hx hb dH_client_7 (by rw [c17]; decide) (by rw [c17]; decide) (by rw [c17]; rfl) (by decide) ?_
                  refine lv_aload_n hx hb dH_client_94 rfl (lv_at hl 0 rfl) ?_
                  refine va_get (D := D) (ci := 1) (v := .int (sF s1 15 j3)) (C := RP) (T := TP) (N := 16) hx hb hts inP hown hK hP (6 + j3) (gX_6 hj5) rfl 15 (by decide) (hts _ tw_115) (fun _ h9 => h9) rfl dH_client_95 ?_
                  have hFc := px_free hD hS hA
                  refine va_calli (va_runS (As := [.int (sF s1 15 j3)]) (rest := []) ⟨hx, hb, hml, hown, hts⟩ (c_asInt l D ca ad s1 (sF s1 15 j3) _ _ hw) (va_cwS 1 hts (gS tw_202 tw_203 tw_1 tw_204) rfl rfl rfl (by decide +kernel) ⟨Nat.le_of_ble_eq_true rfl, Nat.le_of_ble_eq_true rfl⟩) ⟨px_blind, fun U hU hW => px_pre hP hK hD hE hS hFc hU hW⟩ rfl rfl hl.1 rfl (lv_room (Nat.le_of_ble_eq_true rfl)) dH_client_98 ⟨Nat.le_of_ble_eq_true rfl, Nat.le_of_ble_eq_true rfl⟩) hS (fun q _ h => hFc q h) hFc (fun r19 s18 t H locs ht hvm hw hB _ _ hS => ?_)
                  obtain ⟨hP, -, hD⟩ := hB
                  rw [ht] at hP
                  have hD := hD.weaken (fun _ _ _ h9 => hFc _ h9)
                  refine W.widen (k := 1) (n := 6) (by decide) (by decide) ?_
                  refine W.widen (k := 2) (n := 12) (by decide) (by decide) ?_
                  exact vx_ret (W.iret (v := r19) hx hb hr (fun t ht hW => ⟨⟨r19, s18, rfl, hw, by rw [ht]; exact hP, va_K.moved hW.alike hK, hD⟩, hS.F ht⟩) hS.2.2 dH_client_101)
                · have hw := hw.2 c17
                  by_cases c20 : a1 = 8
                  · have hw := hw.1 c20
                    refine lv_tableIn (tgt := 102) hx hb dH_client_7 (by rw [c20]; decide) (by rw [c20]; decide) (by rw [c20]; rfl) (by decide) ?_
                    refine lv_aload_n hx hb dH_client_102 rfl (lv_at hl 0 rfl) ?_
                    refine va_get (D := D) (ci := 1) (v := .int (sF s1 12 j3)) (C := RP) (T := TP) (N := 16) hx hb hts inP hown hK hP (6 + j3) (gX_6 hj5) rfl 12 (by decide) (hts _ tw_109) (fun _ h9 => h9) rfl dH_client_103 ?_
                    have hFc := px_free hD hS hA
                    refine va_calli (va_runS (As := [.int (sF s1 12 j3)]) (rest := []) ⟨hx, hb, hml, hown, hts⟩ (c_asInt l D ca ad s1 (sF s1 12 j3) _ _ hw) (va_cwS 1 hts (gS tw_202 tw_203 tw_1 tw_204) rfl rfl rfl (by decide +kernel) ⟨Nat.le_of_ble_eq_true rfl, Nat.le_of_ble_eq_true rfl⟩) ⟨px_blind, fun U hU hW => px_pre hP hK hD hE hS hFc hU hW⟩ rfl rfl hl.1 rfl (lv_room (Nat.le_of_ble_eq_true rfl)) dH_client_106 ⟨Nat.le_of_ble_eq_true rfl, Nat.le_of_ble_eq_true rfl⟩) hS (fun q _ h => hFc q h) hFc (fun r22 s21 t H locs ht hvm hw hB _ _ hS => ?_)
                    obtain ⟨hP, -, hD⟩ := hB
                    rw [ht] at hP
                    have hD := hD.weaken (fun _ _ _ h9 => hFc _ h9)
                    refine W.widen (k := 1) (n := 6) (by decide) (by decide) ?_
                    refine W.widen (k := 2) (n := 12) (by decide) (by decide) ?_
                    exact vx_ret (W.iret (v := r22) hx hb hr (fun t ht hW => ⟨⟨r22, s21, rfl, hw, by rw [ht]; exact hP, va_K.moved hW.alike hK, hD⟩, hS.F ht⟩) hS.2.2 dH_client_109)
                  · have hw := hw.2 c20
                    refine lv_tableOut (tgt := 110) hx hb dH_client_7 (by first | exact px_out9 c6 c11 c12 c13 c14 c15 c16 c17 c20) (by decide) ?_
                    obtain ⟨sa9, hstr⟩ := hE.str 7 _ rfl
                    exact vx_throwS (names := ["java/lang/RuntimeException", "java/lang/Exception"]) hx hb hl0 hown (by decide +kernel) (by decide +kernel) (hts _ tw_313) (hts _ tw_13) hstr (hE.hat176 hts) gd_176 hE.1 hE.2.1 hS (hl.1.trans hml.symm) dH_client_110 dH_client_113 dH_client_114 dH_client_116 dH_client_119 (fun x9 h9 => (hexc x9 h9).elim) (by decide) (by decide) (by decide) (by decide) hlocks (fun t hv hz hk => ⟨(_, s1), hw, ⟨rfl, hP.kept (fun k9 q9 h9 => hk _ (va_at.lt (hP k9 q9 h9))), va_K.moved hv hK, hD⟩, va_S.F2 hS hz hk⟩) hS.2.2 (by decide) (by decide)
theorem dH_request_0 : decode cH_request 0 = .ok (.aload_n 0, 1) := by decide +kernel
theorem dH_request_1 : decode cH_request 1 = .ok (.getfield 25, 3) := by decide +kernel
theorem dH_request_4 : decode cH_request 4 = .ok (.iload_n 1, 1) := by decide +kernel
theorem dH_request_5 : decode cH_request 5 = .ok (.iload_n 2, 1) := by decide +kernel
theorem dH_request_6 : decode cH_request 6 = .ok (.invokevirtual 177, 3) := by decide +kernel
theorem dH_request_9 : decode cH_request 9 = .ok (.ireturn, 1) := by decide +kernel
def wp_request (post : Int32 → Sg → Prop) (σ : Sg) (a0 : Int32) (a1 : Int32) : Prop := wp_cell (fun r2 s1 => post r2 s1) σ a0 a1
set_option maxHeartbeats 4000000 in
set_option maxRecDepth 100000 in
theorem c_request (l : Launch) (D : va_G) (ca : Nat → ClassId) (ad : Nat → Nat → Nat) (σ : Sg) (a0 : Int32) (a1 : Int32) (sz : Nat) (post : Int32 → Sg → Prop) (hw : wp_request post σ a0 a1) : Met l yH_request wsH_request ({ frames := 2, cells := 0, slots := 0, locals := 42 }) (va_Pc [.ref (ad 0 0), .int a0, .int a1] (preX D ca ad σ sz)) (va_Qi post (atX D ca ad (va_A (wX ca ad σ) sz)) (va_A (wX ca ad σ) sz)) 0 0 (va_A (wX ca ad σ) sz) := by
  refine Met.ofW (cc := cH_request) (maxL := 3) (ret := (some .int)) (by decide) rfl ?_
  intro p e s m args below meth c s₁ B hml hv
  obtain ⟨rfl, hsz, hP, hK, hD0, hE⟩ := hv
  have hx := B.exec
  have hb := B.bytes
  have hr := B.returns
  have hts : ∀ w ∈ tbG, w.before _ s = true := fun w h => atoms_spec (ws := wsH_request) B.pre w (List.mem_cons_of_mem _ h)
  have hown : s.vm.findClass RH = some m.cls := findClass_of_methodNamed B.named
  have hlocks := B.notSynchronized
  subst hsz
  have hD := hD0.self (sz := s.heap.size)
  generalize hAe : va_A (wX ca ad σ) s.heap.size = A at hD hE ⊢
  have hA : ∀ q : Nat, s.heap.size ≤ q → A q := fun q h => by rw [← hAe]; exact Or.inr h
  clear hAe
  have hS : va_S A s.heap s.heap [] := va_S.rf
  have hl := lv_entry ([.ref (ad 0 0), .int a0, .int a1]) (n := 3) (Nat.le_of_ble_eq_true rfl)
  rw [lg_entry_eq]
  generalize (lg_sl ([.ref (ad 0 0), .int a0, .int a1]) ++ List.replicate (3 - (lg_sl ([.ref (ad 0 0), .int a0, .int a1])).length) Slot.unset).toArray = ls at hl ⊢
  have hl : lv_has ls 3 [(0, .ref (ad 0 0)), (1, .int a0), (2, .int a1)] := hl
  unfold wp_request at hw
  have hP : va_P D clX (wX ca ad σ) s.heap := hP
  refine lv_aload_n hx hb dH_request_0 rfl (lv_at hl 0 rfl) ?_
  refine va_get (D := D) (ci := 0) (v := .ref (ad 3 0)) (C := RH) (T := TH) (N := 8) hx hb hts inH hown hK hP 0 gX_0 rfl 2 (by decide) (hts _ tw_152) (fun _ h9 => h9) rfl dH_request_1 ?_
  refine lv_iload_n hx hb dH_request_4 rfl (lv_at hl 1 rfl) ?_
  refine lv_iload_n hx hb dH_request_5 rfl (lv_at hl 2 rfl) ?_
  have hFc := px_free hD hS hA
  refine va_calli (va_runV (As := [.int a0, .int a1]) (rest := []) ⟨hx, hb, hml, hown, hts⟩ (c_cell l D ca ad σ a0 a1 _ _ hw) (cwV 2 hts (gV tw_179 tw_180 tw_181 tw_5 tw_182) rfl rfl rfl (by decide +kernel) ⟨Nat.le_of_ble_eq_true rfl, Nat.le_of_ble_eq_true rfl⟩) ⟨px_blind, (px_recv hK hP gX_3 rfl), fun U hU hW => px_pre hP hK hD hE hS hFc hU hW⟩ rfl rfl hl.1 rfl (lv_room (Nat.le_of_ble_eq_true rfl)) dH_request_6 ⟨Nat.le_of_ble_eq_true rfl, Nat.le_of_ble_eq_true rfl⟩) hS (fun q _ h => hFc q h) hFc (fun r2 s1 t H locs ht hvm hw hB _ _ hS => ?_)
  obtain ⟨hP, -, hD⟩ := hB
  rw [ht] at hP
  have hD := hD.weaken (fun _ _ _ h9 => hFc _ h9)
  exact W.iret (v := r2) hx hb hr (fun t ht hW => ⟨⟨r2, s1, rfl, hw, by rw [ht]; exact hP, va_K.moved hW.alike hK, hD⟩, hS.F ht⟩) hS.2.2 dH_request_9
theorem dH_dataAt_0 : decode cH_dataAt 0 = .ok (.aload_n 0, 1) := by decide +kernel
theorem dH_dataAt_1 : decode cH_dataAt 1 = .ok (.iload_n 1, 1) := by decide +kernel
theorem dH_dataAt_2 : decode cH_dataAt 2 = .ok (.invokevirtual 65, 3) := by decide +kernel
theorem dH_dataAt_5 : decode cH_dataAt 5 = .ok (.astore_n 3, 1) := by decide +kernel
theorem dH_dataAt_6 : decode cH_dataAt 6 = .ok (.iload_n 2, 1) := by decide +kernel
theorem dH_dataAt_7 : decode cH_dataAt 7 = .ok (.ifCond .lt 11, 3) := by decide +kernel
theorem dH_dataAt_10 : decode cH_dataAt 10 = .ok (.iload_n 2, 1) := by decide +kernel
theorem dH_dataAt_11 : decode cH_dataAt 11 = .ok (.aload_n 3, 1) := by decide +kernel
theorem dH_dataAt_12 : decode cH_dataAt 12 = .ok (.getfield 181, 3) := by decide +kernel
theorem dH_dataAt_15 : decode cH_dataAt 15 = .ok (.if_icmp .lt 13, 3) := by decide +kernel
theorem dH_dataAt_18 : decode cH_dataAt 18 = .ok (.new 172, 3) := by decide +kernel
theorem dH_dataAt_21 : decode cH_dataAt 21 = .ok (.dup, 1) := by decide +kernel
theorem dH_dataAt_22 : decode cH_dataAt 22 = .ok (.ldc 184, 2) := by decide +kernel
theorem dH_dataAt_24 : decode cH_dataAt 24 = .ok (.invokespecial 176, 3) := by decide +kernel
theorem dH_dataAt_27 : decode cH_dataAt 27 = .ok (.athrow, 1) := by decide +kernel
theorem dH_dataAt_28 : decode cH_dataAt 28 = .ok (.aload_n 3, 1) := by decide +kernel
theorem dH_dataAt_29 : decode cH_dataAt 29 = .ok (.getfield 186, 3) := by decide +kernel
theorem dH_dataAt_32 : decode cH_dataAt 32 = .ok (.iload_n 2, 1) := by decide +kernel
theorem dH_dataAt_33 : decode cH_dataAt 33 = .ok (.baload, 1) := by decide +kernel
theorem dH_dataAt_34 : decode cH_dataAt 34 = .ok (.sipush 255, 3) := by decide +kernel
theorem dH_dataAt_37 : decode cH_dataAt 37 = .ok (.iand, 1) := by decide +kernel
theorem dH_dataAt_38 : decode cH_dataAt 38 = .ok (.ireturn, 1) := by decide +kernel
def wp_dataAt (post : Int32 → Sg → Prop) (px : String → Sg → Prop) (σ : Sg) (a0 : Int32) (a1 : Int32) : Prop := wp_patronOf (fun r2 s1 => (∃ j3 : Nat, r2 = some j3 ∧ j3 < 8 ∧ (((a1 < 0) → px "java/lang/IndexOutOfBoundsException" s1) ∧ (¬ (a1 < 0) → (((a1 < (sF s1 3 j3)) → (j3 < 8 ∧ (vp_in a1 232 ∧ post (((sB s1 0 j3) (a1).toNatClampNeg) &&& 255) s1))) ∧ (¬ (a1 < (sF s1 3 j3)) → px "java/lang/IndexOutOfBoundsException" s1)))))) px σ a0
set_option maxHeartbeats 4000000 in
set_option maxRecDepth 100000 in
theorem c_dataAt (l : Launch) (D : va_G) (ca : Nat → ClassId) (ad : Nat → Nat → Nat) (σ : Sg) (a0 : Int32) (a1 : Int32) (sz : Nat) (post : Int32 → Sg → Prop) (px : String → Sg → Prop) (hl0 : l.stackTraces = false) (hw : wp_dataAt post px σ a0 a1) : vx_Met l yH_dataAt wsH_dataAt ({ frames := 9, cells := 2, slots := 12, locals := 141 }) (va_Pc [.ref (ad 0 0), .int a0, .int a1] (preX D ca ad σ sz)) (va_Qi post (atX D ca ad (va_A (wX ca ad σ) sz)) (va_A (wX ca ad σ) sz)) (vx_X (fun u : String × Sg => px u.1 u.2) (atXx D ca ad (va_A (wX ca ad σ) sz)) (va_A (wX ca ad σ) sz)) 2 12 (va_A (wX ca ad σ) sz) := by
  refine vx_ofW (cc := cH_dataAt) (maxL := 4) (ret := (some .int)) (by decide) rfl ?_
  intro p e s m args below meth c s₁ B hml hexc hv
  obtain ⟨rfl, hsz, hP, hK, hD0, hE⟩ := hv
  have hx := B.exec
  have hb := B.bytes
  have hr := B.returns
  have hts : ∀ w ∈ tbG, w.before _ s = true := fun w h => atoms_spec (ws := wsH_dataAt) B.pre w (List.mem_cons_of_mem _ h)
  have hown : s.vm.findClass RH = some m.cls := findClass_of_methodNamed B.named
  have hlocks := B.notSynchronized
  subst hsz
  have hD := hD0.self (sz := s.heap.size)
  generalize hAe : va_A (wX ca ad σ) s.heap.size = A at hD hE ⊢
  have hA : ∀ q : Nat, s.heap.size ≤ q → A q := fun q h => by rw [← hAe]; exact Or.inr h
  clear hAe
  have hS : va_S A s.heap s.heap [] := va_S.rf
  have hl := lv_entry ([.ref (ad 0 0), .int a0, .int a1]) (n := 4) (Nat.le_of_ble_eq_true rfl)
  rw [lg_entry_eq]
  generalize (lg_sl ([.ref (ad 0 0), .int a0, .int a1]) ++ List.replicate (4 - (lg_sl ([.ref (ad 0 0), .int a0, .int a1])).length) Slot.unset).toArray = ls at hl ⊢
  have hl : lv_has ls 4 [(0, .ref (ad 0 0)), (1, .int a0), (2, .int a1)] := hl
  unfold wp_dataAt at hw
  have hP : va_P D clX (wX ca ad σ) s.heap := hP
  refine lv_aload_n hx hb dH_dataAt_0 rfl (lv_at hl 0 rfl) ?_
  refine lv_iload_n hx hb dH_dataAt_1 rfl (lv_at hl 1 rfl) ?_
  have hFc := px_free hD hS hA
  refine vx_calle (vx_runV (As := [.int a0]) (rest := []) ⟨hx, hb, hml, hown, hts⟩ (c_patronOf l D ca ad σ a0 _ _ _ hl0 hw) (cwV 1 hts (gV tw_309 tw_311 tp_3 tw_1 tw_312) rfl rfl rfl (by decide +kernel) ⟨Nat.le_of_ble_eq_true rfl, Nat.le_of_ble_eq_true rfl⟩) ⟨px_blind, (px_recv hK hP gX_0 rfl), fun U hU hW => px_pre hP hK hD hE hS hFc hU hW⟩ rfl rfl hl.1 rfl (lv_room (Nat.le_of_ble_eq_true rfl)) dH_dataAt_2 ⟨Nat.le_of_ble_eq_true rfl, Nat.le_of_ble_eq_true rfl⟩) hS (fun q _ h => hFc q h) hFc (fun q _ h => hFc q h) (fun E9 ce9 q9 u9 t9 H locs ht hvm hw hB _ _ hS hce hcv hcl => ?_) (fun r2 s1 t H locs ht hvm hw hB _ _ hS => ?_)
  · obtain ⟨rfl, hP, -, hD⟩ := hB
    rw [ht] at hP
    exact vx_out (fun x9 h9 => (hexc x9 h9).elim) hlocks hce hcv hcl (fun t8 h8 hv8 => ⟨u9, hw, ⟨rfl, by rw [h8]; exact hP, va_K.moved hv8 hK, hD.weaken (fun _ _ _ h7 => hFc _ h7)⟩, hS.F h8⟩) hS.2.2 (by decide) (by decide)
  obtain ⟨hP, -, hD⟩ := hB
  rw [ht] at hP
  have hD := hD.weaken (fun _ _ _ h9 => hFc _ h9)
  refine W.widen (k := 1) (n := 6) (by decide) (by decide) ?_
  obtain ⟨j3, e4, hj5, hw⟩ := hw
  subst e4
  refine lv_astore_n (lv' := [(3, .ref (ad 6 j3)), (0, .ref (ad 0 0)), (1, .int a0), (2, .int a1)]) hx hb dH_dataAt_5 rfl hl (by decide) rfl (fun ls hl => ?_)
  refine lv_iload_n hx hb dH_dataAt_6 rfl (lv_at hl 3 rfl) ?_
  refine lv_if_lt (tgt := 18) hx hb dH_dataAt_7 (by decide) (fun c6 => ?_) (fun c6 => ?_)
  · have hw := hw.1 c6
    obtain ⟨sa9, hstr⟩ := hE.str 8 _ rfl
    exact vx_throwS (names := ["java/lang/RuntimeException", "java/lang/Exception"]) hx hb hl0 hown (by decide +kernel) (by decide +kernel) (hts _ tw_313) (hts _ tw_13) hstr (hE.hat176 hts) gd_176 hE.1 hE.2.1 hS (hl.1.trans hml.symm) dH_dataAt_18 dH_dataAt_21 dH_dataAt_22 dH_dataAt_24 dH_dataAt_27 (fun x9 h9 => (hexc x9 h9).elim) (by decide) (by decide) (by decide) (by decide) hlocks (fun t hv hz hk => ⟨(_, s1), hw, ⟨rfl, hP.kept (fun k9 q9 h9 => hk _ (va_at.lt (hP k9 q9 h9))), va_K.moved hv hK, hD⟩, va_S.F2 hS hz hk⟩) hS.2.2 (by decide) (by decide)
  · have hw := hw.2 c6
    refine lv_iload_n hx hb dH_dataAt_10 rfl (lv_at hl 3 rfl) ?_
    refine lv_aload_n hx hb dH_dataAt_11 rfl (lv_at hl 0 rfl) ?_
    refine va_get (D := D) (ci := 1) (v := .int (sF s1 3 j3)) (C := RP) (T := TP) (N := 16) hx hb hts inP hown hK hP (6 + j3) (gX_6 hj5) rfl 3 (by decide) (hts _ tw_85) (fun _ h9 => h9) rfl dH_dataAt_12 ?_
    refine lv_icmp_lt (tgt := 28) hx hb dH_dataAt_15 (by decide) (fun c7 => ?_) (fun c7 => ?_)
    · have hw := hw.1 c7
      refine lv_aload_n hx hb dH_dataAt_28 rfl (lv_at hl 0 rfl) ?_
      refine va_get (D := D) (ci := 1) (v := .ref (ad 7 j3)) (C := RP) (T := TP) (N := 16) hx hb hts inP hown hK hP (6 + j3) (gX_6 hj5) rfl 1 (by decide) (hts _ tw_80) (fun _ h9 => h9) rfl dH_dataAt_29 ?_
      refine lv_iload_n hx hb dH_dataAt_32 rfl (lv_at hl 3 rfl) ?_
      obtain ⟨hb8, hw⟩ := hw
      obtain ⟨hin9, hw⟩ := hw
      refine va_bald hx hb hK hP (6 + (8 + j3)) 1 (gX_7 hb8) rfl hin9 dH_dataAt_33 ?_
      refine lv_sipush (v := 255) hx hb dH_dataAt_34 (by decide) ?_
      refine lv_iand hx hb dH_dataAt_37 ?_
      refine W.widen (k := 2) (n := 12) (by decide) (by decide) ?_
      exact vx_ret (W.iret (v := (((sB s1 0 j3) (a1).toNatClampNeg) &&& 255)) hx hb hr (fun t ht hW => ⟨⟨(((sB s1 0 j3) (a1).toNatClampNeg) &&& 255), s1, rfl, hw, by rw [ht]; exact hP, va_K.moved hW.alike hK, hD⟩, hS.F ht⟩) hS.2.2 dH_dataAt_38)
    · have hw := hw.2 c7
      obtain ⟨sa9, hstr⟩ := hE.str 8 _ rfl
      exact vx_throwS (names := ["java/lang/RuntimeException", "java/lang/Exception"]) hx hb hl0 hown (by decide +kernel) (by decide +kernel) (hts _ tw_313) (hts _ tw_13) hstr (hE.hat176 hts) gd_176 hE.1 hE.2.1 hS (hl.1.trans hml.symm) dH_dataAt_18 dH_dataAt_21 dH_dataAt_22 dH_dataAt_24 dH_dataAt_27 (fun x9 h9 => (hexc x9 h9).elim) (by decide) (by decide) (by decide) (by decide) hlocks (fun t hv hz hk => ⟨(_, s1), hw, ⟨rfl, hP.kept (fun k9 q9 h9 => hk _ (va_at.lt (hP k9 q9 h9))), va_K.moved hv hK, hD⟩, va_S.F2 hS hz hk⟩) hS.2.2 (by decide) (by decide)
theorem dH_answer_0 : decode cH_answer 0 = .ok (.aload_n 0, 1) := by decide +kernel
theorem dH_answer_1 : decode cH_answer 1 = .ok (.iload_n 1, 1) := by decide +kernel
theorem dH_answer_2 : decode cH_answer 2 = .ok (.invokevirtual 65, 3) := by decide +kernel
theorem dH_answer_5 : decode cH_answer 5 = .ok (.getfield 189, 3) := by decide +kernel
theorem dH_answer_8 : decode cH_answer 8 = .ok (.ireturn, 1) := by decide +kernel
def wp_answer (post : Int32 → Sg → Prop) (px : String → Sg → Prop) (σ : Sg) (a0 : Int32) : Prop := wp_patronOf (fun r2 s1 => (∃ j3 : Nat, r2 = some j3 ∧ j3 < 8 ∧ post (sF s1 4 j3) s1)) px σ a0
set_option maxHeartbeats 4000000 in
set_option maxRecDepth 100000 in
theorem c_answer (l : Launch) (D : va_G) (ca : Nat → ClassId) (ad : Nat → Nat → Nat) (σ : Sg) (a0 : Int32) (sz : Nat) (post : Int32 → Sg → Prop) (px : String → Sg → Prop) (hl0 : l.stackTraces = false) (hw : wp_answer post px σ a0) : vx_Met l yH_answer wsH_answer ({ frames := 9, cells := 1, slots := 6, locals := 141 }) (va_Pc [.ref (ad 0 0), .int a0] (preX D ca ad σ sz)) (va_Qi post (atX D ca ad (va_A (wX ca ad σ) sz)) (va_A (wX ca ad σ) sz)) (vx_X (fun u : String × Sg => px u.1 u.2) (atXx D ca ad (va_A (wX ca ad σ) sz)) (va_A (wX ca ad σ) sz)) 1 6 (va_A (wX ca ad σ) sz) := by
  refine vx_ofW (cc := cH_answer) (maxL := 2) (ret := (some .int)) (by decide) rfl ?_
  intro p e s m args below meth c s₁ B hml hexc hv
  obtain ⟨rfl, hsz, hP, hK, hD0, hE⟩ := hv
  have hx := B.exec
  have hb := B.bytes
  have hr := B.returns
  have hts : ∀ w ∈ tbG, w.before _ s = true := fun w h => atoms_spec (ws := wsH_answer) B.pre w (List.mem_cons_of_mem _ h)
  have hown : s.vm.findClass RH = some m.cls := findClass_of_methodNamed B.named
  have hlocks := B.notSynchronized
  subst hsz
  have hD := hD0.self (sz := s.heap.size)
  generalize hAe : va_A (wX ca ad σ) s.heap.size = A at hD hE ⊢
  have hA : ∀ q : Nat, s.heap.size ≤ q → A q := fun q h => by rw [← hAe]; exact Or.inr h
  clear hAe
  have hS : va_S A s.heap s.heap [] := va_S.rf
  have hl := lv_entry ([.ref (ad 0 0), .int a0]) (n := 2) (Nat.le_of_ble_eq_true rfl)
  rw [lg_entry_eq]
  generalize (lg_sl ([.ref (ad 0 0), .int a0]) ++ List.replicate (2 - (lg_sl ([.ref (ad 0 0), .int a0])).length) Slot.unset).toArray = ls at hl ⊢
  have hl : lv_has ls 2 [(0, .ref (ad 0 0)), (1, .int a0)] := hl
  unfold wp_answer at hw
  have hP : va_P D clX (wX ca ad σ) s.heap := hP
  refine lv_aload_n hx hb dH_answer_0 rfl (lv_at hl 0 rfl) ?_
  refine lv_iload_n hx hb dH_answer_1 rfl (lv_at hl 1 rfl) ?_
  have hFc := px_free hD hS hA
  refine vx_calle (vx_runV (As := [.int a0]) (rest := []) ⟨hx, hb, hml, hown, hts⟩ (c_patronOf l D ca ad σ a0 _ _ _ hl0 hw) (cwV 1 hts (gV tw_309 tw_311 tp_3 tw_1 tw_312) rfl rfl rfl (by decide +kernel) ⟨Nat.le_of_ble_eq_true rfl, Nat.le_of_ble_eq_true rfl⟩) ⟨px_blind, (px_recv hK hP gX_0 rfl), fun U hU hW => px_pre hP hK hD hE hS hFc hU hW⟩ rfl rfl hl.1 rfl (lv_room (Nat.le_of_ble_eq_true rfl)) dH_answer_2 ⟨Nat.le_of_ble_eq_true rfl, Nat.le_of_ble_eq_true rfl⟩) hS (fun q _ h => hFc q h) hFc (fun q _ h => hFc q h) (fun E9 ce9 q9 u9 t9 H locs ht hvm hw hB _ _ hS hce hcv hcl => ?_) (fun r2 s1 t H locs ht hvm hw hB _ _ hS => ?_)
  · obtain ⟨rfl, hP, -, hD⟩ := hB
    rw [ht] at hP
    exact vx_out (fun x9 h9 => (hexc x9 h9).elim) hlocks hce hcv hcl (fun t8 h8 hv8 => ⟨u9, hw, ⟨rfl, by rw [h8]; exact hP, va_K.moved hv8 hK, hD.weaken (fun _ _ _ h7 => hFc _ h7)⟩, hS.F h8⟩) hS.2.2 (by decide) (by decide)
  obtain ⟨hP, -, hD⟩ := hB
  rw [ht] at hP
  have hD := hD.weaken (fun _ _ _ h9 => hFc _ h9)
  refine W.widen (k := 1) (n := 6) (by decide) (by decide) ?_
  obtain ⟨j3, e4, hj5, hw⟩ := hw
  subst e4
  refine va_get (D := D) (ci := 1) (v := .int (sF s1 4 j3)) (C := RP) (T := TP) (N := 16) hx hb hts inP hown hK hP (6 + j3) (gX_6 hj5) rfl 4 (by decide) (hts _ tw_87) (fun _ h9 => h9) rfl dH_answer_5 ?_
  refine W.widen (k := 1) (n := 6) (by decide) (by decide) ?_
  exact vx_ret (W.iret (v := (sF s1 4 j3)) hx hb hr (fun t ht hW => ⟨⟨(sF s1 4 j3), s1, rfl, hw, by rw [ht]; exact hP, va_K.moved hW.alike hK, hD⟩, hS.F ht⟩) hS.2.2 dH_answer_8)
theorem dH_answerAt_0 : decode cH_answerAt 0 = .ok (.aload_n 0, 1) := by decide +kernel
theorem dH_answerAt_1 : decode cH_answerAt 1 = .ok (.iload_n 1, 1) := by decide +kernel
theorem dH_answerAt_2 : decode cH_answerAt 2 = .ok (.invokevirtual 65, 3) := by decide +kernel
theorem dH_answerAt_5 : decode cH_answerAt 5 = .ok (.astore_n 3, 1) := by decide +kernel
theorem dH_answerAt_6 : decode cH_answerAt 6 = .ok (.iload_n 2, 1) := by decide +kernel
theorem dH_answerAt_7 : decode cH_answerAt 7 = .ok (.ifCond .lt 11, 3) := by decide +kernel
theorem dH_answerAt_10 : decode cH_answerAt 10 = .ok (.iload_n 2, 1) := by decide +kernel
theorem dH_answerAt_11 : decode cH_answerAt 11 = .ok (.aload_n 3, 1) := by decide +kernel
theorem dH_answerAt_12 : decode cH_answerAt 12 = .ok (.getfield 189, 3) := by decide +kernel
theorem dH_answerAt_15 : decode cH_answerAt 15 = .ok (.if_icmp .lt 13, 3) := by decide +kernel
theorem dH_answerAt_18 : decode cH_answerAt 18 = .ok (.new 172, 3) := by decide +kernel
theorem dH_answerAt_21 : decode cH_answerAt 21 = .ok (.dup, 1) := by decide +kernel
theorem dH_answerAt_22 : decode cH_answerAt 22 = .ok (.ldc 192, 2) := by decide +kernel
theorem dH_answerAt_24 : decode cH_answerAt 24 = .ok (.invokespecial 176, 3) := by decide +kernel
theorem dH_answerAt_27 : decode cH_answerAt 27 = .ok (.athrow, 1) := by decide +kernel
theorem dH_answerAt_28 : decode cH_answerAt 28 = .ok (.aload_n 3, 1) := by decide +kernel
theorem dH_answerAt_29 : decode cH_answerAt 29 = .ok (.getfield 194, 3) := by decide +kernel
theorem dH_answerAt_32 : decode cH_answerAt 32 = .ok (.iload_n 2, 1) := by decide +kernel
theorem dH_answerAt_33 : decode cH_answerAt 33 = .ok (.baload, 1) := by decide +kernel
theorem dH_answerAt_34 : decode cH_answerAt 34 = .ok (.sipush 255, 3) := by decide +kernel
theorem dH_answerAt_37 : decode cH_answerAt 37 = .ok (.iand, 1) := by decide +kernel
theorem dH_answerAt_38 : decode cH_answerAt 38 = .ok (.ireturn, 1) := by decide +kernel
def wp_answerAt (post : Int32 → Sg → Prop) (px : String → Sg → Prop) (σ : Sg) (a0 : Int32) (a1 : Int32) : Prop := wp_patronOf (fun r2 s1 => (∃ j3 : Nat, r2 = some j3 ∧ j3 < 8 ∧ (((a1 < 0) → px "java/lang/IndexOutOfBoundsException" s1) ∧ (¬ (a1 < 0) → (((a1 < (sF s1 4 j3)) → (j3 < 8 ∧ (vp_in a1 134 ∧ post (((sB s1 1 j3) (a1).toNatClampNeg) &&& 255) s1))) ∧ (¬ (a1 < (sF s1 4 j3)) → px "java/lang/IndexOutOfBoundsException" s1)))))) px σ a0
set_option maxHeartbeats 4000000 in
set_option maxRecDepth 100000 in
theorem c_answerAt (l : Launch) (D : va_G) (ca : Nat → ClassId) (ad : Nat → Nat → Nat) (σ : Sg) (a0 : Int32) (a1 : Int32) (sz : Nat) (post : Int32 → Sg → Prop) (px : String → Sg → Prop) (hl0 : l.stackTraces = false) (hw : wp_answerAt post px σ a0 a1) : vx_Met l yH_answerAt wsH_answerAt ({ frames := 9, cells := 2, slots := 12, locals := 141 }) (va_Pc [.ref (ad 0 0), .int a0, .int a1] (preX D ca ad σ sz)) (va_Qi post (atX D ca ad (va_A (wX ca ad σ) sz)) (va_A (wX ca ad σ) sz)) (vx_X (fun u : String × Sg => px u.1 u.2) (atXx D ca ad (va_A (wX ca ad σ) sz)) (va_A (wX ca ad σ) sz)) 2 12 (va_A (wX ca ad σ) sz) := by
  refine vx_ofW (cc := cH_answerAt) (maxL := 4) (ret := (some .int)) (by decide) rfl ?_
  intro p e s m args below meth c s₁ B hml hexc hv
  obtain ⟨rfl, hsz, hP, hK, hD0, hE⟩ := hv
  have hx := B.exec
  have hb := B.bytes
  have hr := B.returns
  have hts : ∀ w ∈ tbG, w.before _ s = true := fun w h => atoms_spec (ws := wsH_answerAt) B.pre w (List.mem_cons_of_mem _ h)
  have hown : s.vm.findClass RH = some m.cls := findClass_of_methodNamed B.named
  have hlocks := B.notSynchronized
  subst hsz
  have hD := hD0.self (sz := s.heap.size)
  generalize hAe : va_A (wX ca ad σ) s.heap.size = A at hD hE ⊢
  have hA : ∀ q : Nat, s.heap.size ≤ q → A q := fun q h => by rw [← hAe]; exact Or.inr h
  clear hAe
  have hS : va_S A s.heap s.heap [] := va_S.rf
  have hl := lv_entry ([.ref (ad 0 0), .int a0, .int a1]) (n := 4) (Nat.le_of_ble_eq_true rfl)
  rw [lg_entry_eq]
  generalize (lg_sl ([.ref (ad 0 0), .int a0, .int a1]) ++ List.replicate (4 - (lg_sl ([.ref (ad 0 0), .int a0, .int a1])).length) Slot.unset).toArray = ls at hl ⊢
  have hl : lv_has ls 4 [(0, .ref (ad 0 0)), (1, .int a0), (2, .int a1)] := hl
  unfold wp_answerAt at hw
  have hP : va_P D clX (wX ca ad σ) s.heap := hP
  refine lv_aload_n hx hb dH_answerAt_0 rfl (lv_at hl 0 rfl) ?_
  refine lv_iload_n hx hb dH_answerAt_1 rfl (lv_at hl 1 rfl) ?_
  have hFc := px_free hD hS hA
  refine vx_calle (vx_runV (As := [.int a0]) (rest := []) ⟨hx, hb, hml, hown, hts⟩ (c_patronOf l D ca ad σ a0 _ _ _ hl0 hw) (cwV 1 hts (gV tw_309 tw_311 tp_3 tw_1 tw_312) rfl rfl rfl (by decide +kernel) ⟨Nat.le_of_ble_eq_true rfl, Nat.le_of_ble_eq_true rfl⟩) ⟨px_blind, (px_recv hK hP gX_0 rfl), fun U hU hW => px_pre hP hK hD hE hS hFc hU hW⟩ rfl rfl hl.1 rfl (lv_room (Nat.le_of_ble_eq_true rfl)) dH_answerAt_2 ⟨Nat.le_of_ble_eq_true rfl, Nat.le_of_ble_eq_true rfl⟩) hS (fun q _ h => hFc q h) hFc (fun q _ h => hFc q h) (fun E9 ce9 q9 u9 t9 H locs ht hvm hw hB _ _ hS hce hcv hcl => ?_) (fun r2 s1 t H locs ht hvm hw hB _ _ hS => ?_)
  · obtain ⟨rfl, hP, -, hD⟩ := hB
    rw [ht] at hP
    exact vx_out (fun x9 h9 => (hexc x9 h9).elim) hlocks hce hcv hcl (fun t8 h8 hv8 => ⟨u9, hw, ⟨rfl, by rw [h8]; exact hP, va_K.moved hv8 hK, hD.weaken (fun _ _ _ h7 => hFc _ h7)⟩, hS.F h8⟩) hS.2.2 (by decide) (by decide)
  obtain ⟨hP, -, hD⟩ := hB
  rw [ht] at hP
  have hD := hD.weaken (fun _ _ _ h9 => hFc _ h9)
  refine W.widen (k := 1) (n := 6) (by decide) (by decide) ?_
  obtain ⟨j3, e4, hj5, hw⟩ := hw
  subst e4
  refine lv_astore_n (lv' := [(3, .ref (ad 6 j3)), (0, .ref (ad 0 0)), (1, .int a0), (2, .int a1)]) hx hb dH_answerAt_5 rfl hl (by decide) rfl (fun ls hl => ?_)
  refine lv_iload_n hx hb dH_answerAt_6 rfl (lv_at hl 3 rfl) ?_
  refine lv_if_lt (tgt := 18) hx hb dH_answerAt_7 (by decide) (fun c6 => ?_) (fun c6 => ?_)
  · have hw := hw.1 c6
    obtain ⟨sa9, hstr⟩ := hE.str 9 _ rfl
    exact vx_throwS (names := ["java/lang/RuntimeException", "java/lang/Exception"]) hx hb hl0 hown (by decide +kernel) (by decide +kernel) (hts _ tw_313) (hts _ tw_13) hstr (hE.hat176 hts) gd_176 hE.1 hE.2.1 hS (hl.1.trans hml.symm) dH_answerAt_18 dH_answerAt_21 dH_answerAt_22 dH_answerAt_24 dH_answerAt_27 (fun x9 h9 => (hexc x9 h9).elim) (by decide) (by decide) (by decide) (by decide) hlocks (fun t hv hz hk => ⟨(_, s1), hw, ⟨rfl, hP.kept (fun k9 q9 h9 => hk _ (va_at.lt (hP k9 q9 h9))), va_K.moved hv hK, hD⟩, va_S.F2 hS hz hk⟩) hS.2.2 (by decide) (by decide)
  · have hw := hw.2 c6
    refine lv_iload_n hx hb dH_answerAt_10 rfl (lv_at hl 3 rfl) ?_
    refine lv_aload_n hx hb dH_answerAt_11 rfl (lv_at hl 0 rfl) ?_
    refine va_get (D := D) (ci := 1) (v := .int (sF s1 4 j3)) (C := RP) (T := TP) (N := 16) hx hb hts inP hown hK hP (6 + j3) (gX_6 hj5) rfl 4 (by decide) (hts _ tw_87) (fun _ h9 => h9) rfl dH_answerAt_12 ?_
    refine lv_icmp_lt (tgt := 28) hx hb dH_answerAt_15 (by decide) (fun c7 => ?_) (fun c7 => ?_)
    · have hw := hw.1 c7
      refine lv_aload_n hx hb dH_answerAt_28 rfl (lv_at hl 0 rfl) ?_
      refine va_get (D := D) (ci := 1) (v := .ref (ad 8 j3)) (C := RP) (T := TP) (N := 16) hx hb hts inP hown hK hP (6 + j3) (gX_6 hj5) rfl 2 (by decide) (hts _ tw_82) (fun _ h9 => h9) rfl dH_answerAt_29 ?_
      refine lv_iload_n hx hb dH_answerAt_32 rfl (lv_at hl 3 rfl) ?_
      obtain ⟨hb8, hw⟩ := hw
      obtain ⟨hin9, hw⟩ := hw
      refine va_bald hx hb hK hP (6 + (8 + (8 + j3))) 1 (gX_8 hb8) rfl hin9 dH_answerAt_33 ?_
      refine lv_sipush (v := 255) hx hb dH_answerAt_34 (by decide) ?_
      refine lv_iand hx hb dH_answerAt_37 ?_
      refine W.widen (k := 2) (n := 12) (by decide) (by decide) ?_
      exact vx_ret (W.iret (v := (((sB s1 1 j3) (a1).toNatClampNeg) &&& 255)) hx hb hr (fun t ht hW => ⟨⟨(((sB s1 1 j3) (a1).toNatClampNeg) &&& 255), s1, rfl, hw, by rw [ht]; exact hP, va_K.moved hW.alike hK, hD⟩, hS.F ht⟩) hS.2.2 dH_answerAt_38)
    · have hw := hw.2 c7
      obtain ⟨sa9, hstr⟩ := hE.str 9 _ rfl
      exact vx_throwS (names := ["java/lang/RuntimeException", "java/lang/Exception"]) hx hb hl0 hown (by decide +kernel) (by decide +kernel) (hts _ tw_313) (hts _ tw_13) hstr (hE.hat176 hts) gd_176 hE.1 hE.2.1 hS (hl.1.trans hml.symm) dH_answerAt_18 dH_answerAt_21 dH_answerAt_22 dH_answerAt_24 dH_answerAt_27 (fun x9 h9 => (hexc x9 h9).elim) (by decide) (by decide) (by decide) (by decide) hlocks (fun t hv hz hk => ⟨(_, s1), hw, ⟨rfl, hP.kept (fun k9 q9 h9 => hk _ (va_at.lt (hP k9 q9 h9))), va_K.moved hv hK, hD⟩, va_S.F2 hS hz hk⟩) hS.2.2 (by decide) (by decide)
end
section
theorem dL_size_0 : decode cL_size 0 = .ok (.aload_n 0, 1) := by decide +kernel
theorem dL_size_1 : decode cL_size 1 = .ok (.getfield 48, 3) := by decide +kernel
theorem dL_size_4 : decode cL_size 4 = .ok (.ireturn, 1) := by decide +kernel
def wp_size (post : Int32 → Sg → Prop) (σ : Sg)  : Prop := post (nI (sN σ)) σ
set_option maxHeartbeats 4000000 in
set_option maxRecDepth 100000 in
theorem c_size (l : Launch) (D : va_G) (ca : Nat → ClassId) (ad : Nat → Nat → Nat) (σ : Sg)  (sz : Nat) (post : Int32 → Sg → Prop) (hw : wp_size post σ ) : Met l yL_size wsL_size ({ frames := 0, cells := 0, slots := 0, locals := 0 }) (va_Pc [.ref (ad 2 0)] (preX D ca ad σ sz)) (va_Qi post (atX D ca ad (va_A (wX ca ad σ) sz)) (va_A (wX ca ad σ) sz)) 0 0 (va_A (wX ca ad σ) sz) := by
  refine Met.ofW (cc := cL_size) (maxL := 1) (ret := (some .int)) (by decide) rfl ?_
  intro p e s m args below meth c s₁ B hml hv
  obtain ⟨rfl, hsz, hP, hK, hD0, hE⟩ := hv
  have hx := B.exec
  have hb := B.bytes
  have hr := B.returns
  have hts : ∀ w ∈ tbG, w.before _ s = true := fun w h => atoms_spec (ws := wsL_size) B.pre w (List.mem_cons_of_mem _ h)
  have hown : s.vm.findClass RL = some m.cls := findClass_of_methodNamed B.named
  have hlocks := B.notSynchronized
  subst hsz
  have hD := hD0.self (sz := s.heap.size)
  generalize hAe : va_A (wX ca ad σ) s.heap.size = A at hD hE ⊢
  have hA : ∀ q : Nat, s.heap.size ≤ q → A q := fun q h => by rw [← hAe]; exact Or.inr h
  clear hAe
  have hS : va_S A s.heap s.heap [] := va_S.rf
  have hl := lv_entry ([.ref (ad 2 0)]) (n := 1) (Nat.le_of_ble_eq_true rfl)
  rw [lg_entry_eq]
  generalize (lg_sl ([.ref (ad 2 0)]) ++ List.replicate (1 - (lg_sl ([.ref (ad 2 0)])).length) Slot.unset).toArray = ls at hl ⊢
  have hl : lv_has ls 1 [(0, .ref (ad 2 0))] := hl
  unfold wp_size at hw
  have hP : va_P D clX (wX ca ad σ) s.heap := hP
  refine lv_aload_n hx hb dL_size_0 rfl (lv_at hl 0 rfl) ?_
  refine va_get (D := D) (ci := 4) (v := .int (nI (sN σ))) (C := RL) (T := TL) (N := 3) hx hb hts inL hown hK hP 2 gX_2 rfl 2 (by decide) (hts _ tw_46) (fun _ h9 => h9) rfl dL_size_1 ?_
  exact W.iret (v := (nI (sN σ))) hx hb hr (fun t ht hW => ⟨⟨(nI (sN σ)), σ, rfl, hw, by rw [ht]; exact hP, va_K.moved hW.alike hK, hD⟩, hS.F ht⟩) hS.2.2 dL_size_4
theorem dC_checkIndex_0 : decode cC_checkIndex 0 = .ok (.iload_n 0, 1) := by decide +kernel
theorem dC_checkIndex_1 : decode cC_checkIndex 1 = .ok (.ifCond .lt 8, 3) := by decide +kernel
theorem dC_checkIndex_4 : decode cC_checkIndex 4 = .ok (.iload_n 0, 1) := by decide +kernel
theorem dC_checkIndex_5 : decode cC_checkIndex 5 = .ok (.iload_n 1, 1) := by decide +kernel
theorem dC_checkIndex_6 : decode cC_checkIndex 6 = .ok (.if_icmp .lt 10, 3) := by decide +kernel
theorem dC_checkIndex_9 : decode cC_checkIndex 9 = .ok (.aload_n 2, 1) := by decide +kernel
theorem dC_checkIndex_10 : decode cC_checkIndex 10 = .ok (.iload_n 0, 1) := by decide +kernel
theorem dC_checkIndex_11 : decode cC_checkIndex 11 = .ok (.iload_n 1, 1) := by decide +kernel
theorem dC_checkIndex_12 : decode cC_checkIndex 12 = .ok (.invokestatic 95, 3) := by decide +kernel
theorem dC_checkIndex_15 : decode cC_checkIndex 15 = .ok (.athrow, 1) := by decide +kernel
theorem dC_checkIndex_16 : decode cC_checkIndex 16 = .ok (.iload_n 0, 1) := by decide +kernel
theorem dC_checkIndex_17 : decode cC_checkIndex 17 = .ok (.ireturn, 1) := by decide +kernel
def wp_checkIndex3 (post : Int32 → Sg → Prop) (σ : Sg) (a0 : Int32) (a1 : Int32) : Prop := (((a0 < 0) → False) ∧ (¬ (a0 < 0) → (((a0 < a1) → post a0 σ) ∧ (¬ (a0 < a1) → False))))
set_option maxHeartbeats 4000000 in
set_option maxRecDepth 100000 in
theorem c_checkIndex3 (l : Launch) (D : va_G) (ca : Nat → ClassId) (ad : Nat → Nat → Nat) (σ : Sg) (a0 : Int32) (a1 : Int32) (sz : Nat) (post : Int32 → Sg → Prop) (hw : wp_checkIndex3 post σ a0 a1) : Met l yC_checkIndex wsC_checkIndex ({ frames := 0, cells := 0, slots := 0, locals := 0 }) (va_Pc [.int a0, .int a1, .null] (preX D ca ad σ sz)) (va_Qi post (atX D ca ad (va_A (wX ca ad σ) sz)) (va_A (wX ca ad σ) sz)) 0 0 (va_A (wX ca ad σ) sz) := by
  refine Met.ofW (cc := cC_checkIndex) (maxL := 3) (ret := (some .int)) (by decide) rfl ?_
  intro p e s m args below meth c s₁ B hml hv
  obtain ⟨rfl, hsz, hP, hK, hD0, hE⟩ := hv
  have hx := B.exec
  have hb := B.bytes
  have hr := B.returns
  have hts : ∀ w ∈ tbG, w.before _ s = true := fun w h => atoms_spec (ws := wsC_checkIndex) B.pre w (List.mem_cons_of_mem _ h)
  have hown : s.vm.findClass RC = some m.cls := findClass_of_methodNamed B.named
  have hlocks := B.notSynchronized
  subst hsz
  have hD := hD0.self (sz := s.heap.size)
  generalize hAe : va_A (wX ca ad σ) s.heap.size = A at hD hE ⊢
  have hA : ∀ q : Nat, s.heap.size ≤ q → A q := fun q h => by rw [← hAe]; exact Or.inr h
  clear hAe
  have hS : va_S A s.heap s.heap [] := va_S.rf
  have hl := lv_entry ([.int a0, .int a1, .null]) (n := 3) (Nat.le_of_ble_eq_true rfl)
  rw [lg_entry_eq]
  generalize (lg_sl ([.int a0, .int a1, .null]) ++ List.replicate (3 - (lg_sl ([.int a0, .int a1, .null])).length) Slot.unset).toArray = ls at hl ⊢
  have hl : lv_has ls 3 [(0, .int a0), (1, .int a1), (2, .null)] := hl
  unfold wp_checkIndex3 at hw
  have hP : va_P D clX (wX ca ad σ) s.heap := hP
  refine lv_iload_n hx hb dC_checkIndex_0 rfl (lv_at hl 0 rfl) ?_
  refine lv_if_lt (tgt := 9) hx hb dC_checkIndex_1 (by decide) (fun c1 => ?_) (fun c1 => ?_)
  · have hw := hw.1 c1
    exact hw.elim
  · have hw := hw.2 c1
    refine lv_iload_n hx hb dC_checkIndex_4 rfl (lv_at hl 0 rfl) ?_
    refine lv_iload_n hx hb dC_checkIndex_5 rfl (lv_at hl 1 rfl) ?_
    refine lv_icmp_lt (tgt := 16) hx hb dC_checkIndex_6 (by decide) (fun c2 => ?_) (fun c2 => ?_)
    · have hw := hw.1 c2
      refine lv_iload_n hx hb dC_checkIndex_16 rfl (lv_at hl 0 rfl) ?_
      exact W.iret (v := a0) hx hb hr (fun t ht hW => ⟨⟨a0, σ, rfl, hw, by rw [ht]; exact hP, va_K.moved hW.alike hK, hD⟩, hS.F ht⟩) hS.2.2 dC_checkIndex_17
    · have hw := hw.2 c2
      exact hw.elim
theorem dO_checkIndex_0 : decode cO_checkIndex 0 = .ok (.iload_n 0, 1) := by decide +kernel
theorem dO_checkIndex_1 : decode cO_checkIndex 1 = .ok (.iload_n 1, 1) := by decide +kernel
theorem dO_checkIndex_2 : decode cO_checkIndex 2 = .ok (.aconst_null, 1) := by decide +kernel
theorem dO_checkIndex_3 : decode cO_checkIndex 3 = .ok (.invokestatic 105, 3) := by decide +kernel
theorem dO_checkIndex_6 : decode cO_checkIndex 6 = .ok (.ireturn, 1) := by decide +kernel
def wp_checkIndex2 (post : Int32 → Sg → Prop) (σ : Sg) (a0 : Int32) (a1 : Int32) : Prop := wp_checkIndex3 (fun r2 s1 => post r2 s1) σ a0 a1
set_option maxHeartbeats 4000000 in
set_option maxRecDepth 100000 in
theorem c_checkIndex2 (l : Launch) (D : va_G) (ca : Nat → ClassId) (ad : Nat → Nat → Nat) (σ : Sg) (a0 : Int32) (a1 : Int32) (sz : Nat) (post : Int32 → Sg → Prop) (hw : wp_checkIndex2 post σ a0 a1) : Met l yO_checkIndex wsO_checkIndex ({ frames := 1, cells := 0, slots := 0, locals := 22 }) (va_Pc [.int a0, .int a1] (preX D ca ad σ sz)) (va_Qi post (atX D ca ad (va_A (wX ca ad σ) sz)) (va_A (wX ca ad σ) sz)) 0 0 (va_A (wX ca ad σ) sz) := by
  refine Met.ofW (cc := cO_checkIndex) (maxL := 2) (ret := (some .int)) (by decide) rfl ?_
  intro p e s m args below meth c s₁ B hml hv
  obtain ⟨rfl, hsz, hP, hK, hD0, hE⟩ := hv
  have hx := B.exec
  have hb := B.bytes
  have hr := B.returns
  have hts : ∀ w ∈ tbG, w.before _ s = true := fun w h => atoms_spec (ws := wsO_checkIndex) B.pre w (List.mem_cons_of_mem _ h)
  have hown : s.vm.findClass RO = some m.cls := findClass_of_methodNamed B.named
  have hlocks := B.notSynchronized
  subst hsz
  have hD := hD0.self (sz := s.heap.size)
  generalize hAe : va_A (wX ca ad σ) s.heap.size = A at hD hE ⊢
  have hA : ∀ q : Nat, s.heap.size ≤ q → A q := fun q h => by rw [← hAe]; exact Or.inr h
  clear hAe
  have hS : va_S A s.heap s.heap [] := va_S.rf
  have hl := lv_entry ([.int a0, .int a1]) (n := 2) (Nat.le_of_ble_eq_true rfl)
  rw [lg_entry_eq]
  generalize (lg_sl ([.int a0, .int a1]) ++ List.replicate (2 - (lg_sl ([.int a0, .int a1])).length) Slot.unset).toArray = ls at hl ⊢
  have hl : lv_has ls 2 [(0, .int a0), (1, .int a1)] := hl
  unfold wp_checkIndex2 at hw
  have hP : va_P D clX (wX ca ad σ) s.heap := hP
  refine lv_iload_n hx hb dO_checkIndex_0 rfl (lv_at hl 0 rfl) ?_
  refine lv_iload_n hx hb dO_checkIndex_1 rfl (lv_at hl 1 rfl) ?_
  refine lv_null hx hb dO_checkIndex_2 ?_
  have hFc := px_free hD hS hA
  refine va_calli (va_runS (As := [.int a0, .int a1, .null]) (rest := []) ⟨hx, hb, hml, hown, hts⟩ (c_checkIndex3 l D ca ad σ a0 a1 _ _ hw) (va_cwS 3 hts (gS tw_577 tw_578 tw_20 tw_579) rfl rfl rfl (by decide +kernel) ⟨Nat.le_of_ble_eq_true rfl, Nat.le_of_ble_eq_true rfl⟩) ⟨px_blind, fun U hU hW => px_pre hP hK hD hE hS hFc hU hW⟩ rfl rfl hl.1 rfl (lv_room (Nat.le_of_ble_eq_true rfl)) dO_checkIndex_3 ⟨Nat.le_of_ble_eq_true rfl, Nat.le_of_ble_eq_true rfl⟩) hS (fun q _ h => hFc q h) hFc (fun r2 s1 t H locs ht hvm hw hB _ _ hS => ?_)
  obtain ⟨hP, -, hD⟩ := hB
  rw [ht] at hP
  have hD := hD.weaken (fun _ _ _ h9 => hFc _ h9)
  exact W.iret (v := r2) hx hb hr (fun t ht hW => ⟨⟨r2, s1, rfl, hw, by rw [ht]; exact hP, va_K.moved hW.alike hK, hD⟩, hS.F ht⟩) hS.2.2 dO_checkIndex_6
theorem dL_elementData_0 : decode cL_elementData 0 = .ok (.aload_n 0, 1) := by decide +kernel
theorem dL_elementData_1 : decode cL_elementData 1 = .ok (.getfield 9, 3) := by decide +kernel
theorem dL_elementData_4 : decode cL_elementData 4 = .ok (.iload_n 1, 1) := by decide +kernel
theorem dL_elementData_5 : decode cL_elementData 5 = .ok (.aaload, 1) := by decide +kernel
theorem dL_elementData_6 : decode cL_elementData 6 = .ok (.areturn, 1) := by decide +kernel
def wp_elementData (post : Option Nat → Sg → Prop) (σ : Sg) (a0 : Int32) : Prop := (sC σ ≠ 0 ∧ vp_in a0 (sC σ) ∧ (a0).toNatClampNeg < sN σ ∧ post (some ((a0).toNatClampNeg)) σ)
set_option maxHeartbeats 4000000 in
set_option maxRecDepth 100000 in
theorem c_elementData (l : Launch) (D : va_G) (ca : Nat → ClassId) (ad : Nat → Nat → Nat) (σ : Sg) (a0 : Int32) (sz : Nat) (post : Option Nat → Sg → Prop) (hw : wp_elementData post σ a0) : Met l yL_elementData wsL_elementData ({ frames := 0, cells := 0, slots := 0, locals := 0 }) (va_Pc [.ref (ad 2 0), .int a0] (preX D ca ad σ sz)) (va_Qe (ad 10) post (atX D ca ad (va_A (wX ca ad σ) sz)) (va_A (wX ca ad σ) sz)) 0 0 (va_A (wX ca ad σ) sz) := by
  refine Met.ofW (cc := cL_elementData) (maxL := 2) (ret := (some (.object "java/lang/Object"))) (by decide) rfl ?_
  intro p e s m args below meth c s₁ B hml hv
  obtain ⟨rfl, hsz, hP, hK, hD0, hE⟩ := hv
  have hx := B.exec
  have hb := B.bytes
  have hr := B.returns
  have hts : ∀ w ∈ tbG, w.before _ s = true := fun w h => atoms_spec (ws := wsL_elementData) B.pre w (List.mem_cons_of_mem _ h)
  have hown : s.vm.findClass RL = some m.cls := findClass_of_methodNamed B.named
  have hlocks := B.notSynchronized
  subst hsz
  have hD := hD0.self (sz := s.heap.size)
  generalize hAe : va_A (wX ca ad σ) s.heap.size = A at hD hE ⊢
  have hA : ∀ q : Nat, s.heap.size ≤ q → A q := fun q h => by rw [← hAe]; exact Or.inr h
  clear hAe
  have hS : va_S A s.heap s.heap [] := va_S.rf
  have hl := lv_entry ([.ref (ad 2 0), .int a0]) (n := 2) (Nat.le_of_ble_eq_true rfl)
  rw [lg_entry_eq]
  generalize (lg_sl ([.ref (ad 2 0), .int a0]) ++ List.replicate (2 - (lg_sl ([.ref (ad 2 0), .int a0])).length) Slot.unset).toArray = ls at hl ⊢
  have hl : lv_has ls 2 [(0, .ref (ad 2 0)), (1, .int a0)] := hl
  unfold wp_elementData at hw
  have hP : va_P D clX (wX ca ad σ) s.heap := hP
  refine lv_aload_n hx hb dL_elementData_0 rfl (lv_at hl 0 rfl) ?_
  refine va_get (D := D) (ci := 4) (v := .ref (ad 9 0)) (C := RL) (T := TL) (N := 3) hx hb hts inL hown hK hP 2 gX_2 rfl 1 (by decide) (hts _ tw_45) (fun _ h9 => h9) rfl dL_elementData_1 ?_
  refine lv_iload_n hx hb dL_elementData_4 rfl (lv_at hl 1 rfl) ?_
  obtain ⟨h03, hin1, hj4, hw⟩ := hw
  refine va_aldq hx hb hK hP (6 + (8 + (8 + (8 + (sN σ + 0))))) 3 (gX_9 h03) rfl hin1 dL_elementData_5 ?_
  rw [eD_in hj4]
  exact W.aret (v := va_re (ad 10) (some ((a0).toNatClampNeg))) (rt := .object "java/lang/Object") hx hb hr (Or.inl ⟨_, rfl⟩) (va_re_or _ _) (fun t ht hW => ⟨⟨(some ((a0).toNatClampNeg)), σ, rfl, hw, by rw [ht]; exact hP, va_K.moved hW.alike hK, hD⟩, hS.F ht⟩) hS.2.2 dL_elementData_6
theorem dL_get_0 : decode cL_get 0 = .ok (.iload_n 1, 1) := by decide +kernel
theorem dL_get_1 : decode cL_get 1 = .ok (.aload_n 0, 1) := by decide +kernel
theorem dL_get_2 : decode cL_get 2 = .ok (.getfield 48, 3) := by decide +kernel
theorem dL_get_5 : decode cL_get 5 = .ok (.invokestatic 118, 3) := by decide +kernel
theorem dL_get_8 : decode cL_get 8 = .ok (.pop, 1) := by decide +kernel
theorem dL_get_9 : decode cL_get 9 = .ok (.aload_n 0, 1) := by decide +kernel
theorem dL_get_10 : decode cL_get 10 = .ok (.iload_n 1, 1) := by decide +kernel
theorem dL_get_11 : decode cL_get 11 = .ok (.invokevirtual 123, 3) := by decide +kernel
theorem dL_get_14 : decode cL_get 14 = .ok (.areturn, 1) := by decide +kernel
def wp_get (post : Option Nat → Sg → Prop) (σ : Sg) (a0 : Int32) : Prop := wp_checkIndex2 (fun r2 s1 => wp_elementData (fun r4 s3 => (∃ j5 : Nat, r4 = some j5 ∧ j5 < sN s3 ∧ post (some j5) s3)) s1 a0) σ a0 (nI (sN σ))
set_option maxHeartbeats 4000000 in
set_option maxRecDepth 100000 in
theorem c_get (l : Launch) (D : va_G) (ca : Nat → ClassId) (ad : Nat → Nat → Nat) (σ : Sg) (a0 : Int32) (sz : Nat) (post : Option Nat → Sg → Prop) (hw : wp_get post σ a0) : Met l yL_get wsL_get ({ frames := 2, cells := 0, slots := 0, locals := 43 }) (va_Pc [.ref (ad 2 0), .int a0] (preX D ca ad σ sz)) (va_Qe (ad 10) post (atX D ca ad (va_A (wX ca ad σ) sz)) (va_A (wX ca ad σ) sz)) 0 0 (va_A (wX ca ad σ) sz) := by
  refine Met.ofW (cc := cL_get) (maxL := 2) (ret := (some (.object "java/lang/Object"))) (by decide) rfl ?_
  intro p e s m args below meth c s₁ B hml hv
  obtain ⟨rfl, hsz, hP, hK, hD0, hE⟩ := hv
  have hx := B.exec
  have hb := B.bytes
  have hr := B.returns
  have hts : ∀ w ∈ tbG, w.before _ s = true := fun w h => atoms_spec (ws := wsL_get) B.pre w (List.mem_cons_of_mem _ h)
  have hown : s.vm.findClass RL = some m.cls := findClass_of_methodNamed B.named
  have hlocks := B.notSynchronized
  subst hsz
  have hD := hD0.self (sz := s.heap.size)
  generalize hAe : va_A (wX ca ad σ) s.heap.size = A at hD hE ⊢
  have hA : ∀ q : Nat, s.heap.size ≤ q → A q := fun q h => by rw [← hAe]; exact Or.inr h
  clear hAe
  have hS : va_S A s.heap s.heap [] := va_S.rf
  have hl := lv_entry ([.ref (ad 2 0), .int a0]) (n := 2) (Nat.le_of_ble_eq_true rfl)
  rw [lg_entry_eq]
  generalize (lg_sl ([.ref (ad 2 0), .int a0]) ++ List.replicate (2 - (lg_sl ([.ref (ad 2 0), .int a0])).length) Slot.unset).toArray = ls at hl ⊢
  have hl : lv_has ls 2 [(0, .ref (ad 2 0)), (1, .int a0)] := hl
  unfold wp_get at hw
  have hP : va_P D clX (wX ca ad σ) s.heap := hP
  refine lv_iload_n hx hb dL_get_0 rfl (lv_at hl 1 rfl) ?_
  refine lv_aload_n hx hb dL_get_1 rfl (lv_at hl 0 rfl) ?_
  refine va_get (D := D) (ci := 4) (v := .int (nI (sN σ))) (C := RL) (T := TL) (N := 3) hx hb hts inL hown hK hP 2 gX_2 rfl 2 (by decide) (hts _ tw_46) (fun _ h9 => h9) rfl dL_get_2 ?_
  have hFc := px_free hD hS hA
  refine va_calli (va_runS (As := [.int a0, .int (nI (sN σ))]) (rest := []) ⟨hx, hb, hml, hown, hts⟩ (c_checkIndex2 l D ca ad σ a0 (nI (sN σ)) _ _ hw) (va_cwS 2 hts (gS tw_574 tw_575 tw_19 tw_576) rfl rfl rfl (by decide +kernel) ⟨Nat.le_of_ble_eq_true rfl, Nat.le_of_ble_eq_true rfl⟩) ⟨px_blind, fun U hU hW => px_pre hP hK hD hE hS hFc hU hW⟩ rfl rfl hl.1 rfl (lv_room (Nat.le_of_ble_eq_true rfl)) dL_get_5 ⟨Nat.le_of_ble_eq_true rfl, Nat.le_of_ble_eq_true rfl⟩) hS (fun q _ h => hFc q h) hFc (fun r2 s1 t H locs ht hvm hw hB _ _ hS => ?_)
  obtain ⟨hP, -, hD⟩ := hB
  rw [ht] at hP
  have hD := hD.weaken (fun _ _ _ h9 => hFc _ h9)
  refine lv_pop hx hb dL_get_8 rfl ?_
  refine lv_aload_n hx hb dL_get_9 rfl (lv_at hl 0 rfl) ?_
  refine lv_iload_n hx hb dL_get_10 rfl (lv_at hl 1 rfl) ?_
  have hFc := px_free hD hS hA
  refine va_calle (va_runV (As := [.int a0]) (rest := []) ⟨hx, hb, hml, hown, hts⟩ (c_elementData l D ca ad s1 a0 _ _ hw) (cwV 1 hts (gV tw_580 tw_581 tw_582 tw_4 tw_583) rfl rfl rfl (by decide +kernel) ⟨Nat.le_of_ble_eq_true rfl, Nat.le_of_ble_eq_true rfl⟩) ⟨px_blind, (px_recv hK hP gX_2 rfl), fun U hU hW => px_pre hP hK hD hE hS hFc hU hW⟩ rfl rfl hl.1 rfl (lv_room (Nat.le_of_ble_eq_true rfl)) dL_get_11 ⟨Nat.le_of_ble_eq_true rfl, Nat.le_of_ble_eq_true rfl⟩) hS (fun q _ h => hFc q h) hFc (fun r4 s3 t H locs ht hvm hw hB _ _ hS => ?_)
  obtain ⟨hP, -, hD⟩ := hB
  rw [ht] at hP
  have hD := hD.weaken (fun _ _ _ h9 => hFc _ h9)
  obtain ⟨j5, e6, hj7, hw⟩ := hw
  subst e6
  exact W.aret (v := va_re (ad 10) (some j5)) (rt := .object "java/lang/Object") hx hb hr (Or.inl ⟨_, rfl⟩) (va_re_or _ _) (fun t ht hW => ⟨⟨(some j5), s3, rfl, hw, by rw [ht]; exact hP, va_K.moved hW.alike hK, hD⟩, hS.F ht⟩) hS.2.2 dL_get_14
theorem dH_history_0 : decode cH_history 0 = .ok (.iload_n 1, 1) := by decide +kernel
theorem dH_history_1 : decode cH_history 1 = .ok (.ifCond .lt 14, 3) := by decide +kernel
theorem dH_history_4 : decode cH_history 4 = .ok (.iload_n 1, 1) := by decide +kernel
theorem dH_history_5 : decode cH_history 5 = .ok (.aload_n 0, 1) := by decide +kernel
theorem dH_history_6 : decode cH_history 6 = .ok (.getfield 18, 3) := by decide +kernel
theorem dH_history_9 : decode cH_history 9 = .ok (.invokevirtual 75, 3) := by decide +kernel
theorem dH_history_12 : decode cH_history 12 = .ok (.if_icmp .lt 13, 3) := by decide +kernel
theorem dH_history_15 : decode cH_history 15 = .ok (.new 172, 3) := by decide +kernel
theorem dH_history_18 : decode cH_history 18 = .ok (.dup, 1) := by decide +kernel
theorem dH_history_19 : decode cH_history 19 = .ok (.ldc 197, 2) := by decide +kernel
theorem dH_history_21 : decode cH_history 21 = .ok (.invokespecial 176, 3) := by decide +kernel
theorem dH_history_24 : decode cH_history 24 = .ok (.athrow, 1) := by decide +kernel
theorem dH_history_25 : decode cH_history 25 = .ok (.aload_n 0, 1) := by decide +kernel
theorem dH_history_26 : decode cH_history 26 = .ok (.getfield 18, 3) := by decide +kernel
theorem dH_history_29 : decode cH_history 29 = .ok (.iload_n 1, 1) := by decide +kernel
theorem dH_history_30 : decode cH_history 30 = .ok (.invokevirtual 199, 3) := by decide +kernel
theorem dH_history_33 : decode cH_history 33 = .ok (.checkcast 84, 3) := by decide +kernel
theorem dH_history_36 : decode cH_history 36 = .ok (.astore_n 3, 1) := by decide +kernel
theorem dH_history_37 : decode cH_history 37 = .ok (.iload_n 2, 1) := by decide +kernel
theorem dH_history_38 : decode cH_history 38 = .ok (.tableswitch 68 0 5 #[38, 43, 48, 53, 58, 63], 38) := by decide +kernel
theorem dH_history_76 : decode cH_history 76 = .ok (.aload_n 3, 1) := by decide +kernel
theorem dH_history_77 : decode cH_history 77 = .ok (.getfield 203, 3) := by decide +kernel
theorem dH_history_80 : decode cH_history 80 = .ok (.ireturn, 1) := by decide +kernel
theorem dH_history_81 : decode cH_history 81 = .ok (.aload_n 3, 1) := by decide +kernel
theorem dH_history_82 : decode cH_history 82 = .ok (.getfield 206, 3) := by decide +kernel
theorem dH_history_85 : decode cH_history 85 = .ok (.ireturn, 1) := by decide +kernel
theorem dH_history_86 : decode cH_history 86 = .ok (.aload_n 3, 1) := by decide +kernel
theorem dH_history_87 : decode cH_history 87 = .ok (.getfield 209, 3) := by decide +kernel
theorem dH_history_90 : decode cH_history 90 = .ok (.ireturn, 1) := by decide +kernel
theorem dH_history_91 : decode cH_history 91 = .ok (.aload_n 3, 1) := by decide +kernel
theorem dH_history_92 : decode cH_history 92 = .ok (.getfield 212, 3) := by decide +kernel
theorem dH_history_95 : decode cH_history 95 = .ok (.ireturn, 1) := by decide +kernel
theorem dH_history_96 : decode cH_history 96 = .ok (.aload_n 3, 1) := by decide +kernel
theorem dH_history_97 : decode cH_history 97 = .ok (.getfield 215, 3) := by decide +kernel
theorem dH_history_100 : decode cH_history 100 = .ok (.ireturn, 1) := by decide +kernel
theorem dH_history_101 : decode cH_history 101 = .ok (.aload_n 3, 1) := by decide +kernel
theorem dH_history_102 : decode cH_history 102 = .ok (.getfield 218, 3) := by decide +kernel
theorem dH_history_105 : decode cH_history 105 = .ok (.ireturn, 1) := by decide +kernel
theorem dH_history_106 : decode cH_history 106 = .ok (.new 172, 3) := by decide +kernel
theorem dH_history_109 : decode cH_history 109 = .ok (.dup, 1) := by decide +kernel
theorem dH_history_110 : decode cH_history 110 = .ok (.ldc 221, 2) := by decide +kernel
theorem dH_history_112 : decode cH_history 112 = .ok (.invokespecial 176, 3) := by decide +kernel
theorem dH_history_115 : decode cH_history 115 = .ok (.athrow, 1) := by decide +kernel
def wp_history (post : Int32 → Sg → Prop) (px : String → Sg → Prop) (σ : Sg) (a0 : Int32) (a1 : Int32) : Prop := (((a0 < 0) → px "java/lang/IndexOutOfBoundsException" σ) ∧ (¬ (a0 < 0) → wp_size (fun r3 s2 => (((a0 < r3) → wp_get (fun r6 s5 => (∃ j7 : Nat, r6 = some j7 ∧ j7 < sN s5 ∧ ((a1 = 0 → post (sH s5 0 j7) s5) ∧ (¬ (a1 = 0) → ((a1 = 1 → post (sH s5 1 j7) s5) ∧ (¬ (a1 = 1) → ((a1 = 2 → post (sH s5 2 j7) s5) ∧ (¬ (a1 = 2) → ((a1 = 3 → post (sH s5 3 j7) s5) ∧ (¬ (a1 = 3) → ((a1 = 4 → post (sH s5 4 j7) s5) ∧ (¬ (a1 = 4) → ((a1 = 5 → post (sH s5 5 j7) s5) ∧ (¬ (a1 = 5) → px "java/lang/IndexOutOfBoundsException" s5)))))))))))))) s2 a0) ∧ (¬ (a0 < r3) → px "java/lang/IndexOutOfBoundsException" s2))) σ))
set_option maxHeartbeats 4000000 in
set_option maxRecDepth 100000 in
theorem c_history (l : Launch) (D : va_G) (ca : Nat → ClassId) (ad : Nat → Nat → Nat) (σ : Sg) (a0 : Int32) (a1 : Int32) (sz : Nat) (post : Int32 → Sg → Prop) (px : String → Sg → Prop) (hl0 : l.stackTraces = false) (hw : wp_history post px σ a0 a1) : vx_Met l yH_history wsH_history ({ frames := 8, cells := 1, slots := 6, locals := 120 }) (va_Pc [.ref (ad 0 0), .int a0, .int a1] (preX D ca ad σ sz)) (va_Qi post (atX D ca ad (va_A (wX ca ad σ) sz)) (va_A (wX ca ad σ) sz)) (vx_X (fun u : String × Sg => px u.1 u.2) (atXx D ca ad (va_A (wX ca ad σ) sz)) (va_A (wX ca ad σ) sz)) 1 6 (va_A (wX ca ad σ) sz) := by
  refine vx_ofW (cc := cH_history) (maxL := 4) (ret := (some .int)) (by decide) rfl ?_
  intro p e s m args below meth c s₁ B hml hexc hv
  obtain ⟨rfl, hsz, hP, hK, hD0, hE⟩ := hv
  have hx := B.exec
  have hb := B.bytes
  have hr := B.returns
  have hts : ∀ w ∈ tbG, w.before _ s = true := fun w h => atoms_spec (ws := wsH_history) B.pre w (List.mem_cons_of_mem _ h)
  have hown : s.vm.findClass RH = some m.cls := findClass_of_methodNamed B.named
  have hlocks := B.notSynchronized
  subst hsz
  have hD := hD0.self (sz := s.heap.size)
  generalize hAe : va_A (wX ca ad σ) s.heap.size = A at hD hE ⊢
  have hA : ∀ q : Nat, s.heap.size ≤ q → A q := fun q h => by rw [← hAe]; exact Or.inr h
  clear hAe
  have hS : va_S A s.heap s.heap [] := va_S.rf
  have hl := lv_entry ([.ref (ad 0 0), .int a0, .int a1]) (n := 4) (Nat.le_of_ble_eq_true rfl)
  rw [lg_entry_eq]
  generalize (lg_sl ([.ref (ad 0 0), .int a0, .int a1]) ++ List.replicate (4 - (lg_sl ([.ref (ad 0 0), .int a0, .int a1])).length) Slot.unset).toArray = ls at hl ⊢
  have hl : lv_has ls 4 [(0, .ref (ad 0 0)), (1, .int a0), (2, .int a1)] := hl
  unfold wp_history at hw
  have hP : va_P D clX (wX ca ad σ) s.heap := hP
  refine lv_iload_n hx hb dH_history_0 rfl (lv_at hl 1 rfl) ?_
  refine lv_if_lt (tgt := 15) hx hb dH_history_1 (by decide) (fun c1 => ?_) (fun c1 => ?_)
  · have hw := hw.1 c1
    obtain ⟨sa9, hstr⟩ := hE.str 10 _ rfl
    exact vx_throwS (names := ["java/lang/RuntimeException", "java/lang/Exception"]) hx hb hl0 hown (by decide +kernel) (by decide +kernel) (hts _ tw_313) (hts _ tw_13) hstr (hE.hat176 hts) gd_176 hE.1 hE.2.1 hS (hl.1.trans hml.symm) dH_history_15 dH_history_18 dH_history_19 dH_history_21 dH_history_24 (fun x9 h9 => (hexc x9 h9).elim) (by decide) (by decide) (by decide) (by decide) hlocks (fun t hv hz hk => ⟨(_, σ), hw, ⟨rfl, hP.kept (fun k9 q9 h9 => hk _ (va_at.lt (hP k9 q9 h9))), va_K.moved hv hK, hD⟩, va_S.F2 hS hz hk⟩) hS.2.2 (by decide) (by decide)
  · have hw := hw.2 c1
    refine lv_iload_n hx hb dH_history_4 rfl (lv_at hl 1 rfl) ?_
    refine lv_aload_n hx hb dH_history_5 rfl (lv_at hl 0 rfl) ?_
    refine va_get (D := D) (ci := 0) (v := .ref (ad 2 0)) (C := RH) (T := TH) (N := 8) hx hb hts inH hown hK hP 0 gX_0 rfl 1 (by decide) (hts _ tw_151) (fun _ h9 => h9) rfl dH_history_6 ?_
    have hFc := px_free hD hS hA
    refine va_calli (va_runV (As := []) (rest := [.int a0]) ⟨hx, hb, hml, hown, hts⟩ (c_size l D ca ad σ  _ _ hw) (cwV 0 hts (gV tw_190 tw_191 tw_192 tw_4 tw_193) rfl rfl rfl (by decide +kernel) ⟨Nat.le_of_ble_eq_true rfl, Nat.le_of_ble_eq_true rfl⟩) ⟨px_blind, (px_recv hK hP gX_2 rfl), fun U hU hW => px_pre hP hK hD hE hS hFc hU hW⟩ rfl rfl hl.1 rfl (lv_room (Nat.le_of_ble_eq_true rfl)) dH_history_9 ⟨Nat.le_of_ble_eq_true rfl, Nat.le_of_ble_eq_true rfl⟩) hS (fun q _ h => hFc q h) hFc (fun r3 s2 t H locs ht hvm hw hB _ _ hS => ?_)
    obtain ⟨hP, -, hD⟩ := hB
    rw [ht] at hP
    have hD := hD.weaken (fun _ _ _ h9 => hFc _ h9)
    refine lv_icmp_lt (tgt := 25) hx hb dH_history_12 (by decide) (fun c4 => ?_) (fun c4 => ?_)
    · have hw := hw.1 c4
      refine lv_aload_n hx hb dH_history_25 rfl (lv_at hl 0 rfl) ?_
      refine va_get (D := D) (ci := 0) (v := .ref (ad 2 0)) (C := RH) (T := TH) (N := 8) hx hb hts inH hown hK hP 0 gX_0 rfl 1 (by decide) (hts _ tw_151) (fun _ h9 => h9) rfl dH_history_26 ?_
      refine lv_iload_n hx hb dH_history_29 rfl (lv_at hl 1 rfl) ?_
      have hFc := px_free hD hS hA
      refine va_calle (va_runV (As := [.int a0]) (rest := []) ⟨hx, hb, hml, hown, hts⟩ (c_get l D ca ad s2 a0 _ _ hw) (cwV 1 hts (gV tw_570 tw_571 tw_572 tw_4 tw_573) rfl rfl rfl (by decide +kernel) ⟨Nat.le_of_ble_eq_true rfl, Nat.le_of_ble_eq_true rfl⟩) ⟨px_blind, (px_recv hK hP gX_2 rfl), fun U hU hW => px_pre hP hK hD hE hS hFc hU hW⟩ rfl rfl hl.1 rfl (lv_room (Nat.le_of_ble_eq_true rfl)) dH_history_30 ⟨Nat.le_of_ble_eq_true rfl, Nat.le_of_ble_eq_true rfl⟩) hS (fun q _ h => hFc q h) hFc (fun r6 s5 t H locs ht hvm hw hB _ _ hS => ?_)
      obtain ⟨hP, -, hD⟩ := hB
      rw [ht] at hP
      have hD := hD.weaken (fun _ _ _ h9 => hFc _ h9)
      obtain ⟨j7, e8, hj9, hw⟩ := hw
      subst e8
      refine va_castS (cC := D.1 2) hx hb hown (hts _ tw_340) (hK.1 2 _ rfl).2 (px_recv hK hP (gX_10 hj9) rfl) dH_history_33 ?_
      refine lv_astore_n (lv' := [(3, .ref (ad 10 j7)), (0, .ref (ad 0 0)), (1, .int a0), (2, .int a1)]) hx hb dH_history_36 rfl hl (by decide) rfl (fun ls hl => ?_)
      refine lv_iload_n hx hb dH_history_37 rfl (lv_at hl 3 rfl) ?_
      by_cases c10 : a1 = 0
      · have hw := hw.1 c10
        refine lv_tableIn (tgt := 76) hx hb dH_history_38 (by rw [c10]; decide) (by rw [c10]; decide) (by rw [c10]; rfl) (by decide) ?_
        refine lv_aload_n hx hb dH_history_76 rfl (lv_at hl 0 rfl) ?_
        refine va_get (D := D) (ci := 2) (v := .int (sH s5 0 j7)) (C := RQ) (T := TQ) (N := 6) hx hb hts inQ hown hK hP (6 + (8 + (8 + (8 + j7)))) (gX_10 hj9) rfl 0 (by decide) (hts _ tw_351) (fun _ h9 => h9) rfl dH_history_77 ?_
        refine W.widen (k := 1) (n := 6) (by decide) (by decide) ?_
        exact vx_ret (W.iret (v := (sH s5 0 j7)) hx hb hr (fun t ht hW => ⟨⟨(sH s5 0 j7), s5, rfl, hw, by rw [ht]; exact hP, va_K.moved hW.alike hK, hD⟩, hS.F ht⟩) hS.2.2 dH_history_80)
      · have hw := hw.2 c10
        by_cases c11 : a1 = 1
        · have hw := hw.1 c11
          refine lv_tableIn (tgt := 81) hx hb dH_history_38 (by rw [c11]; decide) (by rw [c11]; decide) (by rw [c11]; rfl) (by decide) ?_
          refine lv_aload_n hx hb dH_history_81 rfl (lv_at hl 0 rfl) ?_
          refine va_get (D := D) (ci := 2) (v := .int (sH s5 1 j7)) (C := RQ) (T := TQ) (N := 6) hx hb hts inQ hown hK hP (6 + (8 + (8 + (8 + j7)))) (gX_10 hj9) rfl 1 (by decide) (hts _ tw_354) (fun _ h9 => h9) rfl dH_history_82 ?_
          refine W.widen (k := 1) (n := 6) (by decide) (by decide) ?_
          exact vx_ret (W.iret (v := (sH s5 1 j7)) hx hb hr (fun t ht hW => ⟨⟨(sH s5 1 j7), s5, rfl, hw, by rw [ht]; exact hP, va_K.moved hW.alike hK, hD⟩, hS.F ht⟩) hS.2.2 dH_history_85)
        · have hw := hw.2 c11
          by_cases c12 : a1 = 2
          · have hw := hw.1 c12
            refine lv_tableIn (tgt := 86) hx hb dH_history_38 (by rw [c12]; decide) (by rw [c12]; decide) (by rw [c12]; rfl) (by decide) ?_
            refine lv_aload_n hx hb dH_history_86 rfl (lv_at hl 0 rfl) ?_
            refine va_get (D := D) (ci := 2) (v := .int (sH s5 2 j7)) (C := RQ) (T := TQ) (N := 6) hx hb hts inQ hown hK hP (6 + (8 + (8 + (8 + j7)))) (gX_10 hj9) rfl 2 (by decide) (hts _ tw_356) (fun _ h9 => h9) rfl dH_history_87 ?_
            refine W.widen (k := 1) (n := 6) (by decide) (by decide) ?_
            exact vx_ret (W.iret (v := (sH s5 2 j7)) hx hb hr (fun t ht hW => ⟨⟨(sH s5 2 j7), s5, rfl, hw, by rw [ht]; exact hP, va_K.moved hW.alike hK, hD⟩, hS.F ht⟩) hS.2.2 dH_history_90)
          · have hw := hw.2 c12
            by_cases c13 : a1 = 3
            · have hw := hw.1 c13
              refine lv_tableIn (tgt := 91) hx hb dH_history_38 (by rw [c13]; decide) (by rw [c13]; decide) (by rw [c13]; rfl) (by decide) ?_
              refine lv_aload_n hx hb dH_history_91 rfl (lv_at hl 0 rfl) ?_
              refine va_get (D := D) (ci := 2) (v := .int (sH s5 3 j7)) (C := RQ) (T := TQ) (N := 6) hx hb hts inQ hown hK hP (6 + (8 + (8 + (8 + j7)))) (gX_10 hj9) rfl 3 (by decide) (hts _ tw_358) (fun _ h9 => h9) rfl dH_history_92 ?_
              refine W.widen (k := 1) (n := 6) (by decide) (by decide) ?_
              exact vx_ret (W.iret (v := (sH s5 3 j7)) hx hb hr (fun t ht hW => ⟨⟨(sH s5 3 j7), s5, rfl, hw, by rw [ht]; exact hP, va_K.moved hW.alike hK, hD⟩, hS.F ht⟩) hS.2.2 dH_history_95)
            · have hw := hw.2 c13
              by_cases c14 : a1 = 4
              · have hw := hw.1 c14
                refine lv_tableIn (tgt := 96) hx hb dH_history_38 (by rw [c14]; decide) (by rw [c14]; decide) (by rw [c14]; rfl) (by decide) ?_
                refine lv_aload_n hx hb dH_history_96 rfl (lv_at hl 0 rfl) ?_
                refine va_get (D := D) (ci := 2) (v := .int (sH s5 4 j7)) (C := RQ) (T := TQ) (N := 6) hx hb hts inQ hown hK hP (6 + (8 + (8 + (8 + j7)))) (gX_10 hj9) rfl 4 (by decide) (hts _ tw_360) (fun _ h9 => h9) rfl dH_history_97 ?_
                refine W.widen (k := 1) (n := 6) (by decide) (by decide) ?_
                exact vx_ret (W.iret (v := (sH s5 4 j7)) hx hb hr (fun t ht hW => ⟨⟨(sH s5 4 j7), s5, rfl, hw, by rw [ht]; exact hP, va_K.moved hW.alike hK, hD⟩, hS.F ht⟩) hS.2.2 dH_history_100)
              · have hw := hw.2 c14
                by_cases c15 : a1 = 5
                · have hw := hw.1 c15
                  refine lv_tableIn (tgt := 101) hx hb dH_history_38 (by rw [c15]; decide) (by rw [c15]; decide) (by rw [c15]; rfl) (by decide) ?_
                  refine lv_aload_n hx hb dH_history_101 rfl (lv_at hl 0 rfl) ?_
                  refine va_get (D := D) (ci := 2) (v := .int (sH s5 5 j7)) (C := RQ) (T := TQ) (N := 6) hx hb hts inQ hown hK hP (6 + (8 + (8 + (8 + j7)))) (gX_10 hj9) rfl 5 (by decide) (hts _ tw_362) (fun _ h9 => h9) rfl dH_history_102 ?_
                  refine W.widen (k := 1) (n := 6) (by decide) (by decide) ?_
                  exact vx_ret (W.iret (v := (sH s5 5 j7)) hx hb hr (fun t ht hW => ⟨⟨(sH s5 5 j7), s5, rfl, hw, by rw [ht]; exact hP, va_K.moved hW.alike hK, hD⟩, hS.F ht⟩) hS.2.2 dH_history_105)
                · have hw := hw.2 c15
                  refine lv_tableOut (tgt := 106) hx hb dH_history_38 (by first | exact px_out6 c10 c11 c12 c13 c14 c15) (by decide) ?_
                  obtain ⟨sa9, hstr⟩ := hE.str 11 _ rfl
                  exact vx_throwS (names := ["java/lang/RuntimeException", "java/lang/Exception"]) hx hb hl0 hown (by decide +kernel) (by decide +kernel) (hts _ tw_313) (hts _ tw_13) hstr (hE.hat176 hts) gd_176 hE.1 hE.2.1 hS (hl.1.trans hml.symm) dH_history_106 dH_history_109 dH_history_110 dH_history_112 dH_history_115 (fun x9 h9 => (hexc x9 h9).elim) (by decide) (by decide) (by decide) (by decide) hlocks (fun t hv hz hk => ⟨(_, s5), hw, ⟨rfl, hP.kept (fun k9 q9 h9 => hk _ (va_at.lt (hP k9 q9 h9))), va_K.moved hv hK, hD⟩, va_S.F2 hS hz hk⟩) hS.2.2 (by decide) (by decide)
    · have hw := hw.2 c4
      obtain ⟨sa9, hstr⟩ := hE.str 10 _ rfl
      exact vx_throwS (names := ["java/lang/RuntimeException", "java/lang/Exception"]) hx hb hl0 hown (by decide +kernel) (by decide +kernel) (hts _ tw_313) (hts _ tw_13) hstr (hE.hat176 hts) gd_176 hE.1 hE.2.1 hS (hl.1.trans hml.symm) dH_history_15 dH_history_18 dH_history_19 dH_history_21 dH_history_24 (fun x9 h9 => (hexc x9 h9).elim) (by decide) (by decide) (by decide) (by decide) hlocks (fun t hv hz hk => ⟨(_, s2), hw, ⟨rfl, hP.kept (fun k9 q9 h9 => hk _ (va_at.lt (hP k9 q9 h9))), va_K.moved hv hK, hD⟩, va_S.F2 hS hz hk⟩) hS.2.2 (by decide) (by decide)
theorem dH_count_0 : decode cH_count 0 = .ok (.iload_n 1, 1) := by decide +kernel
theorem dH_count_1 : decode cH_count 1 = .ok (.tableswitch 75 0 5 #[39, 44, 52, 57, 65, 70], 39) := by decide +kernel
theorem dH_count_40 : decode cH_count 40 = .ok (.aload_n 0, 1) := by decide +kernel
theorem dH_count_41 : decode cH_count 41 = .ok (.getfield 37, 3) := by decide +kernel
theorem dH_count_44 : decode cH_count 44 = .ok (.ireturn, 1) := by decide +kernel
theorem dH_count_45 : decode cH_count 45 = .ok (.aload_n 0, 1) := by decide +kernel
theorem dH_count_46 : decode cH_count 46 = .ok (.getfield 18, 3) := by decide +kernel
theorem dH_count_49 : decode cH_count 49 = .ok (.invokevirtual 75, 3) := by decide +kernel
theorem dH_count_52 : decode cH_count 52 = .ok (.ireturn, 1) := by decide +kernel
theorem dH_count_53 : decode cH_count 53 = .ok (.aload_n 0, 1) := by decide +kernel
theorem dH_count_54 : decode cH_count 54 = .ok (.getfield 40, 3) := by decide +kernel
theorem dH_count_57 : decode cH_count 57 = .ok (.ireturn, 1) := by decide +kernel
theorem dH_count_58 : decode cH_count 58 = .ok (.aload_n 0, 1) := by decide +kernel
theorem dH_count_59 : decode cH_count 59 = .ok (.getfield 25, 3) := by decide +kernel
theorem dH_count_62 : decode cH_count 62 = .ok (.getfield 223, 3) := by decide +kernel
theorem dH_count_65 : decode cH_count 65 = .ok (.ireturn, 1) := by decide +kernel
theorem dH_count_66 : decode cH_count 66 = .ok (.aload_n 0, 1) := by decide +kernel
theorem dH_count_67 : decode cH_count 67 = .ok (.invokevirtual 226, 3) := by decide +kernel
theorem dH_count_70 : decode cH_count 70 = .ok (.ireturn, 1) := by decide +kernel
theorem dH_count_71 : decode cH_count 71 = .ok (.aload_n 0, 1) := by decide +kernel
theorem dH_count_72 : decode cH_count 72 = .ok (.getfield 33, 3) := by decide +kernel
theorem dH_count_75 : decode cH_count 75 = .ok (.ireturn, 1) := by decide +kernel
theorem dH_count_76 : decode cH_count 76 = .ok (.iconst (-1), 1) := by decide +kernel
theorem dH_count_77 : decode cH_count 77 = .ok (.ireturn, 1) := by decide +kernel
def wp_count (post : Int32 → Sg → Prop) (σ : Sg) (a0 : Int32) : Prop := ((a0 = 0 → post (sG σ 1) σ) ∧ (¬ (a0 = 0) → ((a0 = 1 → wp_size (fun r4 s3 => post r4 s3) σ) ∧ (¬ (a0 = 1) → ((a0 = 2 → post (sG σ 2) σ) ∧ (¬ (a0 = 2) → ((a0 = 3 → post (sG σ 4) σ) ∧ (¬ (a0 = 3) → ((a0 = 4 → wp_howManyWait (fun r9 s8 => post r9 s8) σ) ∧ (¬ (a0 = 4) → ((a0 = 5 → post (sG σ 0) σ) ∧ (¬ (a0 = 5) → post (-1) σ))))))))))))
set_option maxHeartbeats 4000000 in
set_option maxRecDepth 100000 in
theorem c_count (l : Launch) (D : va_G) (ca : Nat → ClassId) (ad : Nat → Nat → Nat) (σ : Sg) (a0 : Int32) (sz : Nat) (post : Int32 → Sg → Prop) (hw : wp_count post σ a0) : Met l yH_count wsH_count ({ frames := 2, cells := 0, slots := 0, locals := 42 }) (va_Pc [.ref (ad 0 0), .int a0] (preX D ca ad σ sz)) (va_Qi post (atX D ca ad (va_A (wX ca ad σ) sz)) (va_A (wX ca ad σ) sz)) 0 0 (va_A (wX ca ad σ) sz) := by
  refine Met.ofW (cc := cH_count) (maxL := 2) (ret := (some .int)) (by decide) rfl ?_
  intro p e s m args below meth c s₁ B hml hv
  obtain ⟨rfl, hsz, hP, hK, hD0, hE⟩ := hv
  have hx := B.exec
  have hb := B.bytes
  have hr := B.returns
  have hts : ∀ w ∈ tbG, w.before _ s = true := fun w h => atoms_spec (ws := wsH_count) B.pre w (List.mem_cons_of_mem _ h)
  have hown : s.vm.findClass RH = some m.cls := findClass_of_methodNamed B.named
  have hlocks := B.notSynchronized
  subst hsz
  have hD := hD0.self (sz := s.heap.size)
  generalize hAe : va_A (wX ca ad σ) s.heap.size = A at hD hE ⊢
  have hA : ∀ q : Nat, s.heap.size ≤ q → A q := fun q h => by rw [← hAe]; exact Or.inr h
  clear hAe
  have hS : va_S A s.heap s.heap [] := va_S.rf
  have hl := lv_entry ([.ref (ad 0 0), .int a0]) (n := 2) (Nat.le_of_ble_eq_true rfl)
  rw [lg_entry_eq]
  generalize (lg_sl ([.ref (ad 0 0), .int a0]) ++ List.replicate (2 - (lg_sl ([.ref (ad 0 0), .int a0])).length) Slot.unset).toArray = ls at hl ⊢
  have hl : lv_has ls 2 [(0, .ref (ad 0 0)), (1, .int a0)] := hl
  unfold wp_count at hw
  have hP : va_P D clX (wX ca ad σ) s.heap := hP
  refine lv_iload_n hx hb dH_count_0 rfl (lv_at hl 1 rfl) ?_
  by_cases c1 : a0 = 0
  · have hw := hw.1 c1
    refine lv_tableIn (tgt := 40) hx hb dH_count_1 (by rw [c1]; decide) (by rw [c1]; decide) (by rw [c1]; rfl) (by decide) ?_
    refine lv_aload_n hx hb dH_count_40 rfl (lv_at hl 0 rfl) ?_
    refine va_get (D := D) (ci := 0) (v := .int (sG σ 1)) (C := RH) (T := TH) (N := 8) hx hb hts inH hown hK hP 0 gX_0 rfl 5 (by decide) (hts _ tw_155) (fun _ h9 => h9) rfl dH_count_41 ?_
    exact W.iret (v := (sG σ 1)) hx hb hr (fun t ht hW => ⟨⟨(sG σ 1), σ, rfl, hw, by rw [ht]; exact hP, va_K.moved hW.alike hK, hD⟩, hS.F ht⟩) hS.2.2 dH_count_44
  · have hw := hw.2 c1
    by_cases c2 : a0 = 1
    · have hw := hw.1 c2
      refine lv_tableIn (tgt := 45) hx hb dH_count_1 (by rw [c2]; decide) (by rw [c2]; decide) (by rw [c2]; rfl) (by decide) ?_
      refine lv_aload_n hx hb dH_count_45 rfl (lv_at hl 0 rfl) ?_
      refine va_get (D := D) (ci := 0) (v := .ref (ad 2 0)) (C := RH) (T := TH) (N := 8) hx hb hts inH hown hK hP 0 gX_0 rfl 1 (by decide) (hts _ tw_151) (fun _ h9 => h9) rfl dH_count_46 ?_
      have hFc := px_free hD hS hA
      refine va_calli (va_runV (As := []) (rest := []) ⟨hx, hb, hml, hown, hts⟩ (c_size l D ca ad σ  _ _ hw) (cwV 0 hts (gV tw_190 tw_191 tw_192 tw_4 tw_193) rfl rfl rfl (by decide +kernel) ⟨Nat.le_of_ble_eq_true rfl, Nat.le_of_ble_eq_true rfl⟩) ⟨px_blind, (px_recv hK hP gX_2 rfl), fun U hU hW => px_pre hP hK hD hE hS hFc hU hW⟩ rfl rfl hl.1 rfl (lv_room (Nat.le_of_ble_eq_true rfl)) dH_count_49 ⟨Nat.le_of_ble_eq_true rfl, Nat.le_of_ble_eq_true rfl⟩) hS (fun q _ h => hFc q h) hFc (fun r4 s3 t H locs ht hvm hw hB _ _ hS => ?_)
      obtain ⟨hP, -, hD⟩ := hB
      rw [ht] at hP
      have hD := hD.weaken (fun _ _ _ h9 => hFc _ h9)
      exact W.iret (v := r4) hx hb hr (fun t ht hW => ⟨⟨r4, s3, rfl, hw, by rw [ht]; exact hP, va_K.moved hW.alike hK, hD⟩, hS.F ht⟩) hS.2.2 dH_count_52
    · have hw := hw.2 c2
      by_cases c5 : a0 = 2
      · have hw := hw.1 c5
        refine lv_tableIn (tgt := 53) hx hb dH_count_1 (by rw [c5]; decide) (by rw [c5]; decide) (by rw [c5]; rfl) (by decide) ?_
        refine lv_aload_n hx hb dH_count_53 rfl (lv_at hl 0 rfl) ?_
        refine va_get (D := D) (ci := 0) (v := .int (sG σ 2)) (C := RH) (T := TH) (N := 8) hx hb hts inH hown hK hP 0 gX_0 rfl 6 (by decide) (hts _ tw_156) (fun _ h9 => h9) rfl dH_count_54 ?_
        exact W.iret (v := (sG σ 2)) hx hb hr (fun t ht hW => ⟨⟨(sG σ 2), σ, rfl, hw, by rw [ht]; exact hP, va_K.moved hW.alike hK, hD⟩, hS.F ht⟩) hS.2.2 dH_count_57
      · have hw := hw.2 c5
        by_cases c6 : a0 = 3
        · have hw := hw.1 c6
          refine lv_tableIn (tgt := 58) hx hb dH_count_1 (by rw [c6]; decide) (by rw [c6]; decide) (by rw [c6]; rfl) (by decide) ?_
          refine lv_aload_n hx hb dH_count_58 rfl (lv_at hl 0 rfl) ?_
          refine va_get (D := D) (ci := 0) (v := .ref (ad 3 0)) (C := RH) (T := TH) (N := 8) hx hb hts inH hown hK hP 0 gX_0 rfl 2 (by decide) (hts _ tw_152) (fun _ h9 => h9) rfl dH_count_59 ?_
          refine va_get (D := D) (ci := 3) (v := .int (sG σ 4)) (C := RG) (T := TG) (N := 2) hx hb hts inG hown hK hP 3 gX_3 rfl 1 (by decide) (hts _ tw_65) (fun _ h9 => h9) rfl dH_count_62 ?_
          exact W.iret (v := (sG σ 4)) hx hb hr (fun t ht hW => ⟨⟨(sG σ 4), σ, rfl, hw, by rw [ht]; exact hP, va_K.moved hW.alike hK, hD⟩, hS.F ht⟩) hS.2.2 dH_count_65
        · have hw := hw.2 c6
          by_cases c7 : a0 = 4
          · have hw := hw.1 c7
            refine lv_tableIn (tgt := 66) hx hb dH_count_1 (by rw [c7]; decide) (by rw [c7]; decide) (by rw [c7]; rfl) (by decide) ?_
            refine lv_aload_n hx hb dH_count_66 rfl (lv_at hl 0 rfl) ?_
            have hFc := px_free hD hS hA
            refine va_calli (va_runV (As := []) (rest := []) ⟨hx, hb, hml, hown, hts⟩ (c_howManyWait l D ca ad σ  _ _ hw) (cwV 0 hts (gV tw_194 tw_196 tp_0 tw_1 tw_197) rfl rfl rfl (by decide +kernel) ⟨Nat.le_of_ble_eq_true rfl, Nat.le_of_ble_eq_true rfl⟩) ⟨px_blind, (px_recv hK hP gX_0 rfl), fun U hU hW => px_pre hP hK hD hE hS hFc hU hW⟩ rfl rfl hl.1 rfl (lv_room (Nat.le_of_ble_eq_true rfl)) dH_count_67 ⟨Nat.le_of_ble_eq_true rfl, Nat.le_of_ble_eq_true rfl⟩) hS (fun q _ h => hFc q h) hFc (fun r9 s8 t H locs ht hvm hw hB _ _ hS => ?_)
            obtain ⟨hP, -, hD⟩ := hB
            rw [ht] at hP
            have hD := hD.weaken (fun _ _ _ h9 => hFc _ h9)
            exact W.iret (v := r9) hx hb hr (fun t ht hW => ⟨⟨r9, s8, rfl, hw, by rw [ht]; exact hP, va_K.moved hW.alike hK, hD⟩, hS.F ht⟩) hS.2.2 dH_count_70
          · have hw := hw.2 c7
            by_cases c10 : a0 = 5
            · have hw := hw.1 c10
              refine lv_tableIn (tgt := 71) hx hb dH_count_1 (by rw [c10]; decide) (by rw [c10]; decide) (by rw [c10]; rfl) (by decide) ?_
              refine lv_aload_n hx hb dH_count_71 rfl (lv_at hl 0 rfl) ?_
              refine va_get (D := D) (ci := 0) (v := .int (sG σ 0)) (C := RH) (T := TH) (N := 8) hx hb hts inH hown hK hP 0 gX_0 rfl 4 (by decide) (hts _ tw_154) (fun _ h9 => h9) rfl dH_count_72 ?_
              exact W.iret (v := (sG σ 0)) hx hb hr (fun t ht hW => ⟨⟨(sG σ 0), σ, rfl, hw, by rw [ht]; exact hP, va_K.moved hW.alike hK, hD⟩, hS.F ht⟩) hS.2.2 dH_count_75
            · have hw := hw.2 c10
              refine lv_tableOut (tgt := 76) hx hb dH_count_1 (by first | exact px_out6 c1 c2 c5 c6 c7 c10) (by decide) ?_
              refine lv_iconst (v := (-1)) hx hb dH_count_76 (by decide) ?_
              exact W.iret (v := (-1)) hx hb hr (fun t ht hW => ⟨⟨(-1), σ, rfl, hw, by rw [ht]; exact hP, va_K.moved hW.alike hK, hD⟩, hS.F ht⟩) hS.2.2 dH_count_77
end
