section
/-! ===== BEGIN words of one list among another's, by their places ===== -/
theorem goodIn_r {big : List Cond} (ws : List Cond) (ps : List Nat) (hp : ws = ps.filterMap (fun i => big[i]?)) (h : ws.all goodWord = true) : GoodIn big ws := by
  intro w hw
  have h1 := List.all_eq_true.mp h w hw
  rw [hp] at hw
  obtain ⟨i, -, hi⟩ := List.mem_filterMap.mp hw
  have hm : w ∈ big := by first | exact List.mem_of_getElem? hi | exact List.getElem?_mem hi
  exact ⟨hm, good_of_word h1⟩
theorem goodIn_app {big a b : List Cond} (ha : GoodIn big a) (hb : GoodIn big b) : GoodIn big (a ++ b) := fun w h => (List.mem_append.mp h).elim (ha w) (hb w)
theorem goodIn_ca {big a b : List Cond} {c : Cond} (ha : GoodIn big (c :: a)) (hb : GoodIn big b) : GoodIn big (c :: (a ++ b)) := fun w h => (List.mem_cons.mp h).elim (fun e => ha w (List.mem_cons.mpr (Or.inl e))) (fun h => (List.mem_append.mp h).elim (fun h => ha w (List.mem_cons.mpr (Or.inr h))) (hb w))
theorem goodIn_sub {big ws : List Cond} (hm : ∀ w ∈ ws, w ∈ big) (h : ws.all goodWord = true) : GoodIn big ws := fun w hw => ⟨hm w hw, good_of_word (List.all_eq_true.mp h w hw)⟩
/-! ===== END ===== -/
/-! ===== BEGIN exceptions that leave a method, and their catching by the caller (launches without stack traces) ===== -/
section VXA
/-! The laws vx_back, vx_callV, vx_callS, vx_callSW, vx_throw0, vx_throwS follow proofs of the library, with one case more: JvmDerived/Free/Laws.lean (Back.of_free), Shelf42/LK1.lean (callV, callS), Shelf/KitTraced.lean (throwNew0V, throwNewS). -/
/-- where a method has thrown q: the class by its name, the cell, what was written, the world -/
def vx_T (XC : String → State → State → Prop) (st : State) (q : Addr) (t : State) (mc ms : Nat) (free : Addr → Prop) : Prop :=
  ∃ (E : String) (ce : Cell) (L : List Loc), XC E st t ∧ t.heap[q]? = some ce ∧ ce.vm = .none ∧ st.vm.findClass E = some ce.cls ∧ st.WarmedH t.vm ∧ st.sameButNew ({ t with vm := st.vm } : State) L mc ms ∧ ∀ z ∈ L, free z.base
def vx_Q (Qc : Array Value → State → Outcome → State → Prop) (XC : String → State → State → Prop) (mc ms : Nat) (free : Addr → Prop) : Array Value → State → Outcome → State → Prop := fun a st o t =>
  (Qc a st o t ∧ ∃ L, FrameEnd st o t L mc ms ∧ ∀ q ∈ L, free q.base) ∨ ∃ q, o = .threw q ∧ vx_T XC st q t mc ms free
/-- a callee that returns or throws -/
def vx_Met (l : Launch) (y : MethodName) (ws : List Cond) (rm : Room) (Pc : Array Value → State → Prop) (Qc : Array Value → State → Outcome → State → Prop) (XC : String → State → State → Prop) (mc ms : Nat) (free : Addr → Prop) : Prop :=
  MetFree l y (headSpec ws rm) Pc (fun _ _ _ _ _ => True) (vx_Q Qc XC mc ms free)
def vx_Post (XC : String → State → State → Prop) (mc ms : Nat) (free : Addr → Prop) : Pt → Array Value → Addr → Pt → Prop := fun A a q B =>
  ∃ (g : JFrame) (mk : MethodId) (t : State) (L : List Loc) (E : String) (ce : Cell), B.U.heap = t.heap ∧ B.U.vm = t.vm ∧ XC E (A.U.calling g mk a) t ∧ t.heap[q]? = some ce ∧ ce.vm = .none ∧ A.U.vm.findClass E = some ce.cls ∧ B.locs = A.locs ++ L ∧ (∀ z ∈ L, free z.base) ∧ B.cells = A.cells + mc ∧ B.slots = A.slots + ms
def vx_Back (l : Launch) (R : Room) (p : Program) (e : Env) (below : List Frame) (s : State) (sargs : Array Value) (y : MethodName) (len W9 : Nat)
    (Pre : Pt → Array Value → Prop) (Post : Pt → Array Value → Option Value → Pt → Prop) (PostX : Pt → Array Value → Addr → Pt → Prop) : Prop :=
  ∀ (m : MethodId) (meth : Method) (c : Code) (A : Pt) (g : JFrame) (ig : Instr) (mk : MethodId) (a : Array Value),
    Stand p l e R s m sargs below meth c A.U A.locs A.cells A.slots → g.method = m → g.locals.size = c.maxLocals → decode c.code g.pc = .ok (ig, len) →
    2 * g.monitorRoom + (g.stack.map fun v => v.category).sum ≤ W9 → A.U.methodNamed? y = some mk → Pre A a →
    (∃ (v : Option Value) (B : Pt), Stand p l e R s m sargs below meth c B.U B.locs B.cells B.slots ∧ Post A a v B ∧
      Steps p.tables e below (doInvoke e (A.U.setTop g) [] mk a).1 (B.U.setTop { g with pc := g.pc + len, stack := v.toList ++ g.stack })) ∨
    (∃ (q : Addr) (B : Pt), Stand p l e R s m sargs below meth c B.U B.locs B.cells B.slots ∧ PostX A a q B ∧
      Steps p.tables e below (doInvoke e (A.U.setTop g) [] mk a).1 ((B.U.setTop g).pushFrame (.throwing q)))
section Payer
variable {l : Launch} {R : Room} {p : Program} {e : Env} {below : List Frame} {s : State} {sargs : Array Value} {y : MethodName} {len W9 : Nat}
theorem vx_back {ws : List Cond} {rm : Room} {Pc : Array Value → State → Prop} {Qc : Array Value → State → Outcome → State → Prop} {XC : String → State → State → Prop} {mc ms : Nat} {free : Addr → Prop} {bytes : ByteArray} {maxL : Nat} {ret : Option FieldType}
    (hM : vx_Met l y ws rm Pc Qc XC mc ms free) (hblind : FrameBlind Pc) (hrc : rm.cells = mc) (hrs : rm.slots = ms)
    (hframes : rm.frames + 1 ≤ R.frames) (hlocals : W9 + (maxL + 11) + rm.locals ≤ R.locals)
    (hws : ∀ w ∈ ws, ∀ a' U, s.WarmedH U.vm → w.before a' U = true) (hcode : Cond.code y bytes maxL ret ∈ ws) (hinit : ∀ a' U, s.WarmedH U.vm → (Cond.initialized y.cls).before a' U = true) :
    vx_Back l R p e below s sargs y len W9 (PreOf R mc ms Pc) (PostOf Qc mc ms free) (vx_Post XC mc ms free) := by
  intro m meth c A g ig mk a X hg hsize hdg hW hn hp
  have h1 : (headSpec ws rm).pre.before a A.U = true := atoms_intro fun w hw => hws w hw _ _ X.warmed
  have h2 : (Cond.code y bytes maxL ret).before a A.U = true := hws _ hcode _ _ X.warmed
  have h3 : (Cond.initialized y.cls).before a A.U = true := hinit _ _ X.warmed
  have h4 : A.cells + (headSpec ws rm).room.cells ≤ R.cells := by rw [show (headSpec ws rm).room.cells = mc from hrc]; exact hp.1
  have h5 : A.slots + (headSpec ws rm).room.slots ≤ R.slots := by rw [show (headSpec ws rm).room.slots = ms from hrs]; exact hp.2.1
  have hPc : Pc a (A.U.calling g mk a) := hblind _ _ _ _ hp.2.2
  obtain ⟨U, Ls, c0, s0⟩ := A
  dsimp only [Pt.U, Pt.locs, Pt.cells, Pt.slots] at h1 h2 h3 h4 h5 X hn hPc ⊢
  obtain ⟨methY, cY, hmY, hcY, -, hlY, -, -, -, -⟩ := Cond.code_spec hn h2
  obtain ⟨kY, hkY, -⟩ := className_of_methodNamed hn
  have hinitY : kY.init = .initialized := Cond.initialized_spec (findClass_of_methodNamed hn) hkY h3
  have h : At U g.method c below := by rw [hg]; exact X.here
  have hlocals9 : W9 + (maxL + 11) + (headSpec ws rm).room.locals ≤ R.locals := hlocals
  have happ : (headSpec ws rm).appliesLoose y e.platform (U.calling g mk a) = true :=
    Spec.appliesLoose_calling (g := g) h hdg hn hkY hinitY
      (X.room_calling (g := g) (R' := (headSpec ws rm).room) hsize hmY hcY hframes (by rw [hlY]; omega) h4 h5) h1
  obtain ⟨mid, hmid⟩ := h.above
  have hfr : (U.setTop g).frames = (.java g :: mid) ++ below := by rw [State.frames_setTop' g h.top, hmid]; rfl
  obtain ⟨o, s₂, hsteps, -, hend, hq⟩ := Steps.callFree hM p X.admits X.cas X.clock (acts := []) hfr happ hPc trivial
  have hq' : vx_Q Qc XC mc ms free a (U.calling g mk a) o s₂ := hq
  rw [State.frames_setTop' g h.top] at hend
  obtain ⟨g₀, hg0⟩ := Option.isSome_iff_exists.mp h.top
  obtain ⟨r, hr⟩ := State.topJava?_eq_some.mp hg0
  have hr' : (({ U with heap := s₂.heap, slotsUsed := s₂.slotsUsed } : State).setVm s₂.vm).frames = .java g₀ :: r := hr
  rcases hq' with ⟨hqc, L, hfe, hL⟩ | ⟨q, rfl, E, ce, L, hx, hce, hcv, hcl, hW₂, hsm, hL⟩
  · obtain ⟨⟨v, rfl⟩, hW₂, e2, q2, q3, q4, q5, q6⟩ := id hfe
    have e3 : s₂ = ({ (U.calling g mk a).setFrames s₂.frames with heap := s₂.heap, slotsUsed := s₂.slotsUsed } : State).setVm s₂.vm := by
      have : s₂ = ({ s₂ with vm := (U.calling g mk a).vm } : State).setVm s₂.vm := rfl
      rw [e2] at this
      exact this
    obtain ⟨c₂, i₂, len₂, hc₂, hd₂, hf₂⟩ := hend
    have hW' : U.WarmedH s₂.vm := hW₂
    have hcc : c₂ = c := by
      have h1 : s₂.code? g.method = U.code? g.method := by
        rw [State.code?_eq, State.code?_eq, hW'.alike.method?]
      exact Option.some.inj (hc₂.symm.trans (h1.trans h.code))
    subst hcc
    have hlen : len₂ = len := by rw [hdg] at hd₂; cases hd₂; rfl
    subst hlen
    have hs₂ : s₂ = (({ U with heap := s₂.heap, slotsUsed := s₂.slotsUsed } : State).setVm s₂.vm).setTop { g with pc := g.pc + len₂, stack := v.toList ++ g.stack } := by
      refine e3.trans ?_
      rw [hf₂, State.calling_eq h.top, State.setFrames_setFrames, State.setTop_of_frames _ hr', hr]
      rfl
    have hsame : U.sameButNew ({ U with heap := s₂.heap, slotsUsed := s₂.slotsUsed } : State) L mc ms := by
      refine ⟨?_, q2, q3, q4, q5, q6⟩
      obtain ⟨t, ht, -⟩ := State.frames_cons hr
      show ({ U with heap := s₂.heap, slotsUsed := s₂.slotsUsed } : State) = { U.setFrames U.frames with heap := s₂.heap, slotsUsed := s₂.slotsUsed }
      rw [State.setFrames_self ht]
    subst hg
    refine Or.inl ⟨v, ⟨(({ U with heap := s₂.heap, slotsUsed := s₂.slotsUsed } : State).setVm s₂.vm), Ls ++ L, c0 + mc, s0 + ms⟩,
      ⟨X.admits, X.cas, X.clock, X.frames, X.room, X.hears, X.method, X.code, (X.here.setHeapUsed s₂.heap s₂.slotsUsed).setVm hW'.alike, X.tail, State.WarmedH.trans X.warmed hW', X.limits, X.bytes, X.same.trans (hsame.setVm s.vm)⟩,
      ⟨g, mk, s₂, L, rfl, rfl, hqc, rfl, hL, rfl, rfl⟩, ?_⟩
    show Steps p.tables e below _ ((({ U with heap := s₂.heap, slotsUsed := s₂.slotsUsed } : State).setVm s₂.vm).setTop { g with pc := g.pc + len₂, stack := v.toList ++ g.stack })
    rw [← hs₂]
    exact hsteps
  · obtain ⟨e2, q2, q3, q4, q5, q6⟩ := id hsm
    have e3 : s₂ = ({ (U.calling g mk a).setFrames s₂.frames with heap := s₂.heap, slotsUsed := s₂.slotsUsed } : State).setVm s₂.vm := by
      have : s₂ = ({ s₂ with vm := (U.calling g mk a).vm } : State).setVm s₂.vm := rfl
      rw [e2] at this
      exact this
    have hf₂ : s₂.frames = .throwing q :: .java g :: U.frames.tail := hend
    have hW' : U.WarmedH s₂.vm := hW₂
    have hs₂ : s₂ = ((({ U with heap := s₂.heap, slotsUsed := s₂.slotsUsed } : State).setVm s₂.vm).setTop g).pushFrame (.throwing q) := by
      refine e3.trans ?_
      rw [hf₂, State.calling_eq h.top, State.setFrames_setFrames, State.pushFrame, State.frames_setTop _ hr', State.setTop_of_frames _ hr', State.setFrames_setFrames, hr]
      rfl
    have hsame : U.sameButNew ({ U with heap := s₂.heap, slotsUsed := s₂.slotsUsed } : State) L mc ms := by
      refine ⟨?_, q2, q3, q4, q5, q6⟩
      obtain ⟨t, ht, -⟩ := State.frames_cons hr
      show ({ U with heap := s₂.heap, slotsUsed := s₂.slotsUsed } : State) = { U.setFrames U.frames with heap := s₂.heap, slotsUsed := s₂.slotsUsed }
      rw [State.setFrames_self ht]
    subst hg
    refine Or.inr ⟨q, ⟨(({ U with heap := s₂.heap, slotsUsed := s₂.slotsUsed } : State).setVm s₂.vm), Ls ++ L, c0 + mc, s0 + ms⟩,
      ⟨X.admits, X.cas, X.clock, X.frames, X.room, X.hears, X.method, X.code, (X.here.setHeapUsed s₂.heap s₂.slotsUsed).setVm hW'.alike, X.tail, State.WarmedH.trans X.warmed hW', X.limits, X.bytes, X.same.trans (hsame.setVm s.vm)⟩,
      ⟨g, mk, s₂, L, E, ce, rfl, rfl, hx, hce, hcv, hcl, rfl, hL, rfl, rfl⟩, ?_⟩
    show Steps p.tables e below _ (((({ U with heap := s₂.heap, slotsUsed := s₂.slotsUsed } : State).setVm s₂.vm).setTop g).pushFrame (.throwing q))
    rw [← hs₂]
    exact hsteps
end Payer
section Calls
variable {p : Program} {l : Launch} {e : Env} {R : Room} {s : State} {m : MethodId} {args : Array Value} {below : List Frame} {meth : Method} {c : Code} {T : State} {locs : List Loc} {cells slots : Nat}
theorem vx_callV (X : Stand p l e R s m args below meth c T locs cells slots) (hexec : p.tables.exec = Jvm.exec) {own C : String} {index : Nat} {y : MethodName} {bytes : ByteArray} {maxL : Nat} {ret : Option FieldType}
    (hown : s.vm.findClass own = some m.cls) (hlink : (Cond.methodLink own index y).before args s = true) (hinst : (Cond.instanceMethod y).before args s = true) (hsel : (Cond.selects C y y).before args s = true)
    (hcode : (Cond.code y bytes maxL ret).before args s = true) (hy : y.cls ≠ "java/lang/invoke/MethodHandle" ∧ y.cls ≠ "java/lang/invoke/VarHandle")
    {W9 : Nat} {Pre : Pt → Array Value → Prop} {Post : Pt → Array Value → Option Value → Pt → Prop} {PostX : Pt → Array Value → Addr → Pt → Prop} (hK : vx_Back l R p e below s args y 3 W9 Pre Post PostX)
    {b : Addr} {cellB : Cell} (hcell : T.heap[b]? = some cellB) (hobj : cellB.vm.isStatics = false) (hcls : s.vm.findClass C = some cellB.cls)
    {g : JFrame} (hg : g.method = m) (hsize : g.locals.size = c.maxLocals) {argsL rest : List Value} (hlen : ∀ sig, parseMethodDescriptor y.desc = some sig → argsL.length = sig.parameters.length)
    (hstack : g.stack = argsL.reverse ++ .ref b :: rest) (hW : 2 * g.monitorRoom + (rest.map fun v => v.category).sum ≤ W9) (hdg : decode c.code g.pc = .ok (.invokevirtual index, 3))
    (hpre : ∀ vm₁, s.WarmedH vm₁ → Pre ⟨T.setVm vm₁, locs, cells, slots⟩ (Value.ref b :: argsL).toArray) :
    (∃ (v : Option Value) (vm₁ : Vm) (B : Pt), s.WarmedH vm₁ ∧ Stand p l e R s m args below meth c B.U B.locs B.cells B.slots ∧ Post ⟨T.setVm vm₁, locs, cells, slots⟩ (Value.ref b :: argsL).toArray v B ∧
      ∀ target, Steps p.tables e below (B.U.setTop { g with pc := g.pc + 3, stack := v.toList ++ rest }) target → Steps p.tables e below (T.setTop g) target) ∨
    (∃ (q : Addr) (vm₁ : Vm) (B : Pt), s.WarmedH vm₁ ∧ Stand p l e R s m args below meth c B.U B.locs B.cells B.slots ∧ PostX ⟨T.setVm vm₁, locs, cells, slots⟩ (Value.ref b :: argsL).toArray q B ∧
      Steps p.tables e below (T.setTop g) ((B.U.setTop { g with stack := rest }).pushFrame (.throwing q))) := by
  obtain ⟨mk, methM, hnamed, hmethM, hstM, habM⟩ := Cond.instanceMethod_spec hinst
  obtain ⟨methM', cM, hmethM', -, -, -, -, -, -, hsigM⟩ := Cond.code_spec hnamed hcode
  cases hmethM.symm.trans hmethM'
  obtain ⟨c2, r2, m2, q1, q2, q3, q4, kP, hkP, hkPi⟩ := Cond.selects_spec hsel
  cases hcls.symm.trans q1
  cases (State.methodFound?_of_named hnamed hy).symm.trans q2
  cases hnamed.symm.trans q3
  have hselP : selectMethod e.platform s.vm cellB.cls mk = .method mk := by rw [Launch.admits_selectMethod X.admits]; exact q4
  obtain ⟨vm₁, X₁, hstep₁⟩ := X.invokevirtual hexec hown hlink hnamed hmethM hstM hkP hkPi hy (a := b) (cell := cellB) hcell
    (fun z h => by rw [h] at hobj; cases hobj) hselP hmethM habM hkP hkPi (g := g) hg (argsL := argsL) (rest := rest) (hlen _ hsigM) hstack hdg
  rcases hK m meth c ⟨T.setVm vm₁, locs, cells, slots⟩ { g with stack := rest } (.invokevirtual index) mk (Value.ref b :: argsL).toArray X₁ hg hsize hdg hW (X₁.named hnamed) (hpre vm₁ X₁.warmed) with ⟨v, B, X', hpost, hsteps⟩ | ⟨q, B, X', hpost, hsteps⟩
  · exact Or.inl ⟨v, vm₁, B, X₁.warmed, X', hpost, fun target h => hstep₁ _ fun acts => by rw [doInvoke_state]; exact hsteps.trans h⟩
  · exact Or.inr ⟨q, vm₁, B, X₁.warmed, X', hpost, hstep₁ _ fun acts => by rw [doInvoke_state]; exact hsteps⟩
theorem vx_callS (X : Stand p l e R s m args below meth c T locs cells slots) (hexec : p.tables.exec = Jvm.exec) {own : String} {index : Nat} {y : MethodName} {bytes : ByteArray} {maxL : Nat} {ret : Option FieldType}
    (hown : s.vm.findClass own = some m.cls) (hlink : (Cond.methodLink own index y).before args s = true) (hstat : (Cond.static y).before args s = true) (hinit : (Cond.initialized y.cls).before args s = true)
    (hcode : (Cond.code y bytes maxL ret).before args s = true) (hy : y.cls ≠ "java/lang/invoke/MethodHandle" ∧ y.cls ≠ "java/lang/invoke/VarHandle")
    {W9 : Nat} {Pre : Pt → Array Value → Prop} {Post : Pt → Array Value → Option Value → Pt → Prop} {PostX : Pt → Array Value → Addr → Pt → Prop} (hK : vx_Back l R p e below s args y 3 W9 Pre Post PostX)
    {g : JFrame} (hg : g.method = m) (hsize : g.locals.size = c.maxLocals) {argsL rest : List Value} (hlen : ∀ sig, parseMethodDescriptor y.desc = some sig → argsL.length = sig.parameters.length)
    (hstack : g.stack = argsL.reverse ++ rest) (hW : 2 * g.monitorRoom + (rest.map fun v => v.category).sum ≤ W9) (hdg : decode c.code g.pc = .ok (.invokestatic index, 3))
    (hpre : ∀ vm₁, s.WarmedH vm₁ → Pre ⟨T.setVm vm₁, locs, cells, slots⟩ argsL.toArray) :
    (∃ (v : Option Value) (vm₁ : Vm) (B : Pt), s.WarmedH vm₁ ∧ Stand p l e R s m args below meth c B.U B.locs B.cells B.slots ∧ Post ⟨T.setVm vm₁, locs, cells, slots⟩ argsL.toArray v B ∧
      ∀ target, Steps p.tables e below (B.U.setTop { g with pc := g.pc + 3, stack := v.toList ++ rest }) target → Steps p.tables e below (T.setTop g) target) ∨
    (∃ (q : Addr) (vm₁ : Vm) (B : Pt), s.WarmedH vm₁ ∧ Stand p l e R s m args below meth c B.U B.locs B.cells B.slots ∧ PostX ⟨T.setVm vm₁, locs, cells, slots⟩ argsL.toArray q B ∧
      Steps p.tables e below (T.setTop g) ((B.U.setTop { g with stack := rest }).pushFrame (.throwing q))) := by
  obtain ⟨mk, hnamed⟩ := Cond.code_named hcode
  obtain ⟨methM, cM, hmethM, -, -, -, -, -, -, hsigM⟩ := Cond.code_spec hnamed hcode
  have hstatic : methM.isStatic = true := Cond.static_spec hnamed hmethM hstat
  obtain ⟨kP, hkP, -⟩ := className_of_methodNamed hnamed
  have hinitP : kP.init = .initialized := Cond.initialized_spec (findClass_of_methodNamed hnamed) hkP hinit
  obtain ⟨vm₁, X₁, hstep₁⟩ := X.invokestatic hexec hown hlink hnamed hmethM hstatic hkP hinitP hy (g := g) hg (argsL := argsL) (rest := rest) (hlen _ hsigM) hstack hdg
  rcases hK m meth c ⟨T.setVm vm₁, locs, cells, slots⟩ { g with stack := rest } (.invokestatic index) mk argsL.toArray X₁ hg hsize hdg hW (X₁.named hnamed) (hpre vm₁ X₁.warmed) with ⟨v, B, X', hpost, hsteps⟩ | ⟨q, B, X', hpost, hsteps⟩
  · exact Or.inl ⟨v, vm₁, B, X₁.warmed, X', hpost, fun target h => hstep₁ _ fun acts => by rw [doInvoke_state]; exact hsteps.trans h⟩
  · exact Or.inr ⟨q, vm₁, B, X₁.warmed, X', hpost, hstep₁ _ fun acts => by rw [doInvoke_state]; exact hsteps⟩
end Calls
theorem vx_cls {s : State} {T : State} {vm₁ : Vm} {E : String} {k : ClassId} (hW : s.WarmedH vm₁) (h : (T.setVm vm₁).vm.findClass E = some k) : s.vm.findClass E = some k := by
  have h1 : vm₁.findClass E = some k := h
  rw [hW.alike.findClass] at h1
  exact h1
/-- the method's frame g, with q thrown over it -/
def vx_W (p : Program) (l : Launch) (e : Env) (R : Room) (s : State) (m : MethodId) (args : Array Value) (below : List Frame) (meth : Method) (c : Code) (H : Heap) (locs : List Loc) (cells slots : Nat) (Q : State → Prop) (g : JFrame) (q : Addr) : Prop :=
  ∀ T : State, T.heap = H → Stand p l e R s m args below meth c T locs cells slots → ∃ t, Steps p.tables e below ((T.setTop g).pushFrame (.throwing q)) t ∧ Q t
def vx_Run (p : Program) (l : Launch) (e : Env) (R : Room) (s : State) (m : MethodId) (args : Array Value) (below : List Frame) (meth : Method) (c : Code) (H : Heap) (locs : List Loc) (cells slots mc ms : Nat) (g : JFrame) (rest : List Value) (Qa : State → Outcome → State → Prop) (XC : String → State → State → Prop) (free : Addr → Prop) : Prop :=
  ∀ T : State, T.heap = H → Stand p l e R s m args below meth c T locs cells slots →
    (∃ (v : Option Value) (st₀ t T' : State) (L : List Loc), st₀.heap = H ∧ Stand p l e R s m args below meth c T' (locs ++ L) (cells + mc) (slots + ms) ∧ (∀ q ∈ L, free q.base) ∧ T'.heap = t.heap ∧ T'.vm = t.vm ∧ Qa st₀ (.returned v) t ∧
      Goes p e below T g T' { g with pc := g.pc + 3, stack := v.toList ++ rest }) ∨
    (∃ (q : Addr) (st₀ t T' : State) (L : List Loc) (E : String) (ce : Cell), st₀.heap = H ∧ Stand p l e R s m args below meth c T' (locs ++ L) (cells + mc) (slots + ms) ∧ (∀ z ∈ L, free z.base) ∧ T'.heap = t.heap ∧ T'.vm = t.vm ∧ XC E st₀ t ∧ t.heap[q]? = some ce ∧ ce.vm = .none ∧ s.vm.findClass E = some ce.cls ∧
      Steps p.tables e below (T.setTop g) ((T'.setTop { g with stack := rest }).pushFrame (.throwing q)))
def vx_X {S : Type} (px : S → Prop) (B : String → S → State → Prop) (A : Nat → Prop) : String → State → State → Prop := fun E st t => ∃ u : S, px u ∧ B E u t ∧ va_F A st t
section Runs
variable {p : Program} {l : Launch} {e : Env} {R : Room} {s : State} {m : MethodId} {args : Array Value} {below : List Frame} {meth : Method} {c : Code} {H : Heap} {locs : List Loc} {cells slots : Nat}
variable {y : MethodName} {bytes cc : ByteArray} {maxL nL mc ms n index : Nat} {ret : Option FieldType} {ws : List Cond} {rm : Room} {Pc : Array Value → State → Prop} {Qc : Array Value → State → Outcome → State → Prop} {XC : String → State → State → Prop} {free : Addr → Prop} {Ts : List Cond} {own C : String} {b : Addr} {As rest : List Value} {g : JFrame}
theorem vx_callBack (cb : CallB R s args own index y bytes maxL ret ws rm mc ms n) (hM : vx_Met l y ws rm Pc Qc XC mc ms free) (hbl : FrameBlind Pc) : vx_Back l R p e below s args y 3 8 (PreOf R mc ms Pc) (PostOf Qc mc ms free) (vx_Post XC mc ms free) := by
  obtain ⟨hrc, hrs, hfr, hlo, hws, hcw, -, hini, -⟩ := cb
  exact vx_back (bytes := bytes) (maxL := maxL) (ret := ret) hM hbl hrc hrs hfr hlo hws hcw (fun a' U hW => word_at hW (Or.inl (by first | rfl | simp [Cond.onTables, Cond.keeps, Cond.steady])) hini)
theorem vx_runV (S : CallFix p m c cc nL s args Ts own) (hM : vx_Met l y ws rm Pc Qc XC mc ms free) (cw : CallW R s args own C index y bytes maxL ret ws rm mc ms n) (hp : PreV s H C b Pc As)
    (hg : g.method = m) (hn : As.length = n) (hsize : g.locals.size = nL) (hstack : g.stack = As.reverse ++ .ref b :: rest) (hW : 2 * g.monitorRoom + (rest.map fun v => v.category).sum ≤ 8) (hdg : decode cc g.pc = .ok (.invokevirtual index, 3)) (hf : cells + mc ≤ R.cells ∧ slots + ms ≤ R.slots) :
    vx_Run p l e R s m args below meth c H locs cells slots mc ms g rest (Qc (Value.ref b :: As).toArray) XC free := by
  have hK : vx_Back l R p e below s args y 3 8 (PreOf R mc ms Pc) (PostOf Qc mc ms free) (vx_Post XC mc ms free) := vx_callBack cw.1 hM hp.1
  obtain ⟨⟨-, -, -, -, -, -, hcode, -, hy, hlen, hl⟩, hin, hse⟩ := cw
  obtain ⟨hx, hb, hml, ho, -⟩ := S
  obtain ⟨-, ⟨cellB, hcB, hoB, hclB⟩, hPc⟩ := hp
  intro T hT X
  rcases vx_callV X hx (C := C) (bytes := bytes) (maxL := maxL) (ret := ret) ho hl hin hse hcode hy hK (by rw [hT]; exact hcB) hoB hclB hg (hsize.trans hml.symm) (argsL := As) (rest := rest) (fun sig h => hn.trans (hlen sig h)) hstack hW (by rw [hb]; exact hdg)
    (fun vm₁ hW₁ => ⟨hf.1, hf.2, hPc (T.setVm vm₁) hT hW₁⟩) with ⟨v, vm₁, ⟨U', l2, c2, s2⟩, hW₁, X', ⟨g', mk, t, L, e1, e2, hq, h1, hL, h2, h3⟩, st⟩ | ⟨q, vm₁, ⟨U', l2, c2, s2⟩, hW₁, X', ⟨g', mk, t, L, E, ce, e1, e2, hq, hce, hcv, hcl, h1, hL, h2, h3⟩, st⟩
  · dsimp only [Pt.U, Pt.locs, Pt.cells, Pt.slots] at X' e1 e2 h1 h2 h3 st
    subst h1; subst h2; subst h3
    exact Or.inl ⟨v, (T.setVm vm₁).calling g' mk (Value.ref b :: As).toArray, t, U', L, hT, X', hL, e1, e2, hq, st⟩
  · dsimp only [Pt.U, Pt.locs, Pt.cells, Pt.slots] at X' e1 e2 h1 h2 h3 st hcl
    subst h1; subst h2; subst h3
    exact Or.inr ⟨q, (T.setVm vm₁).calling g' mk (Value.ref b :: As).toArray, t, U', L, E, ce, hT, X', hL, e1, e2, hq, hce, hcv, vx_cls hW₁ hcl, st⟩
theorem vx_runS (S : CallFix p m c cc nL s args Ts own) (hM : vx_Met l y ws rm Pc Qc XC mc ms free) (cw : CallB R s args own index y bytes maxL ret ws rm mc ms n ∧ (Cond.static y).before args s = true) (hp : PreS s H Pc As)
    (hg : g.method = m) (hn : As.length = n) (hsize : g.locals.size = nL) (hstack : g.stack = As.reverse ++ rest) (hW : 2 * g.monitorRoom + (rest.map fun v => v.category).sum ≤ 8) (hdg : decode cc g.pc = .ok (.invokestatic index, 3)) (hf : cells + mc ≤ R.cells ∧ slots + ms ≤ R.slots) :
    vx_Run p l e R s m args below meth c H locs cells slots mc ms g rest (Qc As.toArray) XC free := by
  have hK : vx_Back l R p e below s args y 3 8 (PreOf R mc ms Pc) (PostOf Qc mc ms free) (vx_Post XC mc ms free) := vx_callBack cw.1 hM hp.1
  obtain ⟨⟨-, -, -, -, -, -, hcode, hini, hy, hlen, hl⟩, hstt⟩ := cw
  obtain ⟨hx, hb, hml, ho, -⟩ := S
  intro T hT X
  rcases vx_callS X hx (bytes := bytes) (maxL := maxL) (ret := ret) ho hl hstt hini hcode hy hK hg (hsize.trans hml.symm) (argsL := As) (rest := rest) (fun sig h => hn.trans (hlen sig h)) hstack hW (by rw [hb]; exact hdg)
    (fun vm₁ hW₁ => ⟨hf.1, hf.2, hp.2 (T.setVm vm₁) hT hW₁⟩) with ⟨v, vm₁, ⟨U', l2, c2, s2⟩, hW₁, X', ⟨g', mk, t, L, e1, e2, hq, h1, hL, h2, h3⟩, st⟩ | ⟨q, vm₁, ⟨U', l2, c2, s2⟩, hW₁, X', ⟨g', mk, t, L, E, ce, e1, e2, hq, hce, hcv, hcl, h1, hL, h2, h3⟩, st⟩
  · dsimp only [Pt.U, Pt.locs, Pt.cells, Pt.slots] at X' e1 e2 h1 h2 h3 st
    subst h1; subst h2; subst h3
    exact Or.inl ⟨v, (T.setVm vm₁).calling g' mk As.toArray, t, U', L, hT, X', hL, e1, e2, hq, st⟩
  · dsimp only [Pt.U, Pt.locs, Pt.cells, Pt.slots] at X' e1 e2 h1 h2 h3 st hcl
    subst h1; subst h2; subst h3
    exact Or.inr ⟨q, (T.setVm vm₁).calling g' mk As.toArray, t, U', L, E, ce, hT, X', hL, e1, e2, hq, hce, hcv, vx_cls hW₁ hcl, st⟩
end Runs
section Rows
variable {p : Program} {l : Launch} {e : Env} {R : Room} {s : State} {m : MethodId} {args : Array Value} {below : List Frame} {meth : Method} {c : Code} {H : Heap} {locs : List Loc} {cells slots : Nat} {Q : State → Prop}
variable {mc ms : Nat} {free : Addr → Prop} {A0 A1 : Nat → Prop} {H0 : Heap} {a : Array Value} {pc : Nat} {ls : Array Slot} {st0 rest : List Value}
theorem vx_keep {st₀ t T' : State} {L : List Loc} (h0 : st₀.heap = H) (e1 : T'.heap = t.heap) (hS : va_S A0 H0 H locs) (hA : ∀ q, q < H.size → A1 q → A0 q) (hf : ∀ q, free q → A0 q) (hL : ∀ q ∈ L, free q.base) (hF : va_F A1 st₀ t) :
    H.size ≤ T'.heap.size ∧ (∀ q : Nat, q < H.size → ¬ A1 q → T'.heap[q]? = H[q]?) ∧ va_S A0 H0 T'.heap (locs ++ L) := by
  obtain ⟨hz, hk⟩ := hF
  rw [h0] at hz hk
  exact ⟨by rw [e1]; exact hz, fun q h1 h2 => by rw [e1]; exact hk q h1 h2,
    ⟨Nat.le_trans hS.1 (by rw [e1]; exact hz), fun q h1 h2 => by rw [e1, hk q (Nat.lt_of_lt_of_le h1 hS.1) (fun z => h2 (hA q (Nat.lt_of_lt_of_le h1 hS.1) z))]; exact hS.2.1 q h1 h2, fun q hq => by
      rcases List.mem_append.mp hq with h | h
      · exact hS.2.2 q h
      · exact hf _ (hL q h)⟩⟩
theorem vx_calli {S SX : Type} {post : Int32 → S → Prop} {px : SX → Prop} {B : S → State → Prop} {BX : String → SX → State → Prop} {AX : Nat → Prop} (hr : vx_Run p l e R s m args below meth c H locs cells slots mc ms (F0 m pc ls st0) rest (va_Qi post B A1 a) (vx_X px BX AX) free) (hS : va_S A0 H0 H locs) (hA : ∀ q, q < H.size → A1 q → A0 q) (hf : ∀ q, free q → A0 q) (hAX : ∀ q, q < H.size → AX q → A0 q)
    (kx : ∀ (E : String) (ce : Cell) (q9 : Addr) (u : SX) (t : State) (H1 : Heap) (locs1 : List Loc), t.heap = H1 → s.vm.Alike t.vm → px u → BX E u t → H.size ≤ H1.size → (∀ q : Nat, q < H.size → ¬ AX q → H1[q]? = H[q]?) → va_S A0 H0 H1 locs1 → H1[q9]? = some ce → ce.vm = .none → s.vm.findClass E = some ce.cls → vx_W p l e R s m args below meth c H1 locs1 (cells + mc) (slots + ms) Q (F0 m pc ls rest) q9)
    (kk : ∀ (r : Int32) (u : S) (t : State) (H1 : Heap) (locs1 : List Loc), t.heap = H1 → s.vm.Alike t.vm → post r u → B u t → H.size ≤ H1.size → (∀ q : Nat, q < H.size → ¬ A1 q → H1[q]? = H[q]?) → va_S A0 H0 H1 locs1 → W p l e R s m args below meth c H1 locs1 (cells + mc) (slots + ms) Q (F0 m (pc + 3) ls (.int r :: rest))) : W p l e R s m args below meth c H locs cells slots Q (F0 m pc ls st0) := by
  intro T hT X
  rcases hr T hT X with ⟨v, st₀, t, T', L, h0, X', hL, e1, e2, ⟨⟨r, u, hv, hp, hb⟩, hF⟩, st⟩ | ⟨q, st₀, t, T', L, E, ce, h0, X', hL, e1, e2, ⟨u, hp, hb, hF⟩, hce, hcv, hcl, st⟩
  · cases hv
    obtain ⟨k1, k2, k3⟩ := vx_keep h0 e1 hS hA hf hL hF
    obtain ⟨t2, a1, b1⟩ := kk r u t T'.heap (locs ++ L) e1.symm (by rw [← e2]; exact X'.warmed.alike) hp hb k1 k2 k3 T' rfl X'
    exact ⟨t2, st t2 a1, b1⟩
  · obtain ⟨k1, k2, k3⟩ := vx_keep h0 e1 hS hAX hf hL hF
    obtain ⟨t2, a1, b1⟩ := kx E ce q u t T'.heap (locs ++ L) e1.symm (by rw [← e2]; exact X'.warmed.alike) hp hb k1 k2 k3 (by rw [e1]; exact hce) hcv hcl T' rfl X'
    exact ⟨t2, st.trans a1, b1⟩
theorem vx_calll {S SX : Type} {post : Int64 → S → Prop} {px : SX → Prop} {B : S → State → Prop} {BX : String → SX → State → Prop} {AX : Nat → Prop} (hr : vx_Run p l e R s m args below meth c H locs cells slots mc ms (F0 m pc ls st0) rest (va_Ql post B A1 a) (vx_X px BX AX) free) (hS : va_S A0 H0 H locs) (hA : ∀ q, q < H.size → A1 q → A0 q) (hf : ∀ q, free q → A0 q) (hAX : ∀ q, q < H.size → AX q → A0 q)
    (kx : ∀ (E : String) (ce : Cell) (q9 : Addr) (u : SX) (t : State) (H1 : Heap) (locs1 : List Loc), t.heap = H1 → s.vm.Alike t.vm → px u → BX E u t → H.size ≤ H1.size → (∀ q : Nat, q < H.size → ¬ AX q → H1[q]? = H[q]?) → va_S A0 H0 H1 locs1 → H1[q9]? = some ce → ce.vm = .none → s.vm.findClass E = some ce.cls → vx_W p l e R s m args below meth c H1 locs1 (cells + mc) (slots + ms) Q (F0 m pc ls rest) q9)
    (kk : ∀ (r : Int64) (u : S) (t : State) (H1 : Heap) (locs1 : List Loc), t.heap = H1 → s.vm.Alike t.vm → post r u → B u t → H.size ≤ H1.size → (∀ q : Nat, q < H.size → ¬ A1 q → H1[q]? = H[q]?) → va_S A0 H0 H1 locs1 → W p l e R s m args below meth c H1 locs1 (cells + mc) (slots + ms) Q (F0 m (pc + 3) ls (.long r :: rest))) : W p l e R s m args below meth c H locs cells slots Q (F0 m pc ls st0) := by
  intro T hT X
  rcases hr T hT X with ⟨v, st₀, t, T', L, h0, X', hL, e1, e2, ⟨⟨r, u, hv, hp, hb⟩, hF⟩, st⟩ | ⟨q, st₀, t, T', L, E, ce, h0, X', hL, e1, e2, ⟨u, hp, hb, hF⟩, hce, hcv, hcl, st⟩
  · cases hv
    obtain ⟨k1, k2, k3⟩ := vx_keep h0 e1 hS hA hf hL hF
    obtain ⟨t2, a1, b1⟩ := kk r u t T'.heap (locs ++ L) e1.symm (by rw [← e2]; exact X'.warmed.alike) hp hb k1 k2 k3 T' rfl X'
    exact ⟨t2, st t2 a1, b1⟩
  · obtain ⟨k1, k2, k3⟩ := vx_keep h0 e1 hS hAX hf hL hF
    obtain ⟨t2, a1, b1⟩ := kx E ce q u t T'.heap (locs ++ L) e1.symm (by rw [← e2]; exact X'.warmed.alike) hp hb k1 k2 k3 (by rw [e1]; exact hce) hcv hcl T' rfl X'
    exact ⟨t2, st.trans a1, b1⟩
theorem vx_callf {S SX : Type} {post : UInt32 → S → Prop} {px : SX → Prop} {B : S → State → Prop} {BX : String → SX → State → Prop} {AX : Nat → Prop} (hr : vx_Run p l e R s m args below meth c H locs cells slots mc ms (F0 m pc ls st0) rest (va_Qf post B A1 a) (vx_X px BX AX) free) (hS : va_S A0 H0 H locs) (hA : ∀ q, q < H.size → A1 q → A0 q) (hf : ∀ q, free q → A0 q) (hAX : ∀ q, q < H.size → AX q → A0 q)
    (kx : ∀ (E : String) (ce : Cell) (q9 : Addr) (u : SX) (t : State) (H1 : Heap) (locs1 : List Loc), t.heap = H1 → s.vm.Alike t.vm → px u → BX E u t → H.size ≤ H1.size → (∀ q : Nat, q < H.size → ¬ AX q → H1[q]? = H[q]?) → va_S A0 H0 H1 locs1 → H1[q9]? = some ce → ce.vm = .none → s.vm.findClass E = some ce.cls → vx_W p l e R s m args below meth c H1 locs1 (cells + mc) (slots + ms) Q (F0 m pc ls rest) q9)
    (kk : ∀ (r : UInt32) (u : S) (t : State) (H1 : Heap) (locs1 : List Loc), t.heap = H1 → s.vm.Alike t.vm → post r u → B u t → H.size ≤ H1.size → (∀ q : Nat, q < H.size → ¬ A1 q → H1[q]? = H[q]?) → va_S A0 H0 H1 locs1 → W p l e R s m args below meth c H1 locs1 (cells + mc) (slots + ms) Q (F0 m (pc + 3) ls (.float r :: rest))) : W p l e R s m args below meth c H locs cells slots Q (F0 m pc ls st0) := by
  intro T hT X
  rcases hr T hT X with ⟨v, st₀, t, T', L, h0, X', hL, e1, e2, ⟨⟨r, u, hv, hp, hb⟩, hF⟩, st⟩ | ⟨q, st₀, t, T', L, E, ce, h0, X', hL, e1, e2, ⟨u, hp, hb, hF⟩, hce, hcv, hcl, st⟩
  · cases hv
    obtain ⟨k1, k2, k3⟩ := vx_keep h0 e1 hS hA hf hL hF
    obtain ⟨t2, a1, b1⟩ := kk r u t T'.heap (locs ++ L) e1.symm (by rw [← e2]; exact X'.warmed.alike) hp hb k1 k2 k3 T' rfl X'
    exact ⟨t2, st t2 a1, b1⟩
  · obtain ⟨k1, k2, k3⟩ := vx_keep h0 e1 hS hAX hf hL hF
    obtain ⟨t2, a1, b1⟩ := kx E ce q u t T'.heap (locs ++ L) e1.symm (by rw [← e2]; exact X'.warmed.alike) hp hb k1 k2 k3 (by rw [e1]; exact hce) hcv hcl T' rfl X'
    exact ⟨t2, st.trans a1, b1⟩
theorem vx_calld {S SX : Type} {post : UInt64 → S → Prop} {px : SX → Prop} {B : S → State → Prop} {BX : String → SX → State → Prop} {AX : Nat → Prop} (hr : vx_Run p l e R s m args below meth c H locs cells slots mc ms (F0 m pc ls st0) rest (va_Qd post B A1 a) (vx_X px BX AX) free) (hS : va_S A0 H0 H locs) (hA : ∀ q, q < H.size → A1 q → A0 q) (hf : ∀ q, free q → A0 q) (hAX : ∀ q, q < H.size → AX q → A0 q)
    (kx : ∀ (E : String) (ce : Cell) (q9 : Addr) (u : SX) (t : State) (H1 : Heap) (locs1 : List Loc), t.heap = H1 → s.vm.Alike t.vm → px u → BX E u t → H.size ≤ H1.size → (∀ q : Nat, q < H.size → ¬ AX q → H1[q]? = H[q]?) → va_S A0 H0 H1 locs1 → H1[q9]? = some ce → ce.vm = .none → s.vm.findClass E = some ce.cls → vx_W p l e R s m args below meth c H1 locs1 (cells + mc) (slots + ms) Q (F0 m pc ls rest) q9)
    (kk : ∀ (r : UInt64) (u : S) (t : State) (H1 : Heap) (locs1 : List Loc), t.heap = H1 → s.vm.Alike t.vm → post r u → B u t → H.size ≤ H1.size → (∀ q : Nat, q < H.size → ¬ A1 q → H1[q]? = H[q]?) → va_S A0 H0 H1 locs1 → W p l e R s m args below meth c H1 locs1 (cells + mc) (slots + ms) Q (F0 m (pc + 3) ls (.double r :: rest))) : W p l e R s m args below meth c H locs cells slots Q (F0 m pc ls st0) := by
  intro T hT X
  rcases hr T hT X with ⟨v, st₀, t, T', L, h0, X', hL, e1, e2, ⟨⟨r, u, hv, hp, hb⟩, hF⟩, st⟩ | ⟨q, st₀, t, T', L, E, ce, h0, X', hL, e1, e2, ⟨u, hp, hb, hF⟩, hce, hcv, hcl, st⟩
  · cases hv
    obtain ⟨k1, k2, k3⟩ := vx_keep h0 e1 hS hA hf hL hF
    obtain ⟨t2, a1, b1⟩ := kk r u t T'.heap (locs ++ L) e1.symm (by rw [← e2]; exact X'.warmed.alike) hp hb k1 k2 k3 T' rfl X'
    exact ⟨t2, st t2 a1, b1⟩
  · obtain ⟨k1, k2, k3⟩ := vx_keep h0 e1 hS hAX hf hL hF
    obtain ⟨t2, a1, b1⟩ := kx E ce q u t T'.heap (locs ++ L) e1.symm (by rw [← e2]; exact X'.warmed.alike) hp hb k1 k2 k3 (by rw [e1]; exact hce) hcv hcl T' rfl X'
    exact ⟨t2, st.trans a1, b1⟩
theorem vx_callv {S SX : Type} {post : S → Prop} {px : SX → Prop} {B : S → State → Prop} {BX : String → SX → State → Prop} {AX : Nat → Prop} (hr : vx_Run p l e R s m args below meth c H locs cells slots mc ms (F0 m pc ls st0) rest (va_Qv post B A1 a) (vx_X px BX AX) free) (hS : va_S A0 H0 H locs) (hA : ∀ q, q < H.size → A1 q → A0 q) (hf : ∀ q, free q → A0 q) (hAX : ∀ q, q < H.size → AX q → A0 q)
    (kx : ∀ (E : String) (ce : Cell) (q9 : Addr) (u : SX) (t : State) (H1 : Heap) (locs1 : List Loc), t.heap = H1 → s.vm.Alike t.vm → px u → BX E u t → H.size ≤ H1.size → (∀ q : Nat, q < H.size → ¬ AX q → H1[q]? = H[q]?) → va_S A0 H0 H1 locs1 → H1[q9]? = some ce → ce.vm = .none → s.vm.findClass E = some ce.cls → vx_W p l e R s m args below meth c H1 locs1 (cells + mc) (slots + ms) Q (F0 m pc ls rest) q9)
    (kk : ∀ (u : S) (t : State) (H1 : Heap) (locs1 : List Loc), t.heap = H1 → s.vm.Alike t.vm → post u → B u t → H.size ≤ H1.size → (∀ q : Nat, q < H.size → ¬ A1 q → H1[q]? = H[q]?) → va_S A0 H0 H1 locs1 → W p l e R s m args below meth c H1 locs1 (cells + mc) (slots + ms) Q (F0 m (pc + 3) ls (rest))) : W p l e R s m args below meth c H locs cells slots Q (F0 m pc ls st0) := by
  intro T hT X
  rcases hr T hT X with ⟨v, st₀, t, T', L, h0, X', hL, e1, e2, ⟨⟨u, hv, hp, hb⟩, hF⟩, st⟩ | ⟨q, st₀, t, T', L, E, ce, h0, X', hL, e1, e2, ⟨u, hp, hb, hF⟩, hce, hcv, hcl, st⟩
  · cases hv
    obtain ⟨k1, k2, k3⟩ := vx_keep h0 e1 hS hA hf hL hF
    obtain ⟨t2, a1, b1⟩ := kk u t T'.heap (locs ++ L) e1.symm (by rw [← e2]; exact X'.warmed.alike) hp hb k1 k2 k3 T' rfl X'
    exact ⟨t2, st t2 a1, b1⟩
  · obtain ⟨k1, k2, k3⟩ := vx_keep h0 e1 hS hAX hf hL hF
    obtain ⟨t2, a1, b1⟩ := kx E ce q u t T'.heap (locs ++ L) e1.symm (by rw [← e2]; exact X'.warmed.alike) hp hb k1 k2 k3 (by rw [e1]; exact hce) hcv hcl T' rfl X'
    exact ⟨t2, st.trans a1, b1⟩
/-- caught by the row x of this method's table; the rows ahead don't take it -/
theorem vx_catch {own name : String} {E : String} {ce : Cell} {q : Addr} (hown : s.vm.findClass own = some m.cls) (pre : List ExceptionTableEntry) (x : ExceptionTableEntry) (suf : List ExceptionTableEntry) (hsplit : c.exceptionTable.toList = pre ++ x :: suf)
    (hpass : ∀ z ∈ pre, covers z pc = false ∨ (z.catchType ≠ 0 ∧ ∃ nm : String, (Cond.classLink own z.catchType nm).before args s = true ∧ va_Nc E nm s)) (hx : covers x pc = true) (h0 : x.catchType ≠ 0)
    (hlink : (Cond.classLink own x.catchType name).before args s = true) (hcast : (Cond.castable E name).before args s = true) (hcell : H[q]? = some ce) (hv : ce.vm = .none) (hcl : s.vm.findClass E = some ce.cls)
    (kk : W p l e R s m args below meth c H locs cells slots Q (F0 m x.handlerPc ls [.ref q])) : vx_W p l e R s m args below meth c H locs cells slots Q (F0 m pc ls rest) q := by
  intro T hT X
  have hpl : e.platform.magicAccessors = ({} : Platform).magicAccessors := by rw [X.admits.platform]
  obtain ⟨c3, c4, hc3, hc4, hasg⟩ := Cond.castable_spec hcast
  cases Option.some.inj (hc3.symm.trans hcl)
  obtain ⟨c5, hc5, hcl5⟩ := Cond.classLink_spec hown hlink e.platform hpl
  cases Option.some.inj (hc4.symm.trans hc5)
  obtain ⟨vm', X', st⟩ := X.thenCaughtThrough q (g := F0 m pc ls rest) rfl (Steps.refl _) (by rw [hT]; exact hcell) (by rw [hv]; rfl) (by obtain ⟨k9, h9, -⟩ := Vm.findClass_spec hcl; exact ⟨k9, h9⟩) pre x suf hsplit
    (fun z hz => by
      rcases hpass z hz with h | ⟨hz0, nm, hl1, hn1⟩
      · exact Or.inl h
      · obtain ⟨c6, hc6, hcl6⟩ := Cond.classLink_spec hown hl1 e.platform hpl
        obtain ⟨a8, b8, h1, h2, h3⟩ := hn1
        cases Option.some.inj (h1.symm.trans hcl)
        cases Option.some.inj (h2.symm.trans hc6)
        exact Or.inr ⟨hz0, _, hcl6, h3⟩) hx (Or.inr ⟨h0, c4, hcl5, hasg⟩)
  obtain ⟨t, a1, b1⟩ := kk (T.setVm vm') hT X'
  exact ⟨t, st.trans a1, b1⟩
end Rows
section Ends
variable {p : Program} {l : Launch} {e : Env} {R : Room} {s : State} {m : MethodId} {args : Array Value} {below : List Frame} {meth : Method} {c : Code} {H : Heap} {locs : List Loc} {cells slots : Nat} {Q : State → Prop}
variable {mc ms : Nat} {free : Addr → Prop} {A0 A1 : Nat → Prop} {H0 : Heap} {a : Array Value} {ls : Array Slot} {st0 rest : List Value}
variable {Qc : Array Value → State → Outcome → State → Prop} {XC : String → State → State → Prop}
/-- what a body that may throw owes at its end -/
def vx_MQ (below : List Frame) (Qc : Array Value → State → Outcome → State → Prop) (XC : String → State → State → Prop) (a : Array Value) (s : State) (mc ms : Nat) (free : Addr → Prop) : State → Prop := fun t =>
  ∃ o, t.status = .running ∧ Ended t below o ∧ vx_Q Qc XC mc ms free a s o t
theorem vx_ret {g : JFrame} {mc ms : Nat} (k : W p l e R s m args below meth c H locs cells slots (MQ below Qc args s mc ms free) g) : W p l e R s m args below meth c H locs cells slots (vx_MQ below Qc XC args s mc ms free) g := by
  intro T hT X
  obtain ⟨t, a1, o, b1, b2, b3, b4⟩ := k T hT X
  exact ⟨t, a1, o, b1, b2, Or.inl ⟨b3, b4⟩⟩
/-- not caught here: it goes on to the caller -/
theorem vx_widen {g : JFrame} {q : Addr} {k n : Nat} (h1 : cells ≤ k) (h2 : slots ≤ n) (kk : vx_W p l e R s m args below meth c H locs k n Q g q) : vx_W p l e R s m args below meth c H locs cells slots Q g q := fun T hT X => kk T hT (stand_widen X h1 h2)
theorem vx_out {pc : Nat} {E : String} {ce : Cell} {q : Addr} {mc ms : Nat} (hout : ∀ x ∈ c.exceptionTable.toList, covers x pc = false) (hlocks : meth.locks = false) (hcell : H[q]? = some ce) (hv : ce.vm = .none) (hcl : s.vm.findClass E = some ce.cls)
    (hx : ∀ t : State, t.heap = H → s.vm.Alike t.vm → XC E s t) (hf : ∀ z ∈ locs, free z.base) (hc : cells ≤ mc) (hs : slots ≤ ms) :
    vx_W p l e R s m args below meth c H locs cells slots (vx_MQ below Qc XC args s mc ms free) (F0 m pc ls rest) q := by
  intro T hT X
  obtain ⟨st1, hrun, hend, hW, hsm⟩ := X.leaveThrown q (g := F0 m pc ls rest) rfl rfl rfl hout hlocks
  have hcell9 : (T.setFrames (.throwing q :: below)).heap[q]? = some ce := by
    show T.heap[q]? = some ce
    rw [hT]; exact hcell
  exact ⟨_, st1, .threw q, hrun, hend, Or.inr ⟨q, rfl, E, ce, locs, hx _ hT hW.alike, hcell9, hv, hcl, hW, hsm.mono hc hs, hf⟩⟩
theorem vx_frame {U : State} {k n : Nat} (h : s.sameButNew ({ U with vm := s.vm } : State) locs k n) : s.heap.size ≤ U.heap.size ∧ ∀ q : Nat, q < s.heap.size → (∀ z ∈ locs, z.base ≠ q) → U.heap[q]? = s.heap[q]? := by
  obtain ⟨-, h2, -, -, -, h6⟩ := h
  refine ⟨h2, fun q hq hz => ?_⟩
  obtain ⟨c9, e1, e2, e3, e4⟩ := h6 q _ (Array.getElem?_eq_getElem hq)
  have hs : c9.slots = (s.heap[q]).slots := Array.ext_getElem? fun i => e4 i fun hm => hz _ hm rfl
  have h9 : c9 = s.heap[q] := by
    rw [hs] at e2
    exact e2
  have e5 : U.heap[q]? = some c9 := e1
  rw [e5, h9, Array.getElem?_eq_getElem hq]
/-- the words of a throw but the four that speak of the heap -/
def vx_no (w : Cond) : Bool := decide (w ≠ .isRef (.static Bundle.tN "UNASSIGNED_STACK" Bundle.steD)) && decide (w ≠ .isRef (.static Bundle.tN "SUPPRESSED_SENTINEL" Bundle.listD)) && decide (w ≠ .laysStatic Bundle.tN "UNASSIGNED_STACK" Bundle.steD) && decide (w ≠ .laysStatic Bundle.tN "SUPPRESSED_SENTINEL" Bundle.listD)
def vx_at0 (own : String) (ic : Nat) (X : String) (names : List String) : List Cond := (Bundle.ownAtoms0 own ic X names).filter vx_no
def vx_atS (own : String) (ic : Nat) (X : String) (names : List String) : List Cond := (Bundle.ownAtoms own ic X names).filter vx_no
/-- a word that the tables alone decide, or a good one -/
def vx_ot (w : Cond) : Bool := w.onTables || goodWord w
theorem vx_ot_at {args a' : Array Value} {s U : State} {w : Cond} (hW : s.WarmedH U.vm) (hvm : s.vm = U.vm) (hg : vx_ot w = true) (h : w.before args s = true) : w.before a' U = true := by
  simp only [vx_ot, Bool.or_eq_true] at hg
  rcases hg with hg | hg
  · exact va_tabs hg hvm h
  · exact word_at hW (good_of_word hg) h
/-- a list's words: the good ones out of the method's own list, the others by premises of their own -/
theorem vx_hat {args : Array Value} {s : State} {L B : List Cond} (h1 : ∀ w ∈ L.filter goodWord, w.before args s = true) (h2 : ∀ w ∈ L.filter (fun w => !goodWord w), w ∈ B) (h3 : ∀ w ∈ B, w.before args s = true) : ∀ w ∈ L, w.before args s = true := by
  intro w hw
  by_cases g : goodWord w = true
  · exact h1 w (List.mem_filter.mpr ⟨hw, g⟩)
  · refine h3 w (h2 w (List.mem_filter.mpr ⟨hw, ?_⟩))
    show (!goodWord w) = true
    cases hgw : goodWord w
    · rfl
    · exact absurd hgw g
theorem vx_c {args : Array Value} {s : State} {w : Cond} {B : List Cond} (h : w.before args s = true) (t : ∀ w ∈ B, w.before args s = true) : ∀ w' ∈ w :: B, w'.before args s = true := fun w' h' => (List.mem_cons.mp h').elim (fun e => by rw [e]; exact h) (t w')
theorem vx_n {args : Array Value} {s : State} : ∀ w ∈ ([] : List Cond), w.before args s = true := fun _ h => nomatch h
theorem vx_own {args : Array Value} {s : State} {L : List Cond} (h1 : ∀ w ∈ L.filter vx_no, w.before args s = true)
    (hU : (Cond.isRef (.static Bundle.tN "UNASSIGNED_STACK" Bundle.steD)).before args s = true) (hN : (Cond.isRef (.static Bundle.tN "SUPPRESSED_SENTINEL" Bundle.listD)).before args s = true)
    (lU : (Cond.laysStatic Bundle.tN "UNASSIGNED_STACK" Bundle.steD).before args s = true) (lN : (Cond.laysStatic Bundle.tN "SUPPRESSED_SENTINEL" Bundle.listD).before args s = true) : ∀ w ∈ L, w.before args s = true := by
  intro w hw
  by_cases e1 : w = .isRef (.static Bundle.tN "UNASSIGNED_STACK" Bundle.steD)
  · rw [e1]; exact hU
  · by_cases e2 : w = .isRef (.static Bundle.tN "SUPPRESSED_SENTINEL" Bundle.listD)
    · rw [e2]; exact hN
    · by_cases e3 : w = .laysStatic Bundle.tN "UNASSIGNED_STACK" Bundle.steD
      · rw [e3]; exact lU
      · by_cases e4 : w = .laysStatic Bundle.tN "SUPPRESSED_SENTINEL" Bundle.listD
        · rw [e4]; exact lN
        · exact h1 w (List.mem_filter.mpr ⟨hw, by unfold vx_no; rw [decide_eq_true e1, decide_eq_true e2, decide_eq_true e3, decide_eq_true e4]; rfl⟩)
/-- where a static field lies, its class's statics cell in H -/
def vx_L (C n d : String) (A : Nat → Prop) (U : State) (H : Heap) : Prop := ∃ (c : ClassId) (k : Class) (i : Nat) (f : Field) (a : Nat) (cell : Cell), U.vm.findClass C = some c ∧ U.fieldFound? C n d = some (c, k, i, f) ∧ f.isStatic = true ∧ k.statics = some a ∧ H[a]? = some cell ∧ cell.vm.isStatics = true ∧ cell.cls = c ∧ f.slot < cell.slots.size ∧ k.staticTypes[f.slot]? = some f.type ∧ ¬ A a
theorem vx_L.moved {C n d : String} {A : Nat → Prop} {u U : State} {H : Heap} (hvm : u.vm.Alike U.vm) (h : vx_L C n d A u H) : vx_L C n d A U H := by
  obtain ⟨c, k, i, f, a, cell, h1, h2, h3, h4, h5, h6, h7, h8, h9, h10⟩ := h
  obtain ⟨k', hi', he⟩ := State.fieldFound?_setVm hvm h2
  exact ⟨c, k', i, f, a, cell, by rw [hvm.findClass]; exact h1, hi', h3, by rw [he]; exact h4, h5, h6, h7, h8, by rw [he]; exact h9, h10⟩
theorem vx_L.kept {C n d : String} {A : Nat → Prop} {U : State} {H H1 : Heap} (h : vx_L C n d A U H) (hq : ∀ a : Nat, a < H.size → ¬ A a → H1[a]? = H[a]?) : vx_L C n d A U H1 := by
  obtain ⟨c, k, i, f, a, cell, h1, h2, h3, h4, h5, h6, h7, h8, h9, h10⟩ := h
  exact ⟨c, k, i, f, a, cell, h1, h2, h3, h4, by rw [hq a (Array.getElem?_eq_some_iff.mp h5).1 h10]; exact h5, h6, h7, h8, h9, h10⟩
theorem vx_L.narrow {C n d : String} {A B : Nat → Prop} {U : State} {H : Heap} (h : vx_L C n d A U H) (hAB : ∀ q, B q → A q) : vx_L C n d B U H := by
  obtain ⟨c, k, i, f, a, cell, h1, h2, h3, h4, h5, h6, h7, h8, h9, h10⟩ := h
  exact ⟨c, k, i, f, a, cell, h1, h2, h3, h4, h5, h6, h7, h8, h9, fun z => h10 (hAB _ z)⟩
theorem vx_L.word {C n d : String} {A : Nat → Prop} {s : State} {args : Array Value} (h : vx_L C n d A s s.heap) : (Cond.laysStatic C n d).before args s = true := by
  obtain ⟨c, k, i, f, a, cell, h1, h2, h3, h4, h5, h6, h7, h8, h9, -⟩ := h
  show (Cond.laysStatic C n d).holds args s none s [] = true
  exact Cond.laysStatic_of h1 h2 h3 h4 h5 h6 h7 h8 h9
/-- .. and what it holds: null or some reference -/
def vx_Zq (C n d : String) (A : Nat → Prop) (U : State) (H : Heap) : Prop := va_Zq C n d A U H ∧ vx_L C n d A U H
theorem vx_Zq.moved {C n d : String} {A : Nat → Prop} {u U : State} {H : Heap} (hvm : u.vm.Alike U.vm) (h : vx_Zq C n d A u H) : vx_Zq C n d A U H := ⟨va_Zq.moved hvm h.1, vx_L.moved hvm h.2⟩
theorem vx_Zq.kept {C n d : String} {A : Nat → Prop} {U : State} {H H1 : Heap} (h : vx_Zq C n d A U H) (hq : ∀ a : Nat, a < H.size → ¬ A a → H1[a]? = H[a]?) : vx_Zq C n d A U H1 := ⟨va_Zq.kept h.1 hq, vx_L.kept h.2 hq⟩
theorem vx_Zq.narrow {C n d : String} {A B : Nat → Prop} {U : State} {H : Heap} (h : vx_Zq C n d A U H) (hAB : ∀ q, B q → A q) : vx_Zq C n d B U H := ⟨va_Zq.narrow h.1 hAB, vx_L.narrow h.2 hAB⟩
theorem vx_Zqof {args : Array Value} {s : State} {C n d : String} {A : Nat → Prop} (hl : (Cond.laysStatic C n d).before args s = true) (hini : (Cond.initialized C).before args s = true) (h : (Cond.isRef (.static C n d)).before args s = true) (hA : ∀ a : Nat, a < s.heap.size → ¬ A a) : vx_Zq C n d A s s.heap := by
  refine ⟨va_Zqof hl hini h hA, ?_⟩
  obtain ⟨c, k, i, f, a, cell, h1, h2, h3, h4, h5, h6, h7, h8, h9⟩ := Cond.laysStatic_spec hl
  exact ⟨c, k, i, f, a, cell, h1, h2, h3, h4, h5, h6, h7, h8, h9, hA a (Array.getElem?_eq_some_iff.mp h5).1⟩
theorem vx_isRef {C n d : String} {v : Value} {A : Nat → Prop} {s : State} {args : Array Value} (h : va_Z C n d v A s s.heap) (hv : v.isRef = true) : (Cond.isRef (.static C n d)).before args s = true := by
  obtain ⟨cf, kf, fi, f, a, cell, h1, h2, h3, h4, h5, h6, h7, -⟩ := h
  have he : (Term.static C n d).eval args s none [] s = some v := by
    simp [Term.eval, State.fieldNamed?, h1, h2, h4, h5, h6, h7]
  simp only [Cond.before, Cond.holds, Cond.value, he]
  cases v <;> simp_all [Value.isRef]
theorem vx_isRefq {C n d : String} {A : Nat → Prop} {s : State} {args : Array Value} (h : va_Zq C n d A s s.heap) : (Cond.isRef (.static C n d)).before args s = true := by
  rcases h with h | ⟨t, h⟩
  · exact vx_isRef h rfl
  · exact vx_isRef h rfl
/-- the same frame, seen from here: as if the method were called anew in this heap -/
theorem vx_rebase {T : State} (X : Stand p l e R s m args below meth c T locs cells slots) {R' : Room} (hf : R'.frames ≤ R.frames) (hl : R'.locals ≤ R.locals) (hc : cells + R'.cells ≤ R.cells) (hs : slots + R'.slots ≤ R.slots) :
    Stand p l e R' ((T.setVm s.vm).setFrames (.invoking m args :: below)) m args below meth c T [] 0 0 := by
  have htop : (T.setVm s.vm).topJava?.isSome := X.here.top
  have hF : ((T.setVm s.vm).setFrames (.invoking m args :: below)).frames = .invoking m args :: below := State.frames_setFrames _ (State.cur_lt_of_top htop)
  obtain ⟨g₀, hg0⟩ := Option.isSome_iff_exists.mp htop
  obtain ⟨r, hr⟩ := State.topJava?_eq_some.mp hg0
  have hl9 : e.platform.stackLimits (T.setVm s.vm).me = e.platform.stackLimits s.me := X.limits
  have hb9 : (T.setVm s.vm).me.stackBytes = s.me.stackBytes := X.bytes
  refine ⟨X.admits, X.cas, X.clock, hF, ?_, X.hears, X.method, X.code, X.here, X.tail, X.warmed, ?_, ?_, ?_⟩
  · have h := X.room
    have hU : ((T.setVm s.vm).setFrames (.invoking m args :: below)).localsInUse = s.localsInUse := by
      rw [State.localsInUse_invoking hF (meth := meth) (c := c) X.method X.code, State.localsInUse_invoking X.frames X.method X.code]
    simp only [State.hasRoom, Bool.and_eq_true, decide_eq_true_eq] at h ⊢
    obtain ⟨⟨⟨⟨h1, h2, h3, h4, h5, h6⟩, h7⟩, h8⟩, h9⟩ := h
    rw [X.frames, List.length_cons] at h2 h3
    have q1 := X.heapSize
    have q2 := X.used
    simp only [hF, hU, List.length_cons, State.stackLimits_setFrames, State.stackBytes_setFrames, hl9, hb9]
    refine ⟨⟨⟨⟨by omega, by omega, by omega, by omega, by omega, h6⟩, ?_⟩, ?_⟩, X.book⟩
    · show T.heap.size + R'.cells ≤ e.platform.maxCells
      omega
    · show T.slotsUsed + R'.slots ≤ e.platform.maxSlots
      omega
  · rw [State.stackLimits_setFrames]; rfl
  · rw [State.stackBytes_setFrames]; rfl
  · refine ⟨?_, Nat.le_refl _, Nat.le_refl _, ?_, ?_, fun a c9 h9 => ⟨c9, h9, rfl, rfl, fun _ _ => rfl⟩⟩
    · obtain ⟨t, ht, -⟩ := State.frames_cons hr
      show T.setVm s.vm = { ((T.setVm s.vm).setFrames (.invoking m args :: below)).setFrames (T.setVm s.vm).frames with heap := T.heap, slotsUsed := T.slotsUsed }
      rw [State.setFrames_setFrames, State.setFrames_self ht]
      rfl
    · show T.slotsUsed = T.slotsUsed + ((T.heap.toList.drop T.heap.size).map (·.slots.size)).sum
      rw [List.drop_eq_nil_of_le (Nat.le_of_eq Array.length_toList)]
      rfl
    · show ((T.heap.toList.drop T.heap.size).map (·.slots.size)).sum ≤ 0
      rw [List.drop_eq_nil_of_le (Nat.le_of_eq Array.length_toList)]
      exact Nat.le_refl _
/-- 'throw new E()': new; dup; invokespecial; athrow -/
theorem vx_throw0 {cc : ByteArray} {pc : Nat} (hexec : p.tables.exec = Jvm.exec) (hb : c.code = cc) (hl : l.stackTraces = false) {own cls : String} {names : List String} {ik ic mc ms : Nat} {A : Nat → Prop}
    (hown : s.vm.findClass own = some m.cls) (hcls : Bundle.fit cls = true) (hnames : ∀ n ∈ names, Bundle.fit n = true)
    (hk : (Cond.classLink own ik cls).before args s = true) (hini : (Cond.initialized cls).before args s = true) (hat : ∀ w ∈ vx_at0 own ic cls names, w.before args s = true)
    (hgood : ∀ w ∈ Cond.classLink own ik cls :: Cond.initialized cls :: vx_at0 own ic cls names, vx_ot w = true)
    (hU : vx_Zq Bundle.tN "UNASSIGNED_STACK" Bundle.steD A s s.heap) (hN : vx_Zq Bundle.tN "SUPPRESSED_SENTINEL" Bundle.listD A s s.heap) (hS : va_S A s.heap H locs) (hsize : ls.size = c.maxLocals)
    (d0 : decode cc pc = .ok (.new ik, 3)) (d3 : decode cc (pc + 3) = .ok (.dup, 1)) (d4 : decode cc (pc + 4) = .ok (.invokespecial ic, 3)) (d7 : decode cc (pc + 7) = .ok (.athrow, 1))
    (hout : ∀ x ∈ c.exceptionTable.toList, covers x (pc + 7) = false)
    (hRframes : names.length + 3 < R.frames) (hRlocals : (rest.map fun v => v.category).sum + (13 * (names.length + 1) + 42) ≤ R.locals) (hRcells : cells + 1 ≤ R.cells) (hRslots : slots + 6 ≤ R.slots) (hlocks : meth.locks = false)
    (hx : ∀ t : State, s.vm.Alike t.vm → H.size ≤ t.heap.size → (∀ q : Nat, q < H.size → t.heap[q]? = H[q]?) → XC cls s t)
    (hf : ∀ z ∈ locs, free z.base) (hc : cells + 1 ≤ mc) (hs : slots + 6 ≤ ms) :
    W p l e R s m args below meth c H locs cells slots (vx_MQ below Qc XC args s mc ms free) (F0 m pc ls rest) := by
  intro T hT X
  have htr : e.platform.stackTraces = false := (show e.platform.stackTraces = l.stackTraces by rw [X.admits.platform]).trans hl
  have Y := vx_rebase X (R' := { frames := R.frames, locals := R.locals, cells := 1, slots := 6 }) (Nat.le_refl _) (Nat.le_refl _) hRcells hRslots
  obtain ⟨s', hA⟩ : ∃ z, z = (T.setVm s.vm).setFrames (.invoking m args :: below) := ⟨_, rfl⟩
  rw [← hA] at Y
  have hvm : s'.vm = s.vm := by rw [hA]; rfl
  have hhp : s'.heap = H := by rw [hA]; exact hT
  have hW0 : s.WarmedH s'.vm := by rw [hvm]; exact State.WarmedH.refl s
  have hat' : ∀ w ∈ vx_at0 own ic cls names, w.before args s' = true := fun w hw => vx_ot_at hW0 hvm.symm (hgood w (List.mem_cons_of_mem _ (List.mem_cons_of_mem _ hw))) (hat w hw)
  have hk' : (Cond.classLink own ik cls).before args s' = true := vx_ot_at hW0 hvm.symm (hgood _ List.mem_cons_self) hk
  have hini' : (Cond.initialized cls).before args s' = true := vx_ot_at hW0 hvm.symm (hgood _ (List.mem_cons_of_mem _ List.mem_cons_self)) hini
  have hU' : vx_Zq Bundle.tN "UNASSIGNED_STACK" Bundle.steD A s' s'.heap := by rw [hhp]; exact vx_Zq.moved hW0.alike (hU.kept hS.2.1)
  have hN' : vx_Zq Bundle.tN "SUPPRESSED_SENTINEL" Bundle.listD A s' s'.heap := by rw [hhp]; exact vx_Zq.moved hW0.alike (hN.kept hS.2.1)
  have h : ∀ w ∈ Bundle.ownAtoms0 own ic cls names, w.before args s' = true := vx_own hat' (vx_isRefq hU'.1) (vx_isRefq hN'.1) hU'.2.word hN'.2.word
  have hown' : s'.vm.findClass own = some m.cls := by rw [hvm]; exact hown
  have hins : (Cond.instantiable cls 6).before args s' = true := h _ (by simp [Bundle.ownAtoms0])
  obtain ⟨vm₁, cX, kX, hfX, hkX, -, -, X₁, st1⟩ := Y.newCold hexec (own := own) (C := cls) (index := ik) (n := 6) hown' hk' hins hini'
    (g := F0 m pc ls rest) rfl (by rw [hb]; exact d0) (Nat.le_refl _) (Nat.le_refl _)
  generalize hT1 : (T.setVm vm₁).pushCell { cls := cX, slots := kX.instanceTypes.map defaultValue, vm := .none } = T1 at X₁ st1
  have hcat : (Value.ref T.heap.size).category = 1 := rfl
  have hcellA : T1.heap[T.heap.size]? = some (freshCell cX kX) := by rw [← hT1]; exact State.heap_pushCell_size _ _
  have d3' : decode c.code (pc + 3) = .ok (.dup, 1) := by rw [hb]; exact d3
  obtain ⟨U, hsteps, hrun, hend, hW, hsame, ce, hce, hO⟩ := X₁.ctorThrow0 hexec htr (own := own) (cls := cls) (names := names) (ic := ic) hown' hcls hnames h (fun x hx => nomatch hx) hfX hkX hcellA (by rw [hhp, hT]; exact Nat.le_refl _)
    (g := { method := m, pc := pc + 4, locals := ls, stack := .ref T.heap.size :: .ref T.heap.size :: rest, locked := none }) rfl hsize rfl rfl (rest := rest) rfl
    (by rw [hb]; exact d4) (by rw [hb]; exact d7) hout hRframes (by simp only [List.map_cons, List.sum_cons, hcat]; omega) hlocks
  obtain ⟨f1, f2⟩ := vx_frame hsame
  rw [hhp] at f1 f2
  have hWs : s.WarmedH U.vm := State.WarmedH.trans hW0 hW
  have hcl : s.vm.findClass cls = some ce.cls := by
    have h9 := hO.cls
    rw [hvm] at h9
    exact h9
  have hall : s.sameButNew ({ U with vm := s.vm } : State) locs mc ms := by
    subst hA
    obtain ⟨e1, e2⟩ := hsame
    rw [State.setFrames_setFrames] at e1
    have h2 : (T.setVm s.vm).sameButNew ({ U with vm := s.vm } : State) [] (0 + 1) (0 + 6) := ⟨e1, e2⟩
    have h3 := X.same.trans h2
    rw [List.append_nil] at h3
    exact h3.mono hc hs
  refine ⟨U, ?_, .threw T.heap.size, hrun, hend, Or.inr ⟨T.heap.size, rfl, cls, ce, locs, hx U hWs.alike f1 (fun q hq => f2 q hq (fun z hz => nomatch hz)), hce, hO.vm, hcl, hWs, hall, hf⟩⟩
  refine st1 _ ?_
  show Steps p.tables e below (T1.setTop { method := m, pc := pc + 3, locals := ls, stack := .ref T.heap.size :: rest, locked := none }) _
  jvm_step X₁.here [X₁.here.top, hexec, d3', Value.category]
  exact hsteps
/-- 'throw new E("text")': new; dup; ldc; invokespecial; athrow -/
theorem vx_throwS {cc : ByteArray} {pc : Nat} (hexec : p.tables.exec = Jvm.exec) (hb : c.code = cc) (hl : l.stackTraces = false) {own cls text : String} {names : List String} {ik is ic mc ms sa : Nat} {A : Nat → Prop}
    (hown : s.vm.findClass own = some m.cls) (hcls : Bundle.fit cls = true) (hnames : ∀ n ∈ names, Bundle.fit n = true)
    (hk : (Cond.classLink own ik cls).before args s = true) (hini : (Cond.initialized cls).before args s = true) (hstr : vk_R own is text sa s) (hat : ∀ w ∈ vx_atS own ic cls names, w.before args s = true)
    (hgood : ∀ w ∈ Cond.classLink own ik cls :: Cond.initialized cls :: vx_atS own ic cls names, vx_ot w = true)
    (hU : vx_Zq Bundle.tN "UNASSIGNED_STACK" Bundle.steD A s s.heap) (hN : vx_Zq Bundle.tN "SUPPRESSED_SENTINEL" Bundle.listD A s s.heap) (hS : va_S A s.heap H locs) (hsize : ls.size = c.maxLocals)
    (d0 : decode cc pc = .ok (.new ik, 3)) (d3 : decode cc (pc + 3) = .ok (.dup, 1)) (d4 : decode cc (pc + 4) = .ok (.ldc is, 2)) (d6 : decode cc (pc + 6) = .ok (.invokespecial ic, 3)) (d9 : decode cc (pc + 9) = .ok (.athrow, 1))
    (hout : ∀ x ∈ c.exceptionTable.toList, covers x (pc + 9) = false)
    (hRframes : names.length + 3 < R.frames) (hRlocals : (rest.map fun v => v.category).sum + (13 * (names.length + 1) + 43) ≤ R.locals) (hRcells : cells + 1 ≤ R.cells) (hRslots : slots + 6 ≤ R.slots) (hlocks : meth.locks = false)
    (hx : ∀ t : State, s.vm.Alike t.vm → H.size ≤ t.heap.size → (∀ q : Nat, q < H.size → t.heap[q]? = H[q]?) → XC cls s t)
    (hf : ∀ z ∈ locs, free z.base) (hc : cells + 1 ≤ mc) (hs : slots + 6 ≤ ms) :
    W p l e R s m args below meth c H locs cells slots (vx_MQ below Qc XC args s mc ms free) (F0 m pc ls rest) := by
  intro T hT X
  have htr : e.platform.stackTraces = false := (show e.platform.stackTraces = l.stackTraces by rw [X.admits.platform]).trans hl
  have Y := vx_rebase X (R' := { frames := R.frames, locals := R.locals, cells := 1, slots := 6 }) (Nat.le_refl _) (Nat.le_refl _) hRcells hRslots
  obtain ⟨s', hA⟩ : ∃ z, z = (T.setVm s.vm).setFrames (.invoking m args :: below) := ⟨_, rfl⟩
  rw [← hA] at Y
  have hvm : s'.vm = s.vm := by rw [hA]; rfl
  have hhp : s'.heap = H := by rw [hA]; exact hT
  have hW0 : s.WarmedH s'.vm := by rw [hvm]; exact State.WarmedH.refl s
  have hat' : ∀ w ∈ vx_atS own ic cls names, w.before args s' = true := fun w hw => vx_ot_at hW0 hvm.symm (hgood w (List.mem_cons_of_mem _ (List.mem_cons_of_mem _ hw))) (hat w hw)
  have hk' : (Cond.classLink own ik cls).before args s' = true := vx_ot_at hW0 hvm.symm (hgood _ List.mem_cons_self) hk
  have hini' : (Cond.initialized cls).before args s' = true := vx_ot_at hW0 hvm.symm (hgood _ (List.mem_cons_of_mem _ List.mem_cons_self)) hini
  have hU' : vx_Zq Bundle.tN "UNASSIGNED_STACK" Bundle.steD A s' s'.heap := by rw [hhp]; exact vx_Zq.moved hW0.alike (hU.kept hS.2.1)
  have hN' : vx_Zq Bundle.tN "SUPPRESSED_SENTINEL" Bundle.listD A s' s'.heap := by rw [hhp]; exact vx_Zq.moved hW0.alike (hN.kept hS.2.1)
  have h : ∀ w ∈ Bundle.ownAtoms own ic cls names, w.before args s' = true := vx_own hat' (vx_isRefq hU'.1) (vx_isRefq hN'.1) hU'.2.word hN'.2.word
  have hown' : s'.vm.findClass own = some m.cls := by rw [hvm]; exact hown
  have hins : (Cond.instantiable cls 6).before args s' = true := h _ (by simp [Bundle.ownAtoms])
  obtain ⟨vm₁, cX, kX, hfX, hkX, -, -, X₁, st1⟩ := Y.newCold hexec (own := own) (C := cls) (index := ik) (n := 6) hown' hk' hins hini'
    (g := F0 m pc ls rest) rfl (by rw [hb]; exact d0) (Nat.le_refl _) (Nat.le_refl _)
  generalize hT1 : (T.setVm vm₁).pushCell { cls := cX, slots := kX.instanceTypes.map defaultValue, vm := .none } = T1 at X₁ st1
  have hcat : (Value.ref T.heap.size).category = 1 := rfl
  have hcellA : T1.heap[T.heap.size]? = some (freshCell cX kX) := by rw [← hT1]; exact State.heap_pushCell_size _ _
  have d3' : decode c.code (pc + 3) = .ok (.dup, 1) := by rw [hb]; exact d3
  have d4' : decode c.code (pc + 4) = .ok (.ldc is, 2) := by rw [hb]; exact d4
  have hstr' : vk_R own is text sa s' := vk_R.warm hW0 hstr
  obtain ⟨U, hsteps, hrun, hend, hW, hsame, ce, hce, hO⟩ := X₁.ctorThrowS hexec htr (own := own) (cls := cls) (names := names) (ic := ic) hown' hcls hnames h (fun x hx => nomatch hx) hfX hkX hcellA (by rw [hhp, hT]; exact Nat.le_refl _) (msg := .ref sa) rfl
    (g := { method := m, pc := pc + 6, locals := ls, stack := .ref sa :: .ref T.heap.size :: .ref T.heap.size :: rest, locked := none }) rfl hsize rfl rfl (rest := rest) rfl
    (by rw [hb]; exact d6) (by rw [hb]; exact d9) hout hRframes (by simp only [List.map_cons, List.sum_cons, hcat]; omega) hlocks
  obtain ⟨f1, f2⟩ := vx_frame hsame
  rw [hhp] at f1 f2
  have hWs : s.WarmedH U.vm := State.WarmedH.trans hW0 hW
  have hcl : s.vm.findClass cls = some ce.cls := by
    have h9 := hO.cls
    rw [hvm] at h9
    exact h9
  have hall : s.sameButNew ({ U with vm := s.vm } : State) locs mc ms := by
    subst hA
    obtain ⟨e1, e2⟩ := hsame
    rw [State.setFrames_setFrames] at e1
    have h2 : (T.setVm s.vm).sameButNew ({ U with vm := s.vm } : State) [] (0 + 1) (0 + 6) := ⟨e1, e2⟩
    have h3 := X.same.trans h2
    rw [List.append_nil] at h3
    exact h3.mono hc hs
  refine ⟨U, ?_, .threw T.heap.size, hrun, hend, Or.inr ⟨T.heap.size, rfl, cls, ce, locs, hx U hWs.alike f1 (fun q hq => f2 q hq (fun z hz => nomatch hz)), hce, hO.vm, hcl, hWs, hall, hf⟩⟩
  refine st1 _ ?_
  show Steps p.tables e below (T1.setTop { method := m, pc := pc + 3, locals := ls, stack := .ref T.heap.size :: rest, locked := none }) _
  jvm_step X₁.here [X₁.here.top, hexec, d3', Value.category]
  exact X₁.ldcString hexec (own := own) (text := text) (index := is) (a := sa) hown' hstr'.1 hstr'.2
    (g := { method := m, pc := pc + 4, locals := ls, stack := .ref T.heap.size :: .ref T.heap.size :: rest, locked := none }) rfl d4' _ hsteps
/-- 'throw new E("text")', the text by a wide index -/
theorem vx_throwSW {cc : ByteArray} {pc : Nat} (hexec : p.tables.exec = Jvm.exec) (hb : c.code = cc) (hl : l.stackTraces = false) {own cls text : String} {names : List String} {ik is ic mc ms sa : Nat} {A : Nat → Prop}
    (hown : s.vm.findClass own = some m.cls) (hcls : Bundle.fit cls = true) (hnames : ∀ n ∈ names, Bundle.fit n = true)
    (hk : (Cond.classLink own ik cls).before args s = true) (hini : (Cond.initialized cls).before args s = true) (hstr : vk_R own is text sa s) (hat : ∀ w ∈ vx_atS own ic cls names, w.before args s = true)
    (hgood : ∀ w ∈ Cond.classLink own ik cls :: Cond.initialized cls :: vx_atS own ic cls names, vx_ot w = true)
    (hU : vx_Zq Bundle.tN "UNASSIGNED_STACK" Bundle.steD A s s.heap) (hN : vx_Zq Bundle.tN "SUPPRESSED_SENTINEL" Bundle.listD A s s.heap) (hS : va_S A s.heap H locs) (hsize : ls.size = c.maxLocals)
    (d0 : decode cc pc = .ok (.new ik, 3)) (d3 : decode cc (pc + 3) = .ok (.dup, 1)) (d4 : decode cc (pc + 4) = .ok (.ldc_w is, 3)) (d7 : decode cc (pc + 7) = .ok (.invokespecial ic, 3)) (d10 : decode cc (pc + 10) = .ok (.athrow, 1))
    (hout : ∀ x ∈ c.exceptionTable.toList, covers x (pc + 10) = false)
    (hRframes : names.length + 3 < R.frames) (hRlocals : (rest.map fun v => v.category).sum + (13 * (names.length + 1) + 43) ≤ R.locals) (hRcells : cells + 1 ≤ R.cells) (hRslots : slots + 6 ≤ R.slots) (hlocks : meth.locks = false)
    (hx : ∀ t : State, s.vm.Alike t.vm → H.size ≤ t.heap.size → (∀ q : Nat, q < H.size → t.heap[q]? = H[q]?) → XC cls s t)
    (hf : ∀ z ∈ locs, free z.base) (hc : cells + 1 ≤ mc) (hs : slots + 6 ≤ ms) :
    W p l e R s m args below meth c H locs cells slots (vx_MQ below Qc XC args s mc ms free) (F0 m pc ls rest) := by
  intro T hT X
  have htr : e.platform.stackTraces = false := (show e.platform.stackTraces = l.stackTraces by rw [X.admits.platform]).trans hl
  have Y := vx_rebase X (R' := { frames := R.frames, locals := R.locals, cells := 1, slots := 6 }) (Nat.le_refl _) (Nat.le_refl _) hRcells hRslots
  obtain ⟨s', hA⟩ : ∃ z, z = (T.setVm s.vm).setFrames (.invoking m args :: below) := ⟨_, rfl⟩
  rw [← hA] at Y
  have hvm : s'.vm = s.vm := by rw [hA]; rfl
  have hhp : s'.heap = H := by rw [hA]; exact hT
  have hW0 : s.WarmedH s'.vm := by rw [hvm]; exact State.WarmedH.refl s
  have hat' : ∀ w ∈ vx_atS own ic cls names, w.before args s' = true := fun w hw => vx_ot_at hW0 hvm.symm (hgood w (List.mem_cons_of_mem _ (List.mem_cons_of_mem _ hw))) (hat w hw)
  have hk' : (Cond.classLink own ik cls).before args s' = true := vx_ot_at hW0 hvm.symm (hgood _ List.mem_cons_self) hk
  have hini' : (Cond.initialized cls).before args s' = true := vx_ot_at hW0 hvm.symm (hgood _ (List.mem_cons_of_mem _ List.mem_cons_self)) hini
  have hU' : vx_Zq Bundle.tN "UNASSIGNED_STACK" Bundle.steD A s' s'.heap := by rw [hhp]; exact vx_Zq.moved hW0.alike (hU.kept hS.2.1)
  have hN' : vx_Zq Bundle.tN "SUPPRESSED_SENTINEL" Bundle.listD A s' s'.heap := by rw [hhp]; exact vx_Zq.moved hW0.alike (hN.kept hS.2.1)
  have h : ∀ w ∈ Bundle.ownAtoms own ic cls names, w.before args s' = true := vx_own hat' (vx_isRefq hU'.1) (vx_isRefq hN'.1) hU'.2.word hN'.2.word
  have hown' : s'.vm.findClass own = some m.cls := by rw [hvm]; exact hown
  have hins : (Cond.instantiable cls 6).before args s' = true := h _ (by simp [Bundle.ownAtoms])
  obtain ⟨vm₁, cX, kX, hfX, hkX, -, -, X₁, st1⟩ := Y.newCold hexec (own := own) (C := cls) (index := ik) (n := 6) hown' hk' hins hini'
    (g := F0 m pc ls rest) rfl (by rw [hb]; exact d0) (Nat.le_refl _) (Nat.le_refl _)
  generalize hT1 : (T.setVm vm₁).pushCell { cls := cX, slots := kX.instanceTypes.map defaultValue, vm := .none } = T1 at X₁ st1
  have hcat : (Value.ref T.heap.size).category = 1 := rfl
  have hcellA : T1.heap[T.heap.size]? = some (freshCell cX kX) := by rw [← hT1]; exact State.heap_pushCell_size _ _
  have d3' : decode c.code (pc + 3) = .ok (.dup, 1) := by rw [hb]; exact d3
  have d4' : decode c.code (pc + 4) = .ok (.ldc_w is, 3) := by rw [hb]; exact d4
  have hstr' : vk_R own is text sa s' := vk_R.warm hW0 hstr
  obtain ⟨U, hsteps, hrun, hend, hW, hsame, ce, hce, hO⟩ := X₁.ctorThrowS hexec htr (own := own) (cls := cls) (names := names) (ic := ic) hown' hcls hnames h (fun x hx => nomatch hx) hfX hkX hcellA (by rw [hhp, hT]; exact Nat.le_refl _) (msg := .ref sa) rfl
    (g := { method := m, pc := pc + 7, locals := ls, stack := .ref sa :: .ref T.heap.size :: .ref T.heap.size :: rest, locked := none }) rfl hsize rfl rfl (rest := rest) rfl
    (by rw [hb]; exact d7) (by rw [hb]; exact d10) hout hRframes (by simp only [List.map_cons, List.sum_cons, hcat]; omega) hlocks
  obtain ⟨f1, f2⟩ := vx_frame hsame
  rw [hhp] at f1 f2
  have hWs : s.WarmedH U.vm := State.WarmedH.trans hW0 hW
  have hcl : s.vm.findClass cls = some ce.cls := by
    have h9 := hO.cls
    rw [hvm] at h9
    exact h9
  have hall : s.sameButNew ({ U with vm := s.vm } : State) locs mc ms := by
    subst hA
    obtain ⟨e1, e2⟩ := hsame
    rw [State.setFrames_setFrames] at e1
    have h2 : (T.setVm s.vm).sameButNew ({ U with vm := s.vm } : State) [] (0 + 1) (0 + 6) := ⟨e1, e2⟩
    have h3 := X.same.trans h2
    rw [List.append_nil] at h3
    exact h3.mono hc hs
  refine ⟨U, ?_, .threw T.heap.size, hrun, hend, Or.inr ⟨T.heap.size, rfl, cls, ce, locs, hx U hWs.alike f1 (fun q hq => f2 q hq (fun z hz => nomatch hz)), hce, hO.vm, hcl, hWs, hall, hf⟩⟩
  refine st1 _ ?_
  show Steps p.tables e below (T1.setTop { method := m, pc := pc + 3, locals := ls, stack := .ref T.heap.size :: rest, locked := none }) _
  jvm_step X₁.here [X₁.here.top, hexec, d3', Value.category]
  exact X₁.ldcStringW hexec (own := own) (text := text) (index := is) (a := sa) hown' hstr'.1 hstr'.2
    (g := { method := m, pc := pc + 4, locals := ls, stack := .ref T.heap.size :: .ref T.heap.size :: rest, locked := none }) rfl d4' _ hsteps
end Ends
section Bodies
variable {l : Launch}
theorem vx_ofW {y : MethodName} {ws ws' : List Cond} {rm : Room} {Pc : Array Value → State → Prop} {Qc : Array Value → State → Outcome → State → Prop} {XC : String → State → State → Prop} {mc ms : Nat} {free : Addr → Prop} {cc : ByteArray} {maxL : Nat} {ret : Option FieldType}
    (hy : plainName y.cls = true) (hw : ws = Cond.code y cc maxL ret :: ws')
    (body : ∀ p e s m args below meth c s₁, BodyLoose p l y (headSpec ws rm) cc maxL ret e s m args below meth c s₁ → c.maxLocals = maxL → (∀ x ∈ c.exceptionTable.toList, False) → Pc args s →
      W p l e (headSpec ws rm).room s m args below meth c s.heap [] 0 0 (vx_MQ below Qc XC args s mc ms free) (entryFrame m args maxL)) : vx_Met l y ws rm Pc Qc XC mc ms free := by
  refine MetFree.of_bodyS (code := cc) (maxLocals := maxL) (ret := ret) hy ?_ ?_
  · intro args s m h hn
    obtain ⟨meth, c, h1, h2, h3, h4, h5, h6, -, -⟩ := Cond.code_spec hn (atoms_spec (ws := ws) h _ (by rw [hw]; exact List.mem_cons_self))
    exact ⟨meth, c, h1, h2, h3, h4, h5, h6⟩
  · intro p e s m args below meth c s₁ B hml hP _
    have hh0 : s₁.heap = s.heap := by rw [B.state]; rfl
    have ht : ∀ x ∈ c.exceptionTable.toList, False := by
      obtain ⟨meth9, c9, h1, h2, -, -, -, -, h7, -⟩ := Cond.code_spec B.named (atoms_spec (ws := ws) B.pre _ (by rw [hw]; exact List.mem_cons_self))
      cases Option.some.inj (h1.symm.trans B.method)
      cases Option.some.inj (h2.symm.trans (Stand.of_body B).code)
      intro x hx
      rw [Array.isEmpty_iff.mp h7] at hx
      cases hx
    obtain ⟨t, a1, o, b1, b2, b3⟩ := body p e s m args below meth c s₁ B hml ht hP s₁ hh0 (Stand.of_body B)
    exact ⟨t, o, a1, b1, b2, b3⟩
/-- the table of a body with handlers -/
theorem vx_table {p : Program} {x y : MethodName} {S : Spec} {cc bytes : ByteArray} {maxL maxL' : Nat} {ret ret' : Option FieldType} {e : Env} {s s₁ : State} {m : MethodId} {args : Array Value} {below : List Frame} {meth : Method} {c : Code} {hh : List (Nat × Nat × Nat × Nat)}
    (B : BodyLoose p l y S cc maxL ret e s m args below meth c s₁) (h : (Cond.codeWith y bytes maxL' ret' hh).before args s = true) : c.exceptionTable.toList = tableOf hh := by
  obtain ⟨m9, meth9, c9, hn9, h1, h2, -, -, h6, -⟩ := Cond.codeWith_spec h
  cases Option.some.inj (hn9.symm.trans B.named)
  cases Option.some.inj (h1.symm.trans B.method)
  cases Option.some.inj (h2.symm.trans (Stand.of_body B).code)
  rw [← h6, table_eq]
end Bodies
end VXA
/-! ===== END ===== -/
/-! ===== BEGIN a static call of a method with an exception table ===== -/
section VXS
variable {p : Program} {l : Launch} {e : Env} {R : Room} {s : State} {m : MethodId} {args : Array Value} {below : List Frame} {meth : Method} {c : Code} {T : State} {H : Heap} {locs : List Loc} {cells slots : Nat}
abbrev vx_CSW (R : Room) (s : State) (args : Array Value) (own : String) (index : Nat) (y : MethodName) (bytes : ByteArray) (maxL : Nat) (ret : Option FieldType) (hh : List (Nat × Nat × Nat × Nat)) (ws : List Cond) (rm : Room) (mc ms n : Nat) : Prop :=
  (rm.cells = mc ∧ rm.slots = ms ∧ rm.frames + 1 ≤ R.frames ∧ 8 + (maxL + 11) + rm.locals ≤ R.locals ∧ (∀ w ∈ ws, ∀ (a' : Array Value) (U : State), s.WarmedH U.vm → w.before a' U = true) ∧ Cond.codeWith y bytes maxL ret hh ∈ ws) ∧
  (Cond.codeWith y bytes maxL ret hh).before args s = true ∧ (Cond.initialized y.cls).before args s = true ∧ (y.cls ≠ "java/lang/invoke/MethodHandle" ∧ y.cls ≠ "java/lang/invoke/VarHandle") ∧
  (∀ sig, parseMethodDescriptor y.desc = some sig → n = sig.parameters.length) ∧ (Cond.methodLink own index y).before args s = true ∧ (Cond.static y).before args s = true
theorem vx_cwSW {own : String} {index maxL mc ms : Nat} {y : MethodName} {bytes : ByteArray} {ret : Option FieldType} {hh : List (Nat × Nat × Nat × Nat)} {Ts ws ws' : List Cond} {rm : Room} (n : Nat) (ht : ∀ w ∈ Ts, w.before args s = true) (hT : GoodIn Ts (va_wsS own index y ws)) (hw : ws = Cond.codeWith y bytes maxL ret hh :: ws') (hrc : rm.cells = mc) (hrs : rm.slots = ms)
    (hd : y.cls ≠ "java/lang/invoke/MethodHandle" ∧ y.cls ≠ "java/lang/invoke/VarHandle" ∧ (parseMethodDescriptor y.desc).map (fun d => d.parameters.length) = some n) (hR : rm.frames + 1 ≤ R.frames ∧ 8 + (maxL + 11) + rm.locals ≤ R.locals) :
    vx_CSW R s args own index y bytes maxL ret hh ws rm mc ms n := by
  have ok : ∀ w ∈ va_wsS own index y ws, w.before args s = true := fun w h => ht w (hT w h).1
  have hG : GoodIn Ts ws := fun w h => hT w (by unfold va_wsS; exact List.mem_append_right _ h)
  have hc : Cond.codeWith y bytes maxL ret hh ∈ ws := by rw [hw]; exact List.mem_cons_self
  refine ⟨⟨hrc, hrs, hR.1, hR.2, pay_in ht hG, hc⟩, ht _ (hG _ hc).1, ok _ (by simp [va_wsS]), ⟨hd.1, hd.2.1⟩, fun sig h => ?_, ok _ (by simp [va_wsS]), ok _ (by simp [va_wsS])⟩
  have h2 := hd.2.2
  rw [h] at h2
  exact (Option.some.inj h2).symm
theorem vx_callSW (X : Stand p l e R s m args below meth c T locs cells slots) (hexec : p.tables.exec = Jvm.exec) {own : String} {index : Nat} {y : MethodName} {bytes : ByteArray} {maxL : Nat} {ret : Option FieldType} {hh : List (Nat × Nat × Nat × Nat)}
    (hown : s.vm.findClass own = some m.cls) (hlink : (Cond.methodLink own index y).before args s = true) (hstat : (Cond.static y).before args s = true) (hinit : (Cond.initialized y.cls).before args s = true)
    (hcode : (Cond.codeWith y bytes maxL ret hh).before args s = true) (hy : y.cls ≠ "java/lang/invoke/MethodHandle" ∧ y.cls ≠ "java/lang/invoke/VarHandle")
    {W9 : Nat} {Pre : Pt → Array Value → Prop} {Post : Pt → Array Value → Option Value → Pt → Prop} (hK : Back l R p e below s args y 3 W9 Pre Post)
    {g : JFrame} (hg : g.method = m) (hsize : g.locals.size = c.maxLocals) {argsL rest : List Value} (hlen : ∀ sig, parseMethodDescriptor y.desc = some sig → argsL.length = sig.parameters.length)
    (hstack : g.stack = argsL.reverse ++ rest) (hW : 2 * g.monitorRoom + (rest.map fun v => v.category).sum ≤ W9) (hdg : decode c.code g.pc = .ok (.invokestatic index, 3))
    (hpre : ∀ vm₁, s.WarmedH vm₁ → Pre ⟨T.setVm vm₁, locs, cells, slots⟩ argsL.toArray) :
    ∃ (v : Option Value) (vm₁ : Vm) (B : Pt), s.WarmedH vm₁ ∧ Stand p l e R s m args below meth c B.U B.locs B.cells B.slots ∧ Post ⟨T.setVm vm₁, locs, cells, slots⟩ argsL.toArray v B ∧
      ∀ target, Steps p.tables e below (B.U.setTop { g with pc := g.pc + 3, stack := v.toList ++ rest }) target → Steps p.tables e below (T.setTop g) target := by
  obtain ⟨mk, methM, cM, hnamed, hmethM, -, -, -, -, -, -, hsigM⟩ := Cond.codeWith_spec hcode
  have hstatic : methM.isStatic = true := Cond.static_spec hnamed hmethM hstat
  obtain ⟨kP, hkP, -⟩ := className_of_methodNamed hnamed
  have hinitP : kP.init = .initialized := Cond.initialized_spec (findClass_of_methodNamed hnamed) hkP hinit
  obtain ⟨vm₁, X₁, hstep₁⟩ := X.invokestatic hexec hown hlink hnamed hmethM hstatic hkP hinitP hy (g := g) hg (argsL := argsL) (rest := rest) (hlen _ hsigM) hstack hdg
  obtain ⟨v, B, X', hpost, hsteps⟩ := hK m meth c ⟨T.setVm vm₁, locs, cells, slots⟩ { g with stack := rest } (.invokestatic index) mk argsL.toArray X₁ hg hsize hdg hW (X₁.named hnamed) (hpre vm₁ X₁.warmed)
  exact ⟨v, vm₁, B, X₁.warmed, X', hpost, fun target h => hstep₁ _ fun acts => by rw [doInvoke_state]; exact hsteps.trans h⟩
theorem vx_runSW {y : MethodName} {bytes cc : ByteArray} {maxL nL mc ms n index : Nat} {ret : Option FieldType} {hh : List (Nat × Nat × Nat × Nat)} {ws : List Cond} {rm : Room} {Pc : Array Value → State → Prop} {Qc : Array Value → State → Outcome → State → Prop} {free : Addr → Prop} {Ts : List Cond} {own : String} {As rest : List Value} {g : JFrame}
    (S : CallFix p m c cc nL s args Ts own) (hM : Met l y ws rm Pc Qc mc ms free) (cw : vx_CSW R s args own index y bytes maxL ret hh ws rm mc ms n) (hp : PreS s H Pc As)
    (hg : g.method = m) (hn : As.length = n) (hsize : g.locals.size = nL) (hstack : g.stack = As.reverse ++ rest) (hW : 2 * g.monitorRoom + (rest.map fun v => v.category).sum ≤ 8) (hdg : decode cc g.pc = .ok (.invokestatic index, 3)) (hf : cells + mc ≤ R.cells ∧ slots + ms ≤ R.slots) :
    va_Run p l e R s m args below meth c H locs cells slots mc ms g rest (Qc As.toArray) (free) := by
  obtain ⟨⟨hrc, hrs, hfr, hlo, hws, hcw⟩, hcode, hini, hy, hlen, hl, hstt⟩ := cw
  have hK : Back l R p e below s args y 3 8 (PreOf R mc ms Pc) (PostOf Qc mc ms free) := va_backW (hh := hh) (bytes := bytes) (maxL := maxL) (ret := ret) hM hp.1 hrc hrs hfr hlo hws hcw (fun a' U hW => word_at hW (Or.inl (by first | rfl | simp [Cond.onTables, Cond.keeps, Cond.steady])) hini)
  obtain ⟨hx, hb, hml, ho, -⟩ := S
  intro T hT X
  obtain ⟨v, vm₁, ⟨U', l2, c2, s2⟩, hW₁, X', ⟨g', mk, t, L, e1, e2, hq, h1, hL, h2, h3⟩, st⟩ := vx_callSW X hx (hh := hh) (bytes := bytes) (maxL := maxL) (ret := ret) ho hl hstt hini hcode hy hK hg (hsize.trans hml.symm) (argsL := As) (rest := rest) (fun sig h => hn.trans (hlen sig h)) hstack hW (by rw [hb]; exact hdg)
    (fun vm₁ hW₁ => ⟨hf.1, hf.2, hp.2 (T.setVm vm₁) hT hW₁⟩)
  dsimp only [Pt.U, Pt.locs, Pt.cells, Pt.slots] at X' e1 e2 h1 h2 h3 st
  subst h1; subst h2; subst h3
  exact ⟨v, (T.setVm vm₁).calling g' mk As.toArray, t, U', L, hT, X', hL, e1, e2, hq, st⟩
/-- not caught here, past rows that name other classes: it goes on to the caller -/
theorem vx_outP {p : Program} {l : Launch} {e : Env} {R : Room} {s : State} {m : MethodId} {args : Array Value} {below : List Frame} {meth : Method} {c : Code} {H : Heap} {locs : List Loc} {cells slots : Nat} {free : Addr → Prop} {ls : Array Slot} {rest : List Value} {Qc : Array Value → State → Outcome → State → Prop} {XC : String → State → State → Prop}
    {pc : Nat} {own E : String} {ce : Cell} {q : Addr} {mc ms : Nat} (hown : s.vm.findClass own = some m.cls) (hlocks : meth.locks = false)
    (hpass : ∀ z ∈ c.exceptionTable.toList, covers z pc = false ∨ (z.catchType ≠ 0 ∧ ∃ nm : String, (Cond.classLink own z.catchType nm).before args s = true ∧ va_Nc E nm s)) (hcell : H[q]? = some ce) (hv : ce.vm = .none) (hcl : s.vm.findClass E = some ce.cls)
    (hx : ∀ t : State, t.heap = H → s.vm.Alike t.vm → XC E s t) (hf : ∀ z ∈ locs, free z.base) (hc : cells ≤ mc) (hs : slots ≤ ms) :
    vx_W p l e R s m args below meth c H locs cells slots (vx_MQ below Qc XC args s mc ms free) (F0 m pc ls rest) q := by
  intro T hT X
  have hpl : e.platform.magicAccessors = ({} : Platform).magicAccessors := by rw [X.admits.platform]
  obtain ⟨vm', hW', X', st⟩ := X.outThrough hlocks q (g := F0 m pc ls rest) rfl rfl rfl (cell := ce) (by rw [hT]; exact hcell) (by rw [hv]; rfl)
    (by obtain ⟨k9, h9, -⟩ := Vm.findClass_spec hcl; exact ⟨k9, h9⟩) (fun z hz => by
      rcases hpass z hz with h | ⟨hz0, nm, hl1, hn1⟩
      · exact Or.inl h
      · obtain ⟨c6, hc6, hcl6⟩ := Cond.classLink_spec hown hl1 e.platform hpl
        obtain ⟨a8, b8, h1, h2, h3⟩ := hn1
        cases Option.some.inj (h1.symm.trans hcl)
        cases Option.some.inj (h2.symm.trans hc6)
        exact Or.inr ⟨hz0, _, hcl6, h3⟩)
  obtain ⟨g₀, hfr⟩ := X'.frames_eq
  have hcell9 : ((T.setVm vm').setFrames (.throwing q :: below)).heap[q]? = some ce := by
    show T.heap[q]? = some ce
    rw [hT]; exact hcell
  have hend : Ended ((T.setVm vm').setFrames (.throwing q :: below)) below (.threw q) := State.frames_setFrames _ (State.cur_lt_of_frames hfr)
  refine ⟨(T.setVm vm').setFrames (.throwing q :: below), ?_, .threw q, X'.here.running, hend, Or.inr ⟨q, rfl, E, ce, locs, hx _ hT (X'.ends _).1.alike, hcell9, hv, hcl, (X'.ends _).1, (X'.ends _).2.mono hc hs, hf⟩⟩
  rw [X.pushThrowing_eq]
  exact st
/-- a thing of a world lies in the heap -/
theorem vx_lt {D : va_G} {cl : List vw_C} {ws : va_W} {H1 : Heap} (h : va_P D cl ws H1) {k : Nat} {q : Nat × va_E} (hk : ws[k]? = some q) : q.1 < H1.size := (h k q hk).lt
end VXS
/-! ===== END ===== -/
/-! ===== BEGIN methods with a table of their own: called by a name, returning or throwing ===== -/
section VXH
/-! vx_backW, vx_callVX, vx_callSX, vx_callVW, vx_runVW, vx_runVX, vx_runSX, vx_ofWH follow the same proofs as their sisters above (Free/Laws.lean, Shelf42/LK1.lean); vx_outP calls Shelf42/NT130.lean (outThrough). -/
section
variable {l : Launch} {R : Room} {p : Program} {e : Env} {below : List Frame} {s : State} {sargs : Array Value} {y : MethodName} {len W9 : Nat}
theorem vx_backW {ws : List Cond} {rm : Room} {Pc : Array Value → State → Prop} {Qc : Array Value → State → Outcome → State → Prop} {XC : String → State → State → Prop} {mc ms : Nat} {free : Addr → Prop} {bytes : ByteArray} {maxL : Nat} {ret : Option FieldType} {hh : List (Nat × Nat × Nat × Nat)}
    (hM : vx_Met l y ws rm Pc Qc XC mc ms free) (hblind : FrameBlind Pc) (hrc : rm.cells = mc) (hrs : rm.slots = ms)
    (hframes : rm.frames + 1 ≤ R.frames) (hlocals : W9 + (maxL + 11) + rm.locals ≤ R.locals)
    (hws : ∀ w ∈ ws, ∀ a' U, s.WarmedH U.vm → w.before a' U = true) (hcode : Cond.codeWith y bytes maxL ret hh ∈ ws) (hinit : ∀ a' U, s.WarmedH U.vm → (Cond.initialized y.cls).before a' U = true) :
    vx_Back l R p e below s sargs y len W9 (PreOf R mc ms Pc) (PostOf Qc mc ms free) (vx_Post XC mc ms free) := by
  intro m meth c A g ig mk a X hg hsize hdg hW hn hp
  have h1 : (headSpec ws rm).pre.before a A.U = true := atoms_intro fun w hw => hws w hw _ _ X.warmed
  have h2 : (Cond.codeWith y bytes maxL ret hh).before a A.U = true := hws _ hcode _ _ X.warmed
  have h3 : (Cond.initialized y.cls).before a A.U = true := hinit _ _ X.warmed
  have h4 : A.cells + (headSpec ws rm).room.cells ≤ R.cells := by rw [show (headSpec ws rm).room.cells = mc from hrc]; exact hp.1
  have h5 : A.slots + (headSpec ws rm).room.slots ≤ R.slots := by rw [show (headSpec ws rm).room.slots = ms from hrs]; exact hp.2.1
  have hPc : Pc a (A.U.calling g mk a) := hblind _ _ _ _ hp.2.2
  obtain ⟨U, Ls, c0, s0⟩ := A
  dsimp only [Pt.U, Pt.locs, Pt.cells, Pt.slots] at h1 h2 h3 h4 h5 X hn hPc ⊢
  obtain ⟨m9, methY, cY, hn9, hmY, hcY, -, hlY, -⟩ := Cond.codeWith_spec h2
  cases Option.some.inj (hn9.symm.trans hn)
  obtain ⟨kY, hkY, -⟩ := className_of_methodNamed hn
  have hinitY : kY.init = .initialized := Cond.initialized_spec (findClass_of_methodNamed hn) hkY h3
  have h : At U g.method c below := by rw [hg]; exact X.here
  have hlocals9 : W9 + (maxL + 11) + (headSpec ws rm).room.locals ≤ R.locals := hlocals
  have happ : (headSpec ws rm).appliesLoose y e.platform (U.calling g mk a) = true :=
    Spec.appliesLoose_calling (g := g) h hdg hn hkY hinitY
      (X.room_calling (g := g) (R' := (headSpec ws rm).room) hsize hmY hcY hframes (by rw [hlY]; omega) h4 h5) h1
  obtain ⟨mid, hmid⟩ := h.above
  have hfr : (U.setTop g).frames = (.java g :: mid) ++ below := by rw [State.frames_setTop' g h.top, hmid]; rfl
  obtain ⟨o, s₂, hsteps, -, hend, hq⟩ := Steps.callFree hM p X.admits X.cas X.clock (acts := []) hfr happ hPc trivial
  have hq' : vx_Q Qc XC mc ms free a (U.calling g mk a) o s₂ := hq
  rw [State.frames_setTop' g h.top] at hend
  obtain ⟨g₀, hg0⟩ := Option.isSome_iff_exists.mp h.top
  obtain ⟨r, hr⟩ := State.topJava?_eq_some.mp hg0
  have hr' : (({ U with heap := s₂.heap, slotsUsed := s₂.slotsUsed } : State).setVm s₂.vm).frames = .java g₀ :: r := hr
  rcases hq' with ⟨hqc, L, hfe, hL⟩ | ⟨q, rfl, E, ce, L, hx, hce, hcv, hcl, hW₂, hsm, hL⟩
  · obtain ⟨⟨v, rfl⟩, hW₂, e2, q2, q3, q4, q5, q6⟩ := id hfe
    have e3 : s₂ = ({ (U.calling g mk a).setFrames s₂.frames with heap := s₂.heap, slotsUsed := s₂.slotsUsed } : State).setVm s₂.vm := by
      have : s₂ = ({ s₂ with vm := (U.calling g mk a).vm } : State).setVm s₂.vm := rfl
      rw [e2] at this
      exact this
    obtain ⟨c₂, i₂, len₂, hc₂, hd₂, hf₂⟩ := hend
    have hW' : U.WarmedH s₂.vm := hW₂
    have hcc : c₂ = c := by
      have h1 : s₂.code? g.method = U.code? g.method := by
        rw [State.code?_eq, State.code?_eq, hW'.alike.method?]
      exact Option.some.inj (hc₂.symm.trans (h1.trans h.code))
    subst hcc
    have hlen : len₂ = len := by rw [hdg] at hd₂; cases hd₂; rfl
    subst hlen
    have hs₂ : s₂ = (({ U with heap := s₂.heap, slotsUsed := s₂.slotsUsed } : State).setVm s₂.vm).setTop { g with pc := g.pc + len₂, stack := v.toList ++ g.stack } := by
      refine e3.trans ?_
      rw [hf₂, State.calling_eq h.top, State.setFrames_setFrames, State.setTop_of_frames _ hr', hr]
      rfl
    have hsame : U.sameButNew ({ U with heap := s₂.heap, slotsUsed := s₂.slotsUsed } : State) L mc ms := by
      refine ⟨?_, q2, q3, q4, q5, q6⟩
      obtain ⟨t, ht, -⟩ := State.frames_cons hr
      show ({ U with heap := s₂.heap, slotsUsed := s₂.slotsUsed } : State) = { U.setFrames U.frames with heap := s₂.heap, slotsUsed := s₂.slotsUsed }
      rw [State.setFrames_self ht]
    subst hg
    refine Or.inl ⟨v, ⟨(({ U with heap := s₂.heap, slotsUsed := s₂.slotsUsed } : State).setVm s₂.vm), Ls ++ L, c0 + mc, s0 + ms⟩,
      ⟨X.admits, X.cas, X.clock, X.frames, X.room, X.hears, X.method, X.code, (X.here.setHeapUsed s₂.heap s₂.slotsUsed).setVm hW'.alike, X.tail, State.WarmedH.trans X.warmed hW', X.limits, X.bytes, X.same.trans (hsame.setVm s.vm)⟩,
      ⟨g, mk, s₂, L, rfl, rfl, hqc, rfl, hL, rfl, rfl⟩, ?_⟩
    show Steps p.tables e below _ ((({ U with heap := s₂.heap, slotsUsed := s₂.slotsUsed } : State).setVm s₂.vm).setTop { g with pc := g.pc + len₂, stack := v.toList ++ g.stack })
    rw [← hs₂]
    exact hsteps
  · obtain ⟨e2, q2, q3, q4, q5, q6⟩ := id hsm
    have e3 : s₂ = ({ (U.calling g mk a).setFrames s₂.frames with heap := s₂.heap, slotsUsed := s₂.slotsUsed } : State).setVm s₂.vm := by
      have : s₂ = ({ s₂ with vm := (U.calling g mk a).vm } : State).setVm s₂.vm := rfl
      rw [e2] at this
      exact this
    have hf₂ : s₂.frames = .throwing q :: .java g :: U.frames.tail := hend
    have hW' : U.WarmedH s₂.vm := hW₂
    have hs₂ : s₂ = ((({ U with heap := s₂.heap, slotsUsed := s₂.slotsUsed } : State).setVm s₂.vm).setTop g).pushFrame (.throwing q) := by
      refine e3.trans ?_
      rw [hf₂, State.calling_eq h.top, State.setFrames_setFrames, State.pushFrame, State.frames_setTop _ hr', State.setTop_of_frames _ hr', State.setFrames_setFrames, hr]
      rfl
    have hsame : U.sameButNew ({ U with heap := s₂.heap, slotsUsed := s₂.slotsUsed } : State) L mc ms := by
      refine ⟨?_, q2, q3, q4, q5, q6⟩
      obtain ⟨t, ht, -⟩ := State.frames_cons hr
      show ({ U with heap := s₂.heap, slotsUsed := s₂.slotsUsed } : State) = { U.setFrames U.frames with heap := s₂.heap, slotsUsed := s₂.slotsUsed }
      rw [State.setFrames_self ht]
    subst hg
    refine Or.inr ⟨q, ⟨(({ U with heap := s₂.heap, slotsUsed := s₂.slotsUsed } : State).setVm s₂.vm), Ls ++ L, c0 + mc, s0 + ms⟩,
      ⟨X.admits, X.cas, X.clock, X.frames, X.room, X.hears, X.method, X.code, (X.here.setHeapUsed s₂.heap s₂.slotsUsed).setVm hW'.alike, X.tail, State.WarmedH.trans X.warmed hW', X.limits, X.bytes, X.same.trans (hsame.setVm s.vm)⟩,
      ⟨g, mk, s₂, L, E, ce, rfl, rfl, hx, hce, hcv, hcl, rfl, hL, rfl, rfl⟩, ?_⟩
    show Steps p.tables e below _ (((({ U with heap := s₂.heap, slotsUsed := s₂.slotsUsed } : State).setVm s₂.vm).setTop g).pushFrame (.throwing q))
    rw [← hs₂]
    exact hsteps
end
variable {p : Program} {l : Launch} {e : Env} {R : Room} {s : State} {m : MethodId} {args : Array Value} {below : List Frame} {meth : Method} {c : Code} {T : State} {H : Heap} {locs : List Loc} {cells slots : Nat}
theorem vx_callVX (X : Stand p l e R s m args below meth c T locs cells slots) (hexec : p.tables.exec = Jvm.exec) {own C : String} {index : Nat} {y : MethodName} {bytes : ByteArray} {maxL : Nat} {ret : Option FieldType} {hh : List (Nat × Nat × Nat × Nat)}
    (hown : s.vm.findClass own = some m.cls) (hlink : (Cond.methodLink own index y).before args s = true) (hinst : (Cond.instanceMethod y).before args s = true) (hsel : (Cond.selects C y y).before args s = true)
    (hcode : (Cond.codeWith y bytes maxL ret hh).before args s = true) (hy : y.cls ≠ "java/lang/invoke/MethodHandle" ∧ y.cls ≠ "java/lang/invoke/VarHandle")
    {W9 : Nat} {Pre : Pt → Array Value → Prop} {Post : Pt → Array Value → Option Value → Pt → Prop} {PostX : Pt → Array Value → Addr → Pt → Prop} (hK : vx_Back l R p e below s args y 3 W9 Pre Post PostX)
    {b : Addr} {cellB : Cell} (hcell : T.heap[b]? = some cellB) (hobj : cellB.vm.isStatics = false) (hcls : s.vm.findClass C = some cellB.cls)
    {g : JFrame} (hg : g.method = m) (hsize : g.locals.size = c.maxLocals) {argsL rest : List Value} (hlen : ∀ sig, parseMethodDescriptor y.desc = some sig → argsL.length = sig.parameters.length)
    (hstack : g.stack = argsL.reverse ++ .ref b :: rest) (hW : 2 * g.monitorRoom + (rest.map fun v => v.category).sum ≤ W9) (hdg : decode c.code g.pc = .ok (.invokevirtual index, 3))
    (hpre : ∀ vm₁, s.WarmedH vm₁ → Pre ⟨T.setVm vm₁, locs, cells, slots⟩ (Value.ref b :: argsL).toArray) :
    (∃ (v : Option Value) (vm₁ : Vm) (B : Pt), s.WarmedH vm₁ ∧ Stand p l e R s m args below meth c B.U B.locs B.cells B.slots ∧ Post ⟨T.setVm vm₁, locs, cells, slots⟩ (Value.ref b :: argsL).toArray v B ∧
      ∀ target, Steps p.tables e below (B.U.setTop { g with pc := g.pc + 3, stack := v.toList ++ rest }) target → Steps p.tables e below (T.setTop g) target) ∨
    (∃ (q : Addr) (vm₁ : Vm) (B : Pt), s.WarmedH vm₁ ∧ Stand p l e R s m args below meth c B.U B.locs B.cells B.slots ∧ PostX ⟨T.setVm vm₁, locs, cells, slots⟩ (Value.ref b :: argsL).toArray q B ∧
      Steps p.tables e below (T.setTop g) ((B.U.setTop { g with stack := rest }).pushFrame (.throwing q))) := by
  obtain ⟨mk, methM, hnamed, hmethM, hstM, habM⟩ := Cond.instanceMethod_spec hinst
  obtain ⟨m8, methM', cM, hn8, hmethM', -, -, -, -, -, -, hsigM⟩ := Cond.codeWith_spec hcode
  cases Option.some.inj (hn8.symm.trans hnamed)
  cases hmethM.symm.trans hmethM'
  obtain ⟨c2, r2, m2, q1, q2, q3, q4, kP, hkP, hkPi⟩ := Cond.selects_spec hsel
  cases hcls.symm.trans q1
  cases (State.methodFound?_of_named hnamed hy).symm.trans q2
  cases hnamed.symm.trans q3
  have hselP : selectMethod e.platform s.vm cellB.cls mk = .method mk := by rw [Launch.admits_selectMethod X.admits]; exact q4
  obtain ⟨vm₁, X₁, hstep₁⟩ := X.invokevirtual hexec hown hlink hnamed hmethM hstM hkP hkPi hy (a := b) (cell := cellB) hcell
    (fun z h => by rw [h] at hobj; cases hobj) hselP hmethM habM hkP hkPi (g := g) hg (argsL := argsL) (rest := rest) (hlen _ hsigM) hstack hdg
  rcases hK m meth c ⟨T.setVm vm₁, locs, cells, slots⟩ { g with stack := rest } (.invokevirtual index) mk (Value.ref b :: argsL).toArray X₁ hg hsize hdg hW (X₁.named hnamed) (hpre vm₁ X₁.warmed) with ⟨v, B, X', hpost, hsteps⟩ | ⟨q, B, X', hpost, hsteps⟩
  · exact Or.inl ⟨v, vm₁, B, X₁.warmed, X', hpost, fun target h => hstep₁ _ fun acts => by rw [doInvoke_state]; exact hsteps.trans h⟩
  · exact Or.inr ⟨q, vm₁, B, X₁.warmed, X', hpost, hstep₁ _ fun acts => by rw [doInvoke_state]; exact hsteps⟩
theorem vx_callSX (X : Stand p l e R s m args below meth c T locs cells slots) (hexec : p.tables.exec = Jvm.exec) {own : String} {index : Nat} {y : MethodName} {bytes : ByteArray} {maxL : Nat} {ret : Option FieldType} {hh : List (Nat × Nat × Nat × Nat)}
    (hown : s.vm.findClass own = some m.cls) (hlink : (Cond.methodLink own index y).before args s = true) (hstat : (Cond.static y).before args s = true) (hinit : (Cond.initialized y.cls).before args s = true)
    (hcode : (Cond.codeWith y bytes maxL ret hh).before args s = true) (hy : y.cls ≠ "java/lang/invoke/MethodHandle" ∧ y.cls ≠ "java/lang/invoke/VarHandle")
    {W9 : Nat} {Pre : Pt → Array Value → Prop} {Post : Pt → Array Value → Option Value → Pt → Prop} {PostX : Pt → Array Value → Addr → Pt → Prop} (hK : vx_Back l R p e below s args y 3 W9 Pre Post PostX)
    {g : JFrame} (hg : g.method = m) (hsize : g.locals.size = c.maxLocals) {argsL rest : List Value} (hlen : ∀ sig, parseMethodDescriptor y.desc = some sig → argsL.length = sig.parameters.length)
    (hstack : g.stack = argsL.reverse ++ rest) (hW : 2 * g.monitorRoom + (rest.map fun v => v.category).sum ≤ W9) (hdg : decode c.code g.pc = .ok (.invokestatic index, 3))
    (hpre : ∀ vm₁, s.WarmedH vm₁ → Pre ⟨T.setVm vm₁, locs, cells, slots⟩ argsL.toArray) :
    (∃ (v : Option Value) (vm₁ : Vm) (B : Pt), s.WarmedH vm₁ ∧ Stand p l e R s m args below meth c B.U B.locs B.cells B.slots ∧ Post ⟨T.setVm vm₁, locs, cells, slots⟩ argsL.toArray v B ∧
      ∀ target, Steps p.tables e below (B.U.setTop { g with pc := g.pc + 3, stack := v.toList ++ rest }) target → Steps p.tables e below (T.setTop g) target) ∨
    (∃ (q : Addr) (vm₁ : Vm) (B : Pt), s.WarmedH vm₁ ∧ Stand p l e R s m args below meth c B.U B.locs B.cells B.slots ∧ PostX ⟨T.setVm vm₁, locs, cells, slots⟩ argsL.toArray q B ∧
      Steps p.tables e below (T.setTop g) ((B.U.setTop { g with stack := rest }).pushFrame (.throwing q))) := by
  obtain ⟨mk, methM, cM, hnamed, hmethM, -, -, -, -, -, -, hsigM⟩ := Cond.codeWith_spec hcode
  have hstatic : methM.isStatic = true := Cond.static_spec hnamed hmethM hstat
  obtain ⟨kP, hkP, -⟩ := className_of_methodNamed hnamed
  have hinitP : kP.init = .initialized := Cond.initialized_spec (findClass_of_methodNamed hnamed) hkP hinit
  obtain ⟨vm₁, X₁, hstep₁⟩ := X.invokestatic hexec hown hlink hnamed hmethM hstatic hkP hinitP hy (g := g) hg (argsL := argsL) (rest := rest) (hlen _ hsigM) hstack hdg
  rcases hK m meth c ⟨T.setVm vm₁, locs, cells, slots⟩ { g with stack := rest } (.invokestatic index) mk argsL.toArray X₁ hg hsize hdg hW (X₁.named hnamed) (hpre vm₁ X₁.warmed) with ⟨v, B, X', hpost, hsteps⟩ | ⟨q, B, X', hpost, hsteps⟩
  · exact Or.inl ⟨v, vm₁, B, X₁.warmed, X', hpost, fun target h => hstep₁ _ fun acts => by rw [doInvoke_state]; exact hsteps.trans h⟩
  · exact Or.inr ⟨q, vm₁, B, X₁.warmed, X', hpost, hstep₁ _ fun acts => by rw [doInvoke_state]; exact hsteps⟩
theorem vx_callVW (X : Stand p l e R s m args below meth c T locs cells slots) (hexec : p.tables.exec = Jvm.exec) {own C : String} {index : Nat} {y : MethodName} {bytes : ByteArray} {maxL : Nat} {ret : Option FieldType} {hh : List (Nat × Nat × Nat × Nat)}
    (hown : s.vm.findClass own = some m.cls) (hlink : (Cond.methodLink own index y).before args s = true) (hinst : (Cond.instanceMethod y).before args s = true) (hsel : (Cond.selects C y y).before args s = true)
    (hcode : (Cond.codeWith y bytes maxL ret hh).before args s = true) (hy : y.cls ≠ "java/lang/invoke/MethodHandle" ∧ y.cls ≠ "java/lang/invoke/VarHandle")
    {W9 : Nat} {Pre : Pt → Array Value → Prop} {Post : Pt → Array Value → Option Value → Pt → Prop} (hK : Back l R p e below s args y 3 W9 Pre Post)
    {b : Addr} {cellB : Cell} (hcell : T.heap[b]? = some cellB) (hobj : cellB.vm.isStatics = false) (hcls : s.vm.findClass C = some cellB.cls)
    {g : JFrame} (hg : g.method = m) (hsize : g.locals.size = c.maxLocals) {argsL rest : List Value} (hlen : ∀ sig, parseMethodDescriptor y.desc = some sig → argsL.length = sig.parameters.length)
    (hstack : g.stack = argsL.reverse ++ .ref b :: rest) (hW : 2 * g.monitorRoom + (rest.map fun v => v.category).sum ≤ W9) (hdg : decode c.code g.pc = .ok (.invokevirtual index, 3))
    (hpre : ∀ vm₁, s.WarmedH vm₁ → Pre ⟨T.setVm vm₁, locs, cells, slots⟩ (Value.ref b :: argsL).toArray) :
    ∃ (v : Option Value) (vm₁ : Vm) (B : Pt), s.WarmedH vm₁ ∧ Stand p l e R s m args below meth c B.U B.locs B.cells B.slots ∧ Post ⟨T.setVm vm₁, locs, cells, slots⟩ (Value.ref b :: argsL).toArray v B ∧
      ∀ target, Steps p.tables e below (B.U.setTop { g with pc := g.pc + 3, stack := v.toList ++ rest }) target → Steps p.tables e below (T.setTop g) target := by
  obtain ⟨mk, methM, hnamed, hmethM, hstM, habM⟩ := Cond.instanceMethod_spec hinst
  obtain ⟨m8, methM', cM, hn8, hmethM', -, -, -, -, -, -, hsigM⟩ := Cond.codeWith_spec hcode
  cases Option.some.inj (hn8.symm.trans hnamed)
  cases hmethM.symm.trans hmethM'
  obtain ⟨c2, r2, m2, q1, q2, q3, q4, kP, hkP, hkPi⟩ := Cond.selects_spec hsel
  cases hcls.symm.trans q1
  cases (State.methodFound?_of_named hnamed hy).symm.trans q2
  cases hnamed.symm.trans q3
  have hselP : selectMethod e.platform s.vm cellB.cls mk = .method mk := by rw [Launch.admits_selectMethod X.admits]; exact q4
  obtain ⟨vm₁, X₁, hstep₁⟩ := X.invokevirtual hexec hown hlink hnamed hmethM hstM hkP hkPi hy (a := b) (cell := cellB) hcell
    (fun z h => by rw [h] at hobj; cases hobj) hselP hmethM habM hkP hkPi (g := g) hg (argsL := argsL) (rest := rest) (hlen _ hsigM) hstack hdg
  obtain ⟨v, B, X', hpost, hsteps⟩ := hK m meth c ⟨T.setVm vm₁, locs, cells, slots⟩ { g with stack := rest } (.invokevirtual index) mk (Value.ref b :: argsL).toArray X₁ hg hsize hdg hW (X₁.named hnamed) (hpre vm₁ X₁.warmed)
  exact ⟨v, vm₁, B, X₁.warmed, X', hpost, fun target h => hstep₁ _ fun acts => by rw [doInvoke_state]; exact hsteps.trans h⟩
abbrev vx_CVW (R : Room) (s : State) (args : Array Value) (own C : String) (index : Nat) (y : MethodName) (bytes : ByteArray) (maxL : Nat) (ret : Option FieldType) (hh : List (Nat × Nat × Nat × Nat)) (ws : List Cond) (rm : Room) (mc ms n : Nat) : Prop :=
  (rm.cells = mc ∧ rm.slots = ms ∧ rm.frames + 1 ≤ R.frames ∧ 8 + (maxL + 11) + rm.locals ≤ R.locals ∧ (∀ w ∈ ws, ∀ (a' : Array Value) (U : State), s.WarmedH U.vm → w.before a' U = true) ∧ Cond.codeWith y bytes maxL ret hh ∈ ws) ∧
  (Cond.codeWith y bytes maxL ret hh).before args s = true ∧ (Cond.initialized y.cls).before args s = true ∧ (y.cls ≠ "java/lang/invoke/MethodHandle" ∧ y.cls ≠ "java/lang/invoke/VarHandle") ∧
  (∀ sig, parseMethodDescriptor y.desc = some sig → n = sig.parameters.length) ∧ (Cond.methodLink own index y).before args s = true ∧ (Cond.instanceMethod y).before args s = true ∧ (Cond.selects C y y).before args s = true
theorem vx_cwVW {own C : String} {index maxL mc ms : Nat} {y : MethodName} {bytes : ByteArray} {ret : Option FieldType} {hh : List (Nat × Nat × Nat × Nat)} {Ts ws ws' : List Cond} {rm : Room} (n : Nat) (ht : ∀ w ∈ Ts, w.before args s = true) (hT : GoodIn Ts (wsV own index C y ws)) (hw : ws = Cond.codeWith y bytes maxL ret hh :: ws') (hrc : rm.cells = mc) (hrs : rm.slots = ms)
    (hd : y.cls = C ∧ y.cls ≠ "java/lang/invoke/MethodHandle" ∧ y.cls ≠ "java/lang/invoke/VarHandle" ∧ (parseMethodDescriptor y.desc).map (fun d => d.parameters.length) = some n) (hR : rm.frames + 1 ≤ R.frames ∧ 8 + (maxL + 11) + rm.locals ≤ R.locals) :
    vx_CVW R s args own C index y bytes maxL ret hh ws rm mc ms n := by
  obtain ⟨hC, hd⟩ := hd
  subst hC
  have ok : ∀ w ∈ wsV own index y.cls y ws, w.before args s = true := fun w h => ht w (hT w h).1
  have hG : GoodIn Ts ws := fun w h => hT w (by unfold wsV; exact List.mem_append_right _ h)
  have hc : Cond.codeWith y bytes maxL ret hh ∈ ws := by rw [hw]; exact List.mem_cons_self
  refine ⟨⟨hrc, hrs, hR.1, hR.2, pay_in ht hG, hc⟩, ht _ (hG _ hc).1, ok _ (by simp [wsV]), ⟨hd.1, hd.2.1⟩, fun sig h => ?_, ok _ (by simp [wsV]), ok _ (by simp [wsV]), ok _ (by simp [wsV])⟩
  have h2 := hd.2.2
  rw [h] at h2
  exact (Option.some.inj h2).symm
theorem vx_runVW {y : MethodName} {bytes cc : ByteArray} {maxL nL mc ms n index : Nat} {ret : Option FieldType} {hh : List (Nat × Nat × Nat × Nat)} {ws : List Cond} {rm : Room} {Pc : Array Value → State → Prop} {Qc : Array Value → State → Outcome → State → Prop} {free : Addr → Prop} {Ts : List Cond} {own C : String} {b : Addr} {As rest : List Value} {g : JFrame}
    (S : CallFix p m c cc nL s args Ts own) (hM : Met l y ws rm Pc Qc mc ms free) (cw : vx_CVW R s args own C index y bytes maxL ret hh ws rm mc ms n) (hp : PreV s H C b Pc As)
    (hg : g.method = m) (hn : As.length = n) (hsize : g.locals.size = nL) (hstack : g.stack = As.reverse ++ .ref b :: rest) (hW : 2 * g.monitorRoom + (rest.map fun v => v.category).sum ≤ 8) (hdg : decode cc g.pc = .ok (.invokevirtual index, 3)) (hf : cells + mc ≤ R.cells ∧ slots + ms ≤ R.slots) :
    va_Run p l e R s m args below meth c H locs cells slots mc ms g rest (Qc (Value.ref b :: As).toArray) free := by
  obtain ⟨⟨hrc, hrs, hfr, hlo, hws, hcw⟩, hcode, hini, hy, hlen, hl, hin, hse⟩ := cw
  have hK : Back l R p e below s args y 3 8 (PreOf R mc ms Pc) (PostOf Qc mc ms free) := va_backW (hh := hh) (bytes := bytes) (maxL := maxL) (ret := ret) hM hp.1 hrc hrs hfr hlo hws hcw (fun a' U hW => word_at hW (Or.inl (by first | rfl | simp [Cond.onTables, Cond.keeps, Cond.steady])) hini)
  obtain ⟨hx, hb, hml, ho, -⟩ := S
  obtain ⟨-, ⟨cellB, hcB, hoB, hclB⟩, hPc⟩ := hp
  intro T hT X
  obtain ⟨v, vm₁, ⟨U', l2, c2, s2⟩, hW₁, X', ⟨g', mk, t, L, e1, e2, hq, h1, hL, h2, h3⟩, st⟩ := vx_callVW X hx (C := C) (hh := hh) (bytes := bytes) (maxL := maxL) (ret := ret) ho hl hin hse hcode hy hK (by rw [hT]; exact hcB) hoB hclB hg (hsize.trans hml.symm) (argsL := As) (rest := rest) (fun sig h => hn.trans (hlen sig h)) hstack hW (by rw [hb]; exact hdg)
    (fun vm₁ hW₁ => ⟨hf.1, hf.2, hPc (T.setVm vm₁) hT hW₁⟩)
  dsimp only [Pt.U, Pt.locs, Pt.cells, Pt.slots] at X' e1 e2 h1 h2 h3 st
  subst h1; subst h2; subst h3
  exact ⟨v, (T.setVm vm₁).calling g' mk (Value.ref b :: As).toArray, t, U', L, hT, X', hL, e1, e2, hq, st⟩
section
variable {y : MethodName} {bytes cc : ByteArray} {maxL nL mc ms n index : Nat} {ret : Option FieldType} {ws : List Cond} {rm : Room} {Pc : Array Value → State → Prop} {Qc : Array Value → State → Outcome → State → Prop} {XC : String → State → State → Prop} {free : Addr → Prop} {Ts : List Cond} {own C : String} {b : Addr} {As rest : List Value} {g : JFrame}
theorem vx_runVX {hh : List (Nat × Nat × Nat × Nat)} (S : CallFix p m c cc nL s args Ts own) (hM : vx_Met l y ws rm Pc Qc XC mc ms free) (cw : vx_CVW R s args own C index y bytes maxL ret hh ws rm mc ms n) (hp : PreV s H C b Pc As)
    (hg : g.method = m) (hn : As.length = n) (hsize : g.locals.size = nL) (hstack : g.stack = As.reverse ++ .ref b :: rest) (hW : 2 * g.monitorRoom + (rest.map fun v => v.category).sum ≤ 8) (hdg : decode cc g.pc = .ok (.invokevirtual index, 3)) (hf : cells + mc ≤ R.cells ∧ slots + ms ≤ R.slots) :
    vx_Run p l e R s m args below meth c H locs cells slots mc ms g rest (Qc (Value.ref b :: As).toArray) XC free := by
  obtain ⟨⟨hrc, hrs, hfr, hlo, hws, hcw⟩, hcode, hini, hy, hlen, hl, hin, hse⟩ := cw
  have hK : vx_Back l R p e below s args y 3 8 (PreOf R mc ms Pc) (PostOf Qc mc ms free) (vx_Post XC mc ms free) := vx_backW (hh := hh) (bytes := bytes) (maxL := maxL) (ret := ret) hM hp.1 hrc hrs hfr hlo hws hcw (fun a' U hW => word_at hW (Or.inl (by first | rfl | simp [Cond.onTables, Cond.keeps, Cond.steady])) hini)
  obtain ⟨hx, hb, hml, ho, -⟩ := S
  obtain ⟨-, ⟨cellB, hcB, hoB, hclB⟩, hPc⟩ := hp
  intro T hT X
  rcases vx_callVX X hx (C := C) (hh := hh) (bytes := bytes) (maxL := maxL) (ret := ret) ho hl hin hse hcode hy hK (by rw [hT]; exact hcB) hoB hclB hg (hsize.trans hml.symm) (argsL := As) (rest := rest) (fun sig h => hn.trans (hlen sig h)) hstack hW (by rw [hb]; exact hdg)
    (fun vm₁ hW₁ => ⟨hf.1, hf.2, hPc (T.setVm vm₁) hT hW₁⟩) with ⟨v, vm₁, ⟨U', l2, c2, s2⟩, hW₁, X', ⟨g', mk, t, L, e1, e2, hq, h1, hL, h2, h3⟩, st⟩ | ⟨q, vm₁, ⟨U', l2, c2, s2⟩, hW₁, X', ⟨g', mk, t, L, E, ce, e1, e2, hq, hce, hcv, hcl, h1, hL, h2, h3⟩, st⟩
  · dsimp only [Pt.U, Pt.locs, Pt.cells, Pt.slots] at X' e1 e2 h1 h2 h3 st
    subst h1; subst h2; subst h3
    exact Or.inl ⟨v, (T.setVm vm₁).calling g' mk (Value.ref b :: As).toArray, t, U', L, hT, X', hL, e1, e2, hq, st⟩
  · dsimp only [Pt.U, Pt.locs, Pt.cells, Pt.slots] at X' e1 e2 h1 h2 h3 st hcl
    subst h1; subst h2; subst h3
    exact Or.inr ⟨q, (T.setVm vm₁).calling g' mk (Value.ref b :: As).toArray, t, U', L, E, ce, hT, X', hL, e1, e2, hq, hce, hcv, vx_cls hW₁ hcl, st⟩
theorem vx_runSX {hh : List (Nat × Nat × Nat × Nat)} (S : CallFix p m c cc nL s args Ts own) (hM : vx_Met l y ws rm Pc Qc XC mc ms free) (cw : vx_CSW R s args own index y bytes maxL ret hh ws rm mc ms n) (hp : PreS s H Pc As)
    (hg : g.method = m) (hn : As.length = n) (hsize : g.locals.size = nL) (hstack : g.stack = As.reverse ++ rest) (hW : 2 * g.monitorRoom + (rest.map fun v => v.category).sum ≤ 8) (hdg : decode cc g.pc = .ok (.invokestatic index, 3)) (hf : cells + mc ≤ R.cells ∧ slots + ms ≤ R.slots) :
    vx_Run p l e R s m args below meth c H locs cells slots mc ms g rest (Qc As.toArray) XC free := by
  obtain ⟨⟨hrc, hrs, hfr, hlo, hws, hcw⟩, hcode, hini, hy, hlen, hl, hstt⟩ := cw
  have hK : vx_Back l R p e below s args y 3 8 (PreOf R mc ms Pc) (PostOf Qc mc ms free) (vx_Post XC mc ms free) := vx_backW (hh := hh) (bytes := bytes) (maxL := maxL) (ret := ret) hM hp.1 hrc hrs hfr hlo hws hcw (fun a' U hW => word_at hW (Or.inl (by first | rfl | simp [Cond.onTables, Cond.keeps, Cond.steady])) hini)
  obtain ⟨hx, hb, hml, ho, -⟩ := S
  intro T hT X
  rcases vx_callSX X hx (hh := hh) (bytes := bytes) (maxL := maxL) (ret := ret) ho hl hstt hini hcode hy hK hg (hsize.trans hml.symm) (argsL := As) (rest := rest) (fun sig h => hn.trans (hlen sig h)) hstack hW (by rw [hb]; exact hdg)
    (fun vm₁ hW₁ => ⟨hf.1, hf.2, hp.2 (T.setVm vm₁) hT hW₁⟩) with ⟨v, vm₁, ⟨U', l2, c2, s2⟩, hW₁, X', ⟨g', mk, t, L, e1, e2, hq, h1, hL, h2, h3⟩, st⟩ | ⟨q, vm₁, ⟨U', l2, c2, s2⟩, hW₁, X', ⟨g', mk, t, L, E, ce, e1, e2, hq, hce, hcv, hcl, h1, hL, h2, h3⟩, st⟩
  · dsimp only [Pt.U, Pt.locs, Pt.cells, Pt.slots] at X' e1 e2 h1 h2 h3 st
    subst h1; subst h2; subst h3
    exact Or.inl ⟨v, (T.setVm vm₁).calling g' mk As.toArray, t, U', L, hT, X', hL, e1, e2, hq, st⟩
  · dsimp only [Pt.U, Pt.locs, Pt.cells, Pt.slots] at X' e1 e2 h1 h2 h3 st hcl
    subst h1; subst h2; subst h3
    exact Or.inr ⟨q, (T.setVm vm₁).calling g' mk As.toArray, t, U', L, E, ce, hT, X', hL, e1, e2, hq, hce, hcv, vx_cls hW₁ hcl, st⟩
end
end VXH
theorem vx_ofWH {l : Launch} {y : MethodName} {ws ws' : List Cond} {rm : Room} {Pc : Array Value → State → Prop} {Qc : Array Value → State → Outcome → State → Prop} {XC : String → State → State → Prop} {mc ms : Nat} {free : Addr → Prop} {cc : ByteArray} {maxL : Nat} {ret : Option FieldType} {hh : List (Nat × Nat × Nat × Nat)}
    (hy : plainName y.cls = true) (hw : ws = Cond.codeWith y cc maxL ret hh :: ws')
    (body : ∀ p e s m args below meth c s₁, BodyLoose p l y (headSpec ws rm) cc maxL ret e s m args below meth c s₁ → c.maxLocals = maxL → Pc args s →
      W p l e (headSpec ws rm).room s m args below meth c s.heap [] 0 0 (vx_MQ below Qc XC args s mc ms free) (entryFrame m args maxL)) : vx_Met l y ws rm Pc Qc XC mc ms free := by
  refine MetFree.of_bodyS (code := cc) (maxLocals := maxL) (ret := ret) hy ?_ ?_
  · intro args s m h hn
    obtain ⟨m9, meth, c, hn9, h1, h2, h3, h4, -, h5, h6, -⟩ := Cond.codeWith_spec (atoms_spec (ws := ws) h _ (by rw [hw]; exact List.mem_cons_self))
    cases hn.symm.trans hn9
    exact ⟨meth, c, h1, h2, h3, h4, h5, h6⟩
  · intro p e s m args below meth c s₁ B hml hP _
    have hh0 : s₁.heap = s.heap := by rw [B.state]; rfl
    obtain ⟨t, a1, o, b1, b2, b3⟩ := body p e s m args below meth c s₁ B hml hP s₁ hh0 (Stand.of_body B)
    exact ⟨t, o, a1, b1, b2, b3⟩
/-! ===== END ===== -/
/-! ===== BEGIN what the machine throws by itself, no traces kept ===== -/
section VXM
set_option maxHeartbeats 1000000 in
/-- the machine throws cls with the message text, no traces kept: from its note over the frame g to 'throwing' over the same frame (follows the proofs of Stand.vmThrowsMessage, Shelf/KitTracedVmS.lean, and Stand.throwsMessageColdBareV, StandMessageColdV.lean, without the step out of the frame) -/
theorem vx_vmAt {p : Program} {l : Launch} {e : Env} {R : Room} {s : State} {m₀ : MethodId} {args : Array Value} {below : List Frame} {meth : Method} {c : Code} {W : State} {locs : List Loc} {cells slots : Nat}
    (X : Stand p l e R s m₀ args below meth c W locs cells slots) (hexec : p.tables.exec = Jvm.exec) (htr : e.platform.stackTraces = false) {cls : String} {names : List String} {text : String}
    (hcls : Bundle.fit cls = true) (hnames : ∀ n ∈ names, Bundle.fit n = true) (hsoe : (cls == "java/lang/StackOverflowError") = false) (hoom : (cls == "java/lang/OutOfMemoryError") = false)
    (h : ∀ a ∈ Bundle.messageArmAtoms cls names, a.before args s = true)
    (hlocs : ∀ x ∈ locs, ∀ cell, s.heap[x.base]? = some cell → cell.vm.isStatics = false)
    (htext : (text == notModelled) = false) (hlimit : ¬ (stringBytes (stringToUtf16 text)).size > e.platform.arrayLengthLimit) (hheap : ¬ (stringBytes (stringToUtf16 text)).size * componentBytes .byte > e.platform.maxHeapBytes)
    {g : JFrame} (hg : g.method = m₀) (hsize : g.locals.size = c.maxLocals)
    (hRframes : names.length + 4 < R.frames) (hRlocals : 2 * g.monitorRoom + (g.stack.map fun v => v.category).sum + 10240 ≤ R.locals) (hshort : 13 * names.length + 55 ≤ 10240)
    (hRcells : cells + 3 ≤ R.cells) (hRslots : slots + ((stringBytes (stringToUtf16 text)).size + 4 + 6) ≤ R.slots) (hlocks : meth.locks = false) :
    ∃ (S : State) (q : Addr) (ce : Cell), (∀ target, Steps p.tables e below ((S.setTop g).pushFrame (.throwing q)) target → Steps p.tables e below ((W.setTop g).pushFrame (.throwNew cls (some text) none)) target) ∧
      Stand p l e R s m₀ args below meth c S locs (cells + 3) (slots + ((stringBytes (stringToUtf16 text)).size + 4 + 6)) ∧ S.heap[q]? = some ce ∧ s.vm.findClass cls = some ce.cls ∧ ce.vm = .none := by
  have howns : e.platform.frameOwnsMonitors = true := by rw [X.admits.platform]
  have hfin : e.platform.finalization = false := by rw [X.admits.platform]
  have hpl : e.platform.magicAccessors = ({} : Platform).magicAccessors := by rw [X.admits.platform]
  have a : ∀ x, x ∈ Bundle.messageArmAtoms cls names → x.holds args s none s [] = true := fun x hx => h x hx
  obtain ⟨T, Z0, L, -, Y⟩ := ThrowableC.of_atoms (args := args) howns hfin hpl (fun x hx => h x (by simp [Bundle.messageArmAtoms, hx]))
  obtain ⟨Z, M, LZ, LM, hnZ⟩ := Init0T.ofS_atoms (args := args) hpl L Y (fun x hx => h x (by simp [Bundle.messageArmAtoms, hx]))
  obtain ⟨P1, Ps, hlen, L1, hL, hP1m, hlink1, hlink⟩ := Bundle.chainS (args := args) hpl hnZ names cls hcls hnames (fun x hx => h x (by simp [Bundle.messageArmAtoms, hx]))
  obtain ⟨Zs, LZs, hn4, hfitv, hfitc⟩ := StringT.of_atoms (args := args) (fun x hx => h x (by simp [Bundle.messageArmAtoms, hx]))
  have hfound : s.vm.findClass cls = some P1.m.cls := findClass_of_methodNamed hP1m
  obtain ⟨c1, kX, hc1, hk, hord, -, -, hn6⟩ := Cond.instantiable_spec (a (.instantiable cls 6) (by simp [Bundle.messageArmAtoms]))
  cases Option.some.inj (hc1.symm.trans hfound)
  have hinit := Cond.initialized_spec hfound hk (a (.initialized cls) (by simp [Bundle.messageArmAtoms]))
  have hctor : kX.findMethod "<init>" "(Ljava/lang/String;)V" = some P1.m.idx := findMethod_of_methodNamed hP1m hk
  have hsel0 : selectMethod e.platform s.vm P1.m.cls T.fill0 = .method T.fill0 := by
    obtain ⟨c2, r2, m2, q1, q2, q3, q4, -⟩ := Cond.selects_spec (a (.selects cls Bundle.tFill0 Bundle.tFill0) (by simp [Bundle.messageArmAtoms]))
    cases Option.some.inj (q1.symm.trans hfound)
    cases Option.some.inj (q2.symm.trans (State.methodFound?_of_named Y.fill0 (by decide)))
    cases Option.some.inj (q3.symm.trans Y.fill0)
    rw [Launch.admits_selectMethod X.admits]; exact q4
  have hselF : selectMethod e.platform s.vm P1.m.cls T.fill = .method T.fill := by
    obtain ⟨c2, r2, m2, q1, q2, q3, q4, -⟩ := Cond.selects_spec (a (.selects cls Bundle.tFill Bundle.tFill) (by simp [Bundle.messageArmAtoms]))
    cases Option.some.inj (q1.symm.trans hfound)
    cases Option.some.inj (q2.symm.trans (State.methodFound?_of_named Y.fill (by decide)))
    cases Option.some.inj (q3.symm.trans Y.fill)
    rw [Launch.admits_selectMethod X.admits]; exact q4
  obtain ⟨cellS0, hcS0, hiss⟩ := Y.statics
  obtain ⟨u0, hu0⟩ := Cond.staticRefV Y.unassigned L.unassignedStatic L.statics hcS0 hiss (a (.isRef (.static Bundle.tN "UNASSIGNED_STACK" Bundle.steD)) (by simp [Bundle.messageArmAtoms]))
  obtain ⟨sen, hsen⟩ := Cond.staticRefV Y.sentinel L.sentinelStatic L.statics hcS0 hiss (a (.isRef (.static Bundle.tN "SUPPRESSED_SENTINEL" Bundle.listD)) (by simp [Bundle.messageArmAtoms]))
  obtain ⟨ci198, i198, fB, hk198, hg198, ha198, hsB, -, hnB, htB, hffB⟩ := Cond.ownField (t := .object "java/lang/Object") Y.found L.cls (by decide +kernel) (a (.fieldLink Bundle.tN 198 Bundle.tN "backtrace" "Ljava/lang/Object;") (by simp [Bundle.messageArmAtoms])) (a (.lays Bundle.tN Bundle.tN "backtrace" "Ljava/lang/Object;") (by simp [Bundle.messageArmAtoms])) e.platform hpl
  obtain ⟨cellS, hcS', heS, -, hkeep⟩ := X.same.2.2.2.2.2 T.aS cellS0 hcS0
  have hcellS : W.heap[T.aS]? = some cellS := hcS'
  have hout' : ∀ i, (⟨T.aS, i⟩ : Loc) ∉ locs := fun i hmem => by
    have := hlocs _ hmem cellS0 hcS0
    rw [hiss] at this; cases this
  have hknownS : cellS.vm ≠ .unknown := by
    rw [heS]; intro hu
    rw [show cellS0.vm = .unknown from hu] at hiss
    cases hiss
  have hvU : cellS.slots[T.fUnassigned.slot]? = some u0.v := by rw [hkeep _ (hout' _)]; exact hu0
  have hvSen : cellS.slots[T.fSentinel.slot]? = some sen.v := by rw [hkeep _ (hout' _)]; exact hsen
  obtain ⟨iM, hffM⟩ := Y.msg
  obtain ⟨tyC, dC, hdC, hdnC⟩ := Cond.laysAt hfound hk Y.cause (a (.lays cls Bundle.tN "cause" "Ljava/lang/Throwable;") (by simp [Bundle.messageArmAtoms]))
  obtain ⟨tyS, dS, hdS, hdnS⟩ := Cond.laysAt hfound hk Y.stack (a (.lays cls Bundle.tN "stackTrace" Bundle.steD) (by simp [Bundle.messageArmAtoms]))
  obtain ⟨tyP, dP, hdP, hdnP⟩ := Cond.laysAt hfound hk Y.supp (a (.lays cls Bundle.tN "suppressedExceptions" Bundle.listD) (by simp [Bundle.messageArmAtoms]))
  obtain ⟨tyM, dM, hdM, hdnM⟩ := Cond.laysAt hfound hk hffM (a (.lays cls Bundle.tN "detailMessage" "Ljava/lang/String;") (by simp [Bundle.messageArmAtoms]))
  obtain ⟨tyB, dB, hdB, hdnB⟩ := Cond.laysAt hfound hk hffB (a (.lays cls Bundle.tN "backtrace" "Ljava/lang/Object;") (by simp [Bundle.messageArmAtoms]))
  have bC := Cond.laysApart hdB hdC hdnB hdnC (by rw [hnB, Y.causeName]; decide)
  have bS := Cond.laysApart hdB hdS hdnB hdnS (by rw [hnB, Y.stackName]; decide)
  have bP := Cond.laysApart hdB hdP hdnB hdnP (by rw [hnB, Y.suppName]; decide)
  have hbk : ((preparedCellV T.toThrowableT (freshCell P1.m.cls kX) (W.heap.size + 2) u0 sen).withEntry W.cur).slots[fB.slot]? = some .null := by
    have := fresh_default (c := P1.m.cls) tyB
    rw [htB] at this
    simpa [preparedCellV, Cell.setSlot, Cell.withEntry, Array.getElem?_setIfInBounds, bC, bS, bP, bC.symm, bS.symm, bP.symm, defaultValue] using this
  have tkC := Takes.of_laid (v := .ref (W.heap.size + 2)) hk hord tyC (by rw [Y.causeType]; rfl)
  have tkS := Takes.of_laid (v := u0.v) hk hord tyS (by rw [Y.stackType]; exact fits_refV_array _ u0)
  have tkP := Takes.of_laid (v := sen.v) hk hord tyP (by rw [Y.suppType]; exact fits_refV_object _ sen)
  have tkM := Takes.of_laid (v := .ref (W.heap.size + 1)) hk hord tyM (by rw [Y.msgType]; rfl)
  have hskip : SkipFacts T e.platform s (fun u => u) u0 ((preparedCellV T.toThrowableT (freshCell P1.m.cls kX) (W.heap.size + 2) u0 sen).withEntry W.cur) := ⟨{ ci198 := ci198, i198 := i198, fBack := fB }, ⟨hk198, hg198, ha198, hsB⟩, hbk, fun _ _ => rfl⟩
  have h0 : At W g.method c below := by rw [hg]; exact X.here
  obtain ⟨hbeyond, hfreeW⟩ := X.vmMayThrow hsize (.throwNew cls (some text) none) (fun f hf => by cases hf) rfl hRlocals
  have hfr' : W.frames.length + Ps.length + 4 < (e.platform.stackLimits W.me).1 := by have := X.framesAbove hRframes; omega
  have hwd' : (stackUse (.java g :: W.frames.tail)).2 + 13 * Ps.length + 55 ≤ (e.platform.stackLimits W.me).2 := by have := X.stackAbove hsize (K := 13 * Ps.length + 55) (by omega); omega
  have hslots : W.slotsUsed + (stringBytes (stringToUtf16 text)).size + Zs.kS.instanceTypes.size + kX.instanceTypes.size ≤ e.platform.maxSlots := by
    have := X.slotsAbove hRslots
    rw [hn4, hn6]
    omega
  obtain ⟨vm', hW', st⟩ := Steps.vmThrowsMessageColdByV p (s₀ := s) (S := W) (g := g) h0 hexec T L Z LZ M LM X.warmed (t := W.cur) rfl Zs LZs P1 L1 Ps hL hlink1 hlink hsoe hoom hfound hk hinit hord hctor
    (Launch.admits_hotImplicitExceptions X.admits) hbeyond hfreeW htext hlimit hheap (X.cellsAbove hRcells) hslots (hfitv _) (hfitc _)
    (Nn := fun u => u) heapOnly_id (fun _ _ => rfl) (fun _ => rfl) (fun u x y => setCell_twice _ _ _ _) (fun _ => Nat.le_refl _) (cN := ((preparedCellV T.toThrowableT (freshCell P1.m.cls kX) (W.heap.size + 2) u0 sen).withEntry W.cur))
    hsel0 hcellS hknownS hvU tkS (fun _ hu => hu) (fun _ hu => hu) rfl rfl rfl (by simp [preparedCellV, Cell.setSlot, Cell.withEntry]) hskip (fun _ _ hA hW _ hroom _ hrest => L.nativeOff p htr hA hW hroom hrest) hselF hvSen tkC tkP tkM Y.objLocals rfl hfr' hwd'
  rw [plainBareV_eq T.toThrowableT (W.heap.size + 2) u0 sen (.ref (W.heap.size + 1)) W.cur rfl rfl] at st
  obtain ⟨-, -, w3, w4, -, -, -⟩ := withThrown_facts e.platform W Zs text P1.m.cls kX
  have X3 := ((X.pushed (bytesOf Zs.cB (stringToUtf16 text))).pushed (stringAt Zs.cS Zs.kS Zs.fv Zs.fc (stringToUtf16 text) W.heap.size)).pushed (freshCell P1.m.cls kX)
  rw [← withString_eq] at X3
  have X4 := X3.noted hW'
  have ha : (W.heap.size + 2) < ((withThrown W Zs text P1.m.cls kX).setVm vm').heap.size := by show _ < (withThrown W Zs text P1.m.cls kX).heap.size; rw [w3]; omega
  have hcell : ((withThrown W Zs text P1.m.cls kX).setVm vm').heap[(W.heap.size + 2)]? = some (freshCell P1.m.cls kX) := w4
  have X5 := ((((X4.stored hcell T.fCause.slot (.ref (W.heap.size + 2))).storedAgain ha T.fStack.slot u0.v).storedAgain ha T.fSupp.slot sen.v).storedAgain ha T.fStack.slot u0.v).storedAgain ha T.fMsg.slot (.ref (W.heap.size + 1))
  obtain ⟨g₁, hfrM⟩ := X5.frames_eq
  have hU : ((((withThrown W Zs text P1.m.cls kX).setVm vm').setCell (W.heap.size + 2) (plainBareV T.toThrowableT (freshCell P1.m.cls kX) (W.heap.size + 2) u0 sen (.ref (W.heap.size + 1)))).setTop g).pushFrame (.throwing (W.heap.size + 2)) = (((withThrown W Zs text P1.m.cls kX).setVm vm').setCell (W.heap.size + 2) (plainBareV T.toThrowableT (freshCell P1.m.cls kX) (W.heap.size + 2) u0 sen (.ref (W.heap.size + 1)))).setFrames (.throwing (W.heap.size + 2) :: .java g :: below) := by
    rw [State.pushFrame, State.frames_setTop _ hfrM, State.setTop_of_frames _ hfrM, State.setFrames_setFrames]
  have b1 : (bytesOf Zs.cB (stringToUtf16 text)).slots.size = (stringBytes (stringToUtf16 text)).size := by
    rw [(Cell.writeAll_facts _ _).2.2]; simp [bytes0]
  have b2 : (stringAt Zs.cS Zs.kS Zs.fv Zs.fc (stringToUtf16 text) W.heap.size).slots.size = 4 := by simp [string0, Cell.setSlot, hn4]
  have b3 : (freshCell P1.m.cls kX).slots.size = 6 := by simp [hn6]
  rw [b1, b2, b3] at X5
  have e9 : slots + (stringBytes (stringToUtf16 text)).size + 4 + 6 = slots + ((stringBytes (stringToUtf16 text)).size + 4 + 6) := by omega
  rw [e9] at X5
  simp only [List.append_assoc, List.cons_append, List.nil_append] at X5
  refine ⟨((withThrown W Zs text P1.m.cls kX).setVm vm').setCell (W.heap.size + 2) (plainBareV T.toThrowableT (freshCell P1.m.cls kX) (W.heap.size + 2) u0 sen (.ref (W.heap.size + 1))), W.heap.size + 2, _, fun target ht => st _ (by rw [X.tail, ← hU]; exact ht),
    X5.forget (fun y hy => ?_), heapAt_setCell_self _ ha, hfound, rfl⟩
  simp only [List.mem_cons, List.not_mem_nil, or_false] at hy
  have hge : s.heap.size ≤ W.heap.size := X.same.2.1
  rcases hy with rfl | rfl | rfl | rfl | rfl <;> exact Nat.le_trans hge (Nat.le_add_right _ 2)
set_option maxHeartbeats 1000000 in
/-- the machine throws NullPointerException, no traces kept: from its note over the frame g to 'throwing' over the same frame (follows the proof of Stand.vmThrowsNpe, Shelf42/KT2.lean; throwsNpeColdBareVAt, Shelf42/NT91.lean, called) -/
theorem vx_npeAt {p : Program} {l : Launch} {e : Env} {R : Room} {s : State} {m₀ : MethodId} {args : Array Value} {below : List Frame} {meth : Method} {c : Code} {W : State} {locs : List Loc} {cells slots : Nat}
    (X : Stand p l e R s m₀ args below meth c W locs cells slots) (hexec : p.tables.exec = Jvm.exec) (htr : e.platform.stackTraces = false) {n : Nat}
    (h : ∀ a ∈ Bundle.npeArmAtoms n, a.before args s = true)
    (hlocs : ∀ x ∈ locs, ∀ cell, s.heap[x.base]? = some cell → cell.vm.isStatics = false)
    {g : JFrame} (hg : g.method = m₀) (hsize : g.locals.size = c.maxLocals)
    (hRframes : 7 < R.frames) (hRlocals : 2 * g.monitorRoom + (g.stack.map fun v => v.category).sum + 10240 ≤ R.locals)
    (hRcells : cells + 1 ≤ R.cells) (hRslots : slots + n ≤ R.slots) (hlocks : meth.locks = false) :
    ∃ (S : State) (q : Addr) (ce : Cell), (∀ target, Steps p.tables e below ((S.setTop g).pushFrame (.throwing q)) target → Steps p.tables e below ((W.setTop g).pushFrame (.throwNew "java/lang/NullPointerException" none none)) target) ∧
      Stand p l e R s m₀ args below meth c S locs (cells + 1) (slots + n) ∧ S.heap[q]? = some ce ∧ s.vm.findClass "java/lang/NullPointerException" = some ce.cls ∧ ce.vm = .none := by
  have howns : e.platform.frameOwnsMonitors = true := by rw [X.admits.platform]
  have hfin : e.platform.finalization = false := by rw [X.admits.platform]
  have hpl : e.platform.magicAccessors = ({} : Platform).magicAccessors := by rw [X.admits.platform]
  have hpl2 : e.platform.arrayCloneIsPublic = true := by rw [X.admits.platform]
  have a' : ∀ x, x ∈ Bundle.npeArmAtoms n → x.holds args s none s [] = true := fun x hx => h x hx
  obtain ⟨T, Z, L, LZ, Y⟩ := ThrowableC.of_atoms (args := args) howns hfin hpl (fun x hx => h x (by simp [Bundle.npeArmAtoms, hx]))
  obtain ⟨N, LN, hcN, hnNF, hordN, hffS⟩ := NpeC.of_atoms (args := args) hpl hpl2 L Y (fun x hx => h x (by simp [Bundle.npeArmAtoms, hx]))
  obtain ⟨P1, L1, hP1m, hP1s⟩ := PassC.of_atoms (args := args) (s := s) hpl (X := Bundle.nN) (Y := Bundle.rN) (by decide) (by decide) LibCode.NullPointerException.Init0.at_0 LibCode.NullPointerException.Init0.at_1 LibCode.NullPointerException.Init0.at_4 (fun x hx => h x (by simp [Bundle.npeArmAtoms, hx]))
  obtain ⟨PR, LR, hPRm, hPRs⟩ := PassC.of_atoms (args := args) (s := s) hpl (X := Bundle.rN) (Y := Bundle.eN) (by decide) (by decide) LibCode.RuntimeException.Init0.at_0 LibCode.RuntimeException.Init0.at_1 LibCode.RuntimeException.Init0.at_4 (fun x hx => h x (by simp [Bundle.npeArmAtoms, hx]))
  obtain ⟨PE, LEx, hPEm, hPEs⟩ := PassC.of_atoms (args := args) (s := s) hpl (X := Bundle.eN) (Y := Bundle.tN) (by decide) (by decide) LibCode.Exception.Init0.at_0 LibCode.Exception.Init0.at_1 LibCode.Exception.Init0.at_4 (fun x hx => h x (by simp [Bundle.npeArmAtoms, hx]))
  have hfound : s.vm.findClass Bundle.nN = some P1.m.cls := findClass_of_methodNamed hP1m
  have ecls : N.cN = P1.m.cls := Option.some.inj (hcN.symm.trans hfound)
  have hk : s.vm.classes[P1.m.cls]? = some N.kN := by rw [← ecls]; exact LN.cls
  have hinit := Cond.initialized_spec hfound hk (a' (.initialized Bundle.nN) (by simp [Bundle.npeArmAtoms]))
  have hctor : N.kN.findMethod "<init>" "()V" = some P1.m.idx := findMethod_of_methodNamed hP1m hk
  obtain ⟨c1, k1, hc1, hk1, -, -, -, hn⟩ := Cond.instantiable_spec (a' (.instantiable Bundle.nN n) (by simp [Bundle.npeArmAtoms]))
  cases Option.some.inj (hc1.symm.trans hfound)
  cases Option.some.inj (hk1.symm.trans hk)
  have hfsz : (freshCell P1.m.cls N.kN).slots.size = n := by simp [hn]
  have hlink1 : P1.sup = PR.m := Option.some.inj (hP1s.symm.trans hPRm)
  have hlinkR : PR.sup = PE.m := Option.some.inj (hPRs.symm.trans hPEm)
  have hlinkE : PE.sup = Z.m T.toThrowableT := Option.some.inj (hPEs.symm.trans Y.init0)
  have hLs : ∀ P, P ∈ [PR, PE] → P.Links0 e.platform s := fun P hP => by
    simp only [List.mem_cons, List.not_mem_nil, or_false] at hP
    rcases hP with rfl | rfl
    · exact LR
    · exact LEx
  have hsel0 : selectMethod e.platform s.vm P1.m.cls T.fill0 = .method T.fill0 := by
    obtain ⟨c2, r2, m2, q1, q2, q3, q4, -⟩ := Cond.selects_spec (a' (.selects Bundle.nN Bundle.tFill0 Bundle.tFill0) (by simp [Bundle.npeArmAtoms]))
    cases Option.some.inj (q1.symm.trans hfound)
    cases Option.some.inj (q2.symm.trans (State.methodFound?_of_named Y.fill0 (by decide)))
    cases Option.some.inj (q3.symm.trans Y.fill0)
    rw [Launch.admits_selectMethod X.admits]; exact q4
  have hselF : selectMethod e.platform s.vm P1.m.cls T.fill = .method N.fill := by
    obtain ⟨c2, r2, m2, q1, q2, q3, q4, -⟩ := Cond.selects_spec (a' (.selects Bundle.nN Bundle.tFill Bundle.nFill) (by simp [Bundle.npeArmAtoms]))
    cases Option.some.inj (q1.symm.trans hfound)
    cases Option.some.inj (q2.symm.trans (State.methodFound?_of_named Y.fill (by decide)))
    cases Option.some.inj (q3.symm.trans hnNF)
    rw [Launch.admits_selectMethod X.admits]; exact q4
  obtain ⟨cellS0, hcS0, hiss⟩ := Y.statics
  obtain ⟨u0, hu0⟩ := Cond.staticRefV Y.unassigned L.unassignedStatic L.statics hcS0 hiss (a' (.isRef (.static Bundle.tN "UNASSIGNED_STACK" Bundle.steD)) (by simp [Bundle.npeArmAtoms]))
  obtain ⟨sen, hsen⟩ := Cond.staticRefV Y.sentinel L.sentinelStatic L.statics hcS0 hiss (a' (.isRef (.static Bundle.tN "SUPPRESSED_SENTINEL" Bundle.listD)) (by simp [Bundle.npeArmAtoms]))
  obtain ⟨ci198, i198, fB, hk198, hg198, ha198, hsB, -, hnB, htB, hffB⟩ := Cond.ownField (t := .object "java/lang/Object") Y.found L.cls (by decide +kernel) (a' (.fieldLink Bundle.tN 198 Bundle.tN "backtrace" Bundle.objD) (by simp [Bundle.npeArmAtoms])) (a' (.lays Bundle.tN Bundle.tN "backtrace" Bundle.objD) (by simp [Bundle.npeArmAtoms])) e.platform hpl
  obtain ⟨cellS, hcS', heS, -, hkeep⟩ := X.same.2.2.2.2.2 T.aS cellS0 hcS0
  have hcellS : W.heap[T.aS]? = some cellS := hcS'
  have hout' : ∀ i, (⟨T.aS, i⟩ : Loc) ∉ locs := fun i hmem => by
    have := hlocs _ hmem cellS0 hcS0
    rw [hiss] at this; cases this
  have hknownS : cellS.vm ≠ .unknown := by
    rw [heS]; intro hu
    rw [show cellS0.vm = .unknown from hu] at hiss
    cases hiss
  have hvU : cellS.slots[T.fUnassigned.slot]? = some u0.v := by rw [hkeep _ (hout' _)]; exact hu0
  have hvSen : cellS.slots[T.fSentinel.slot]? = some sen.v := by rw [hkeep _ (hout' _)]; exact hsen
  obtain ⟨tyC, dC, hdC, hdnC⟩ := Cond.laysAt hfound hk Y.cause (a' (.lays Bundle.nN Bundle.tN "cause" "Ljava/lang/Throwable;") (by simp [Bundle.npeArmAtoms]))
  obtain ⟨tyS, dS, hdS, hdnS⟩ := Cond.laysAt hfound hk Y.stack (a' (.lays Bundle.nN Bundle.tN "stackTrace" Bundle.steD) (by simp [Bundle.npeArmAtoms]))
  obtain ⟨tyP, dP, hdP, hdnP⟩ := Cond.laysAt hfound hk Y.supp (a' (.lays Bundle.nN Bundle.tN "suppressedExceptions" Bundle.listD) (by simp [Bundle.npeArmAtoms]))
  obtain ⟨tyX, dX, hdX, hdnX⟩ := Cond.laysAt hfound hk hffS (a' (.lays Bundle.nN Bundle.nN "extendedMessageState" "I") (by simp [Bundle.npeArmAtoms, Bundle.npeAtoms]))
  obtain ⟨hnX, htX⟩ := State.fieldFound?_type hffS (t := .int) (by decide +kernel)
  have xC := Cond.laysApart hdC hdX hdnC hdnX (by rw [hnX, Y.causeName]; decide)
  have xS := Cond.laysApart hdS hdX hdnS hdnX (by rw [hnX, Y.stackName]; decide)
  have xP := Cond.laysApart hdP hdX hdnP hdnX (by rw [hnX, Y.suppName]; decide)
  have hv0 : (freshCell P1.m.cls N.kN).slots[N.fState.slot]? = some (.int 0) := by
    have := fresh_default (c := P1.m.cls) tyX
    rw [htX] at this; exact this
  obtain ⟨tyB, dB, hdB, hdnB⟩ := Cond.laysAt hfound hk hffB (a' (.lays Bundle.nN Bundle.tN "backtrace" Bundle.objD) (by simp [Bundle.npeArmAtoms]))
  have bC := Cond.laysApart hdB hdC hdnB hdnC (by rw [hnB, Y.causeName]; decide)
  have bS := Cond.laysApart hdB hdS hdnB hdnS (by rw [hnB, Y.stackName]; decide)
  have bP := Cond.laysApart hdB hdP hdnB hdnP (by rw [hnB, Y.suppName]; decide)
  have bX := Cond.laysApart hdB hdX hdnB hdnX (by rw [hnB, hnX]; decide)
  have hbk : ((npeCell N.toNpeT (preparedCellV T.toThrowableT (freshCell P1.m.cls N.kN) W.heap.size u0 sen) W.cur).withEntry W.cur).slots[fB.slot]? = some .null := by
    have := fresh_default (c := P1.m.cls) tyB
    rw [htB] at this
    simpa [npeCell, preparedCellV, Cell.setSlot, Cell.withEntry, Array.getElem?_setIfInBounds, bC, bS, bP, bX, bC.symm, bS.symm, bP.symm, bX.symm, defaultValue] using this
  have tkC := Takes.of_laid (v := .ref W.heap.size) hk hordN tyC (by rw [Y.causeType]; rfl)
  have tkS := Takes.of_laid (v := u0.v) hk hordN tyS (by rw [Y.stackType]; exact fits_refV_array _ u0)
  have tkP := Takes.of_laid (v := sen.v) hk hordN tyP (by rw [Y.suppType]; exact fits_refV_object _ sen)
  have tkX := Takes.of_laid (v := .int 1) hk hordN tyX (by rw [htX]; rfl)
  have hskip : SkipFacts T e.platform s (fun u => u) u0 ((npeCell N.toNpeT (preparedCellV T.toThrowableT (freshCell P1.m.cls N.kN) W.heap.size u0 sen) W.cur).withEntry W.cur) := ⟨{ ci198 := ci198, i198 := i198, fBack := fB }, ⟨hk198, hg198, ha198, hsB⟩, hbk, fun _ _ => rfl⟩
  obtain ⟨vm', X3, st, -⟩ := X.throwsNpeColdBareVAt hexec hg hsize T L Z LZ N LN P1 L1 [PR, PE] hLs hlink1 ⟨hlinkR, hlinkE, trivial⟩ hfound hk hinit hordN hctor hsel0 hselF hcellS hknownS hvU hvSen
    hv0 xC xS xP tkC tkS tkP tkX Y.objLocals hskip (fun _ _ hA hW _ hroom _ hrest => L.nativeOff p htr hA hW hroom hrest) (by simpa using hRframes) hRlocals (by simp) hRcells (by rw [hn]; exact hRslots)
  have hlt : W.heap.size < ((W.pushCell (freshCell P1.m.cls N.kN)).setVm vm').heap.size := by
    show W.heap.size < (W.pushCell (freshCell P1.m.cls N.kN)).heap.size
    rw [State.heap_size_pushCell]; omega
  rw [hfsz] at X3
  obtain ⟨g₁, hfrM⟩ := X3.frames_eq
  have hU : ((((W.pushCell (freshCell P1.m.cls N.kN)).setVm vm').setCell W.heap.size (npeBareV T.toThrowableT N.toNpeT (freshCell P1.m.cls N.kN) W.heap.size u0 sen)).setTop g).pushFrame (.throwing W.heap.size) = (((W.pushCell (freshCell P1.m.cls N.kN)).setVm vm').setCell W.heap.size (npeBareV T.toThrowableT N.toNpeT (freshCell P1.m.cls N.kN) W.heap.size u0 sen)).setFrames (.throwing W.heap.size :: .java g :: below) := by
    rw [State.pushFrame, State.frames_setTop _ hfrM, State.setTop_of_frames _ hfrM, State.setFrames_setFrames]
  refine ⟨_, W.heap.size, _, fun target ht => st.trans (by rw [← hU]; exact ht), X3.forget (fun y hy => ?_), heapAt_setCell_self _ hlt, hfound, rfl⟩
  simp only [List.mem_cons, List.not_mem_nil, or_false] at hy
  have hge : s.heap.size ≤ W.heap.size := X.same.2.1
  rcases hy with rfl | rfl | rfl | rfl | rfl <;> exact hge
/-- the words of a machine's NullPointerException, but the four that speak of the heap -/
def vx_atN (n : Nat) : List Cond := (Bundle.npeArmAtoms n).filter vx_no
/-- the words of a machine's throw with a message, but the four that speak of the heap -/
def vx_atM (X : String) (names : List String) : List Cond := (Bundle.messageArmAtoms X names).filter vx_no
section
variable {p : Program} {l : Launch} {e : Env} {R : Room} {s : State} {m : MethodId} {args : Array Value} {below : List Frame} {meth : Method} {c : Code} {H : Heap} {locs : List Loc} {cells slots : Nat}
/-- a frame seen from a rebased start, seen from the first start again -/
theorem vx_back9 {T S : State} {R' : Room} {k n : Nat} (X : Stand p l e R s m args below meth c T locs cells slots) (Y : Stand p l e R' ((T.setVm s.vm).setFrames (.invoking m args :: below)) m args below meth c T [] 0 0) (Z : Stand p l e R' ((T.setVm s.vm).setFrames (.invoking m args :: below)) m args below meth c S [] k n) :
    Stand p l e R s m args below meth c S locs (cells + k) (slots + n) := by
  have hW0 : s.WarmedH ((T.setVm s.vm).setFrames (.invoking m args :: below)).vm := State.WarmedH.refl s
  refine { admits := X.admits, cas := X.cas, clock := X.clock, frames := X.frames, room := X.room, hears := X.hears, method := X.method, code := X.code, here := Z.here, tail := Z.tail, warmed := State.WarmedH.trans hW0 Z.warmed, limits := Z.limits.trans (Y.limits.symm.trans X.limits), bytes := Z.bytes.trans (Y.bytes.symm.trans X.bytes), same := ?_ }
  obtain ⟨e1, e2⟩ := Z.same
  rw [State.setFrames_setFrames] at e1
  have h2 : (T.setVm s.vm).sameButNew (S.setVm s.vm) [] k n := ⟨e1, e2⟩
  have h3 := X.same.trans h2
  rw [List.append_nil] at h3
  exact h3
/-- from the machine's note that E is thrown here with this text -/
def vx_Note (p : Program) (l : Launch) (e : Env) (R : Room) (s : State) (m : MethodId) (args : Array Value) (below : List Frame) (meth : Method) (c : Code) (H : Heap) (locs : List Loc) (cells slots : Nat) (Q : State → Prop) (g : JFrame) (E text : String) : Prop :=
  ∀ T : State, T.heap = H → Stand p l e R s m args below meth c T locs cells slots → ∃ t, Steps p.tables e below ((T.setTop g).pushFrame (.throwNew E (some text) none)) t ∧ Q t
theorem vx_vm {pc : Nat} {ls : Array Slot} {rest : List Value} {Q : State → Prop} (hexec : p.tables.exec = Jvm.exec) (hl : l.stackTraces = false) {cls text : String} {names : List String} {nb : Nat} {A : Nat → Prop}
    (hcls : Bundle.fit cls = true) (hnames : ∀ n ∈ names, Bundle.fit n = true) (hsoe : (cls == "java/lang/StackOverflowError") = false) (hoom : (cls == "java/lang/OutOfMemoryError") = false)
    (hat : ∀ w ∈ vx_atM cls names, w.before args s = true) (hgood : ∀ w ∈ vx_atM cls names, vx_ot w = true)
    (hU : vx_Zq Bundle.tN "UNASSIGNED_STACK" Bundle.steD A s s.heap) (hN : vx_Zq Bundle.tN "SUPPRESSED_SENTINEL" Bundle.listD A s s.heap) (hS : va_S A s.heap H locs) (hsize : ls.size = c.maxLocals)
    (htext : (text == notModelled) = false) (hnb : (stringBytes (stringToUtf16 text)).size ≤ nb) (hnb1 : nb ≤ 1000)
    (hRframes : names.length + 4 < R.frames) (hRlocals : (rest.map fun v => v.category).sum + 10240 ≤ R.locals) (hshort : 13 * names.length + 55 ≤ 10240) (hRcells : cells + 3 ≤ R.cells) (hRslots : slots + (nb + 10) ≤ R.slots) (hlocks : meth.locks = false)
    (k : ∀ (H1 : Heap) (q9 : Addr) (ce : Cell), H.size ≤ H1.size → (∀ q : Nat, q < H.size → H1[q]? = H[q]?) → va_S A s.heap H1 locs → H1[q9]? = some ce → ce.vm = .none → s.vm.findClass cls = some ce.cls → vx_W p l e R s m args below meth c H1 locs (cells + 3) (slots + (nb + 10)) Q (F0 m pc ls rest) q9) :
    vx_Note p l e R s m args below meth c H locs cells slots Q (F0 m pc ls rest) cls text := by
  intro T hT X
  have htr : e.platform.stackTraces = false := (show e.platform.stackTraces = l.stackTraces by rw [X.admits.platform]).trans hl
  have Y := vx_rebase X (R' := { frames := R.frames, locals := R.locals, cells := 3, slots := nb + 10 }) (Nat.le_refl _) (Nat.le_refl _) hRcells hRslots
  have hhp : ((T.setVm s.vm).setFrames (.invoking m args :: below)).heap = H := hT
  have hW0 : s.WarmedH ((T.setVm s.vm).setFrames (.invoking m args :: below)).vm := State.WarmedH.refl s
  have hat' : ∀ w ∈ vx_atM cls names, w.before args ((T.setVm s.vm).setFrames (.invoking m args :: below)) = true := fun w hw => vx_ot_at hW0 rfl (hgood w hw) (hat w hw)
  have hU' : vx_Zq Bundle.tN "UNASSIGNED_STACK" Bundle.steD A ((T.setVm s.vm).setFrames (.invoking m args :: below)) ((T.setVm s.vm).setFrames (.invoking m args :: below)).heap := by rw [hhp]; exact vx_Zq.moved hW0.alike (hU.kept hS.2.1)
  have hN' : vx_Zq Bundle.tN "SUPPRESSED_SENTINEL" Bundle.listD A ((T.setVm s.vm).setFrames (.invoking m args :: below)) ((T.setVm s.vm).setFrames (.invoking m args :: below)).heap := by rw [hhp]; exact vx_Zq.moved hW0.alike (hN.kept hS.2.1)
  obtain ⟨S, q, ce, st, Z, hce, hcl', hv⟩ := vx_vmAt Y hexec htr (cls := cls) (names := names) (text := text) hcls hnames hsoe hoom (vx_own hat' (vx_isRefq hU'.1) (vx_isRefq hN'.1) hU'.2.word hN'.2.word) (fun x hx => nomatch hx) htext
    (by rw [Launch.admits_arrayLengthLimit X.admits]; omega) (by rw [Launch.admits_maxHeapBytes X.admits]; simp only [componentBytes]; omega)
    (g := F0 m pc ls rest) rfl hsize hRframes (by show 2 * 0 + (rest.map fun v => v.category).sum + 10240 ≤ R.locals; omega) hshort (by show 0 + 3 ≤ 3; omega) (by show 0 + (_ + 4 + 6) ≤ nb + 10; omega) hlocks
  obtain ⟨f1, f2⟩ := vx_frame Z.same
  have f1' : H.size ≤ S.heap.size := by rw [← hT]; exact f1
  have f2' : ∀ q : Nat, q < H.size → S.heap[q]? = H[q]? := fun q hq => by
    rw [← hT]
    exact f2 q (by rw [← hT] at hq; exact hq) (fun z hz => nomatch hz)
  have X5 := vx_back9 X Y Z
  have X6 : Stand p l e R s m args below meth c S locs (cells + 3) (slots + (nb + 10)) := { X5 with same := X5.same.mono (by omega) (by omega) }
  obtain ⟨t, a1, b1⟩ := k S.heap q ce f1' f2' ⟨Nat.le_trans hS.1 f1', fun q h1 h2 => (f2' q (Nat.lt_of_lt_of_le h1 hS.1)).trans (hS.2.1 q h1 h2), hS.2.2⟩ hce hv hcl' S rfl X6
  exact ⟨t, st t a1, b1⟩
/-- from the machine's note that NullPointerException is thrown here -/
def vx_NoteN (p : Program) (l : Launch) (e : Env) (R : Room) (s : State) (m : MethodId) (args : Array Value) (below : List Frame) (meth : Method) (c : Code) (H : Heap) (locs : List Loc) (cells slots : Nat) (Q : State → Prop) (g : JFrame) : Prop :=
  ∀ T : State, T.heap = H → Stand p l e R s m args below meth c T locs cells slots → ∃ t, Steps p.tables e below ((T.setTop g).pushFrame (.throwNew "java/lang/NullPointerException" none none)) t ∧ Q t
theorem vx_npe {pc : Nat} {ls : Array Slot} {rest : List Value} {Q : State → Prop} (hexec : p.tables.exec = Jvm.exec) (hl : l.stackTraces = false) {nb : Nat} {A : Nat → Prop}
    (hat : ∀ w ∈ vx_atN nb, w.before args s = true) (hgood : ∀ w ∈ vx_atN nb, vx_ot w = true)
    (hU : vx_Zq Bundle.tN "UNASSIGNED_STACK" Bundle.steD A s s.heap) (hN : vx_Zq Bundle.tN "SUPPRESSED_SENTINEL" Bundle.listD A s s.heap) (hS : va_S A s.heap H locs) (hsize : ls.size = c.maxLocals)
    (hRframes : 7 < R.frames) (hRlocals : (rest.map fun v => v.category).sum + 10240 ≤ R.locals) (hRcells : cells + 1 ≤ R.cells) (hRslots : slots + nb ≤ R.slots) (hlocks : meth.locks = false)
    (k : ∀ (H1 : Heap) (q9 : Addr) (ce : Cell), H.size ≤ H1.size → (∀ q : Nat, q < H.size → H1[q]? = H[q]?) → va_S A s.heap H1 locs → H1[q9]? = some ce → ce.vm = .none → s.vm.findClass "java/lang/NullPointerException" = some ce.cls → vx_W p l e R s m args below meth c H1 locs (cells + 1) (slots + nb) Q (F0 m pc ls rest) q9) :
    vx_NoteN p l e R s m args below meth c H locs cells slots Q (F0 m pc ls rest) := by
  intro T hT X
  have htr : e.platform.stackTraces = false := (show e.platform.stackTraces = l.stackTraces by rw [X.admits.platform]).trans hl
  have Y := vx_rebase X (R' := { frames := R.frames, locals := R.locals, cells := 1, slots := nb }) (Nat.le_refl _) (Nat.le_refl _) hRcells hRslots
  have hhp : ((T.setVm s.vm).setFrames (.invoking m args :: below)).heap = H := hT
  have hW0 : s.WarmedH ((T.setVm s.vm).setFrames (.invoking m args :: below)).vm := State.WarmedH.refl s
  have hat' : ∀ w ∈ vx_atN nb, w.before args ((T.setVm s.vm).setFrames (.invoking m args :: below)) = true := fun w hw => vx_ot_at hW0 rfl (hgood w hw) (hat w hw)
  have hU' : vx_Zq Bundle.tN "UNASSIGNED_STACK" Bundle.steD A ((T.setVm s.vm).setFrames (.invoking m args :: below)) ((T.setVm s.vm).setFrames (.invoking m args :: below)).heap := by rw [hhp]; exact vx_Zq.moved hW0.alike (hU.kept hS.2.1)
  have hN' : vx_Zq Bundle.tN "SUPPRESSED_SENTINEL" Bundle.listD A ((T.setVm s.vm).setFrames (.invoking m args :: below)) ((T.setVm s.vm).setFrames (.invoking m args :: below)).heap := by rw [hhp]; exact vx_Zq.moved hW0.alike (hN.kept hS.2.1)
  obtain ⟨S, q, ce, st, Z, hce, hcl', hv⟩ := vx_npeAt Y hexec htr (n := nb) (vx_own hat' (vx_isRefq hU'.1) (vx_isRefq hN'.1) hU'.2.word hN'.2.word) (fun x hx => nomatch hx)
    (g := F0 m pc ls rest) rfl hsize hRframes (by show 2 * 0 + (rest.map fun v => v.category).sum + 10240 ≤ R.locals; omega) (by show 0 + 1 ≤ 1; omega) (by show 0 + nb ≤ nb; omega) hlocks
  obtain ⟨f1, f2⟩ := vx_frame Z.same
  have f1' : H.size ≤ S.heap.size := by rw [← hT]; exact f1
  have f2' : ∀ q : Nat, q < H.size → S.heap[q]? = H[q]? := fun q hq => by
    rw [← hT]
    exact f2 q (by rw [← hT] at hq; exact hq) (fun z hz => nomatch hz)
  have X5 := vx_back9 X Y Z
  have X6 : Stand p l e R s m args below meth c S locs (cells + 1) (slots + nb) := { X5 with same := X5.same.mono (by omega) (by omega) }
  obtain ⟨t, a1, b1⟩ := k S.heap q ce f1' f2' ⟨Nat.le_trans hS.1 f1', fun q h1 h2 => (f2' q (Nat.lt_of_lt_of_le h1 hS.1)).trans (hS.2.1 q h1 h2), hS.2.2⟩ hce hv hcl' S rfl X6
  exact ⟨t, st t a1, b1⟩
variable {Q : State → Prop} {cc : ByteArray} {pc : Nat} {ls : Array Slot} {rest : List Value}
theorem vx_idivZ (hexec : p.tables.exec = Jvm.exec) (hb : c.code = cc) {a b : Int32} (h0 : b = 0) (d : decode cc pc = .ok (.idiv, 1)) (k : vx_Note p l e R s m args below meth c H locs cells slots Q (F0 m pc ls rest) "java/lang/ArithmeticException" "/ by zero") :
    W p l e R s m args below meth c H locs cells slots Q (F0 m pc ls (.int b :: .int a :: rest)) := by
  intro T hT X
  obtain ⟨t, st, q⟩ := k T hT X
  exact ⟨t, X.idivZero hexec (g := F0 m pc ls (.int b :: .int a :: rest)) rfl (a := a) (rest := rest) (by rw [h0]) (by rw [hb]; exact d) t st, q⟩
theorem vx_iremZ (hexec : p.tables.exec = Jvm.exec) (hb : c.code = cc) {a b : Int32} (h0 : b = 0) (d : decode cc pc = .ok (.irem, 1)) (k : vx_Note p l e R s m args below meth c H locs cells slots Q (F0 m pc ls rest) "java/lang/ArithmeticException" "/ by zero") :
    W p l e R s m args below meth c H locs cells slots Q (F0 m pc ls (.int b :: .int a :: rest)) := by
  intro T hT X
  obtain ⟨t, st, q⟩ := k T hT X
  exact ⟨t, X.iremZero hexec (g := F0 m pc ls (.int b :: .int a :: rest)) rfl (a := a) (rest := rest) (by rw [h0]) (by rw [hb]; exact d) t st, q⟩
theorem vx_ldivZ (hexec : p.tables.exec = Jvm.exec) (hb : c.code = cc) {a b : Int64} (h0 : b = 0) (d : decode cc pc = .ok (.ldiv, 1)) (k : vx_Note p l e R s m args below meth c H locs cells slots Q (F0 m pc ls rest) "java/lang/ArithmeticException" "/ by zero") :
    W p l e R s m args below meth c H locs cells slots Q (F0 m pc ls (.long b :: .long a :: rest)) := by
  intro T hT X
  obtain ⟨t, st, q⟩ := k T hT X
  exact ⟨t, X.ldivZero hexec (g := F0 m pc ls (.long b :: .long a :: rest)) rfl (a := a) (rest := rest) (by rw [h0]) (by rw [hb]; exact d) t st, q⟩
theorem vx_lremZ (hexec : p.tables.exec = Jvm.exec) (hb : c.code = cc) {a b : Int64} (h0 : b = 0) (d : decode cc pc = .ok (.lrem, 1)) (k : vx_Note p l e R s m args below meth c H locs cells slots Q (F0 m pc ls rest) "java/lang/ArithmeticException" "/ by zero") :
    W p l e R s m args below meth c H locs cells slots Q (F0 m pc ls (.long b :: .long a :: rest)) := by
  intro T hT X
  obtain ⟨t, st, q⟩ := k T hT X
  exact ⟨t, X.lremZero hexec (g := F0 m pc ls (.long b :: .long a :: rest)) rfl (a := a) (rest := rest) (by rw [h0]) (by rw [hb]; exact d) t st, q⟩
theorem vx_ialdZ {D : va_G} {cl : List vw_C} {ws : va_W} {tys : List (ClassId × FieldType)} {a : Nat} (hexec : p.tables.exec = Jvm.exec) (hb : c.code = cc) (hK : va_K D cl tys s) (hP : va_P D cl ws H) (q0 t0 : Nat) {cA : ClassId} {n : Nat} {f : Nat → Int32} (ha : ws[q0]? = some (a, .inl (cA, n, .inl f))) (ht : tys[t0]? = some (cA, .int)) {i : Int32} (hout : ¬ vp_in i n) (hdg : decode cc pc = .ok (.iaload, 1))
    (k : ∀ tx : String, tx = (toString "Index " ++ toString i ++ toString " out of bounds for length " ++ toString n : String) → vx_Note p l e R s m args below meth c H locs cells slots Q (F0 m pc ls rest) "java/lang/ArrayIndexOutOfBoundsException" tx) : W p l e R s m args below meth c H locs cells slots Q (F0 m pc ls (.int i :: .ref a :: rest)) := by
  intro T hT X
  obtain ⟨t, st, q⟩ := k _ rfl T hT X
  refine ⟨t, ?_, q⟩
  have h1 := X.ialoadOut hexec (by rw [hT]; exact hP q0 _ ha) ((hK.2 t0 _ ht).1 n (fun j => .int (f j))) (j := i) (by show (i < 0 ∨ (arrV _ _ _).slots.size ≤ _); rw [arrV_size]; exact Classical.byContradiction hout) (g := F0 m pc ls (.int i :: .ref a :: rest)) rfl (rest := rest) rfl (by rw [hb]; exact hdg) t
  simp only [arrV_size] at h1
  exact h1 st
theorem vx_iastZ {D : va_G} {cl : List vw_C} {ws : va_W} {tys : List (ClassId × FieldType)} {a : Nat} (hexec : p.tables.exec = Jvm.exec) (hb : c.code = cc) (hK : va_K D cl tys s) (hP : va_P D cl ws H) (q0 t0 : Nat) {cA : ClassId} {n : Nat} {f : Nat → Int32} (ha : ws[q0]? = some (a, .inl (cA, n, .inl f))) (ht : tys[t0]? = some (cA, .int)) {i : Int32} {x : Int32} (hout : ¬ vp_in i n) (hdg : decode cc pc = .ok (.iastore, 1))
    (k : ∀ tx : String, tx = (toString "Index " ++ toString i ++ toString " out of bounds for length " ++ toString n : String) → vx_Note p l e R s m args below meth c H locs cells slots Q (F0 m pc ls rest) "java/lang/ArrayIndexOutOfBoundsException" tx) : W p l e R s m args below meth c H locs cells slots Q (F0 m pc ls (.int x :: .int i :: .ref a :: rest)) := by
  intro T hT X
  obtain ⟨t, st, q⟩ := k _ rfl T hT X
  refine ⟨t, ?_, q⟩
  have h1 := X.iastoreOut hexec (by rw [hT]; exact hP q0 _ ha) ((hK.2 t0 _ ht).1 n (fun j => .int (f j))) (j := i) (by show (i < 0 ∨ (arrV _ _ _).slots.size ≤ _); rw [arrV_size]; exact Classical.byContradiction hout) (g := F0 m pc ls (.int x :: .int i :: .ref a :: rest)) rfl (rest := rest) rfl (by rw [hb]; exact hdg) t
  simp only [arrV_size] at h1
  exact h1 st
theorem vx_baldZ {D : va_G} {cl : List vw_C} {ws : va_W} {tys : List (ClassId × FieldType)} {a : Nat} (hexec : p.tables.exec = Jvm.exec) (hb : c.code = cc) (hK : va_K D cl tys s) (hP : va_P D cl ws H) (q0 t0 : Nat) {cA : ClassId} {n : Nat} {f : Nat → Int32} (ha : ws[q0]? = some (a, .inl (cA, n, .inl f))) (ht : tys[t0]? = some (cA, .byte)) {i : Int32} (hout : ¬ vp_in i n) (hdg : decode cc pc = .ok (.baload, 1))
    (k : ∀ tx : String, tx = (toString "Index " ++ toString i ++ toString " out of bounds for length " ++ toString n : String) → vx_Note p l e R s m args below meth c H locs cells slots Q (F0 m pc ls rest) "java/lang/ArrayIndexOutOfBoundsException" tx) : W p l e R s m args below meth c H locs cells slots Q (F0 m pc ls (.int i :: .ref a :: rest)) := by
  intro T hT X
  obtain ⟨t, st, q⟩ := k _ rfl T hT X
  refine ⟨t, ?_, q⟩
  have h1 := X.baloadOut hexec (by rw [hT]; exact hP q0 _ ha) ((hK.2 t0 _ ht).1 n (fun j => .int (f j))) (j := i) (by show (i < 0 ∨ (arrV _ _ _).slots.size ≤ _); rw [arrV_size]; exact Classical.byContradiction hout) (g := F0 m pc ls (.int i :: .ref a :: rest)) rfl (rest := rest) rfl (by rw [hb]; exact hdg) t
  simp only [arrV_size] at h1
  exact h1 st
theorem vx_bastZ {D : va_G} {cl : List vw_C} {ws : va_W} {tys : List (ClassId × FieldType)} {a : Nat} (hexec : p.tables.exec = Jvm.exec) (hb : c.code = cc) (hK : va_K D cl tys s) (hP : va_P D cl ws H) (q0 t0 : Nat) {cA : ClassId} {n : Nat} {f : Nat → Int32} (ha : ws[q0]? = some (a, .inl (cA, n, .inl f))) (ht : tys[t0]? = some (cA, .byte)) {i : Int32} {x : Int32} (hout : ¬ vp_in i n) (hdg : decode cc pc = .ok (.bastore, 1))
    (k : ∀ tx : String, tx = (toString "Index " ++ toString i ++ toString " out of bounds for length " ++ toString n : String) → vx_Note p l e R s m args below meth c H locs cells slots Q (F0 m pc ls rest) "java/lang/ArrayIndexOutOfBoundsException" tx) : W p l e R s m args below meth c H locs cells slots Q (F0 m pc ls (.int x :: .int i :: .ref a :: rest)) := by
  intro T hT X
  obtain ⟨t, st, q⟩ := k _ rfl T hT X
  refine ⟨t, ?_, q⟩
  have h1 := X.bastoreOut hexec (by rw [hT]; exact hP q0 _ ha) ((hK.2 t0 _ ht).1 n (fun j => .int (f j))) (j := i) (by show (i < 0 ∨ (arrV _ _ _).slots.size ≤ _); rw [arrV_size]; exact Classical.byContradiction hout) (g := F0 m pc ls (.int x :: .int i :: .ref a :: rest)) rfl (rest := rest) rfl (by rw [hb]; exact hdg) t
  simp only [arrV_size] at h1
  exact h1 st
theorem vx_zaldZ {D : va_G} {cl : List vw_C} {ws : va_W} {tys : List (ClassId × FieldType)} {a : Nat} (hexec : p.tables.exec = Jvm.exec) (hb : c.code = cc) (hK : va_K D cl tys s) (hP : va_P D cl ws H) (q0 t0 : Nat) {cA : ClassId} {n : Nat} {f : Nat → Int32} (ha : ws[q0]? = some (a, .inl (cA, n, .inl f))) (ht : tys[t0]? = some (cA, .boolean)) {i : Int32} (hout : ¬ vp_in i n) (hdg : decode cc pc = .ok (.baload, 1))
    (k : ∀ tx : String, tx = (toString "Index " ++ toString i ++ toString " out of bounds for length " ++ toString n : String) → vx_Note p l e R s m args below meth c H locs cells slots Q (F0 m pc ls rest) "java/lang/ArrayIndexOutOfBoundsException" tx) : W p l e R s m args below meth c H locs cells slots Q (F0 m pc ls (.int i :: .ref a :: rest)) := by
  intro T hT X
  obtain ⟨t, st, q⟩ := k _ rfl T hT X
  refine ⟨t, ?_, q⟩
  have h1 := X.baloadOut hexec (by rw [hT]; exact hP q0 _ ha) ((hK.2 t0 _ ht).1 n (fun j => .int (f j))) (j := i) (by show (i < 0 ∨ (arrV _ _ _).slots.size ≤ _); rw [arrV_size]; exact Classical.byContradiction hout) (g := F0 m pc ls (.int i :: .ref a :: rest)) rfl (rest := rest) rfl (by rw [hb]; exact hdg) t
  simp only [arrV_size] at h1
  exact h1 st
theorem vx_zastZ {D : va_G} {cl : List vw_C} {ws : va_W} {tys : List (ClassId × FieldType)} {a : Nat} (hexec : p.tables.exec = Jvm.exec) (hb : c.code = cc) (hK : va_K D cl tys s) (hP : va_P D cl ws H) (q0 t0 : Nat) {cA : ClassId} {n : Nat} {f : Nat → Int32} (ha : ws[q0]? = some (a, .inl (cA, n, .inl f))) (ht : tys[t0]? = some (cA, .boolean)) {i : Int32} {x : Int32} (hout : ¬ vp_in i n) (hdg : decode cc pc = .ok (.bastore, 1))
    (k : ∀ tx : String, tx = (toString "Index " ++ toString i ++ toString " out of bounds for length " ++ toString n : String) → vx_Note p l e R s m args below meth c H locs cells slots Q (F0 m pc ls rest) "java/lang/ArrayIndexOutOfBoundsException" tx) : W p l e R s m args below meth c H locs cells slots Q (F0 m pc ls (.int x :: .int i :: .ref a :: rest)) := by
  intro T hT X
  obtain ⟨t, st, q⟩ := k _ rfl T hT X
  refine ⟨t, ?_, q⟩
  have h1 := X.bastoreOut hexec (by rw [hT]; exact hP q0 _ ha) ((hK.2 t0 _ ht).1 n (fun j => .int (f j))) (j := i) (by show (i < 0 ∨ (arrV _ _ _).slots.size ≤ _); rw [arrV_size]; exact Classical.byContradiction hout) (g := F0 m pc ls (.int x :: .int i :: .ref a :: rest)) rfl (rest := rest) rfl (by rw [hb]; exact hdg) t
  simp only [arrV_size] at h1
  exact h1 st
theorem vx_caldZ {D : va_G} {cl : List vw_C} {ws : va_W} {tys : List (ClassId × FieldType)} {a : Nat} (hexec : p.tables.exec = Jvm.exec) (hb : c.code = cc) (hK : va_K D cl tys s) (hP : va_P D cl ws H) (q0 t0 : Nat) {cA : ClassId} {n : Nat} {f : Nat → Int32} (ha : ws[q0]? = some (a, .inl (cA, n, .inl f))) (ht : tys[t0]? = some (cA, .char)) {i : Int32} (hout : ¬ vp_in i n) (hdg : decode cc pc = .ok (.caload, 1))
    (k : ∀ tx : String, tx = (toString "Index " ++ toString i ++ toString " out of bounds for length " ++ toString n : String) → vx_Note p l e R s m args below meth c H locs cells slots Q (F0 m pc ls rest) "java/lang/ArrayIndexOutOfBoundsException" tx) : W p l e R s m args below meth c H locs cells slots Q (F0 m pc ls (.int i :: .ref a :: rest)) := by
  intro T hT X
  obtain ⟨t, st, q⟩ := k _ rfl T hT X
  refine ⟨t, ?_, q⟩
  have h1 := X.caloadOut hexec (by rw [hT]; exact hP q0 _ ha) ((hK.2 t0 _ ht).1 n (fun j => .int (f j))) (j := i) (by show (i < 0 ∨ (arrV _ _ _).slots.size ≤ _); rw [arrV_size]; exact Classical.byContradiction hout) (g := F0 m pc ls (.int i :: .ref a :: rest)) rfl (rest := rest) rfl (by rw [hb]; exact hdg) t
  simp only [arrV_size] at h1
  exact h1 st
theorem vx_castZ {D : va_G} {cl : List vw_C} {ws : va_W} {tys : List (ClassId × FieldType)} {a : Nat} (hexec : p.tables.exec = Jvm.exec) (hb : c.code = cc) (hK : va_K D cl tys s) (hP : va_P D cl ws H) (q0 t0 : Nat) {cA : ClassId} {n : Nat} {f : Nat → Int32} (ha : ws[q0]? = some (a, .inl (cA, n, .inl f))) (ht : tys[t0]? = some (cA, .char)) {i : Int32} {x : Int32} (hout : ¬ vp_in i n) (hdg : decode cc pc = .ok (.castore, 1))
    (k : ∀ tx : String, tx = (toString "Index " ++ toString i ++ toString " out of bounds for length " ++ toString n : String) → vx_Note p l e R s m args below meth c H locs cells slots Q (F0 m pc ls rest) "java/lang/ArrayIndexOutOfBoundsException" tx) : W p l e R s m args below meth c H locs cells slots Q (F0 m pc ls (.int x :: .int i :: .ref a :: rest)) := by
  intro T hT X
  obtain ⟨t, st, q⟩ := k _ rfl T hT X
  refine ⟨t, ?_, q⟩
  have h1 := X.castoreOut hexec (by rw [hT]; exact hP q0 _ ha) ((hK.2 t0 _ ht).1 n (fun j => .int (f j))) (j := i) (by show (i < 0 ∨ (arrV _ _ _).slots.size ≤ _); rw [arrV_size]; exact Classical.byContradiction hout) (g := F0 m pc ls (.int x :: .int i :: .ref a :: rest)) rfl (rest := rest) rfl (by rw [hb]; exact hdg) t
  simp only [arrV_size] at h1
  exact h1 st
theorem vx_saldZ {D : va_G} {cl : List vw_C} {ws : va_W} {tys : List (ClassId × FieldType)} {a : Nat} (hexec : p.tables.exec = Jvm.exec) (hb : c.code = cc) (hK : va_K D cl tys s) (hP : va_P D cl ws H) (q0 t0 : Nat) {cA : ClassId} {n : Nat} {f : Nat → Int32} (ha : ws[q0]? = some (a, .inl (cA, n, .inl f))) (ht : tys[t0]? = some (cA, .short)) {i : Int32} (hout : ¬ vp_in i n) (hdg : decode cc pc = .ok (.saload, 1))
    (k : ∀ tx : String, tx = (toString "Index " ++ toString i ++ toString " out of bounds for length " ++ toString n : String) → vx_Note p l e R s m args below meth c H locs cells slots Q (F0 m pc ls rest) "java/lang/ArrayIndexOutOfBoundsException" tx) : W p l e R s m args below meth c H locs cells slots Q (F0 m pc ls (.int i :: .ref a :: rest)) := by
  intro T hT X
  obtain ⟨t, st, q⟩ := k _ rfl T hT X
  refine ⟨t, ?_, q⟩
  have h1 := X.saloadOut hexec (by rw [hT]; exact hP q0 _ ha) ((hK.2 t0 _ ht).1 n (fun j => .int (f j))) (j := i) (by show (i < 0 ∨ (arrV _ _ _).slots.size ≤ _); rw [arrV_size]; exact Classical.byContradiction hout) (g := F0 m pc ls (.int i :: .ref a :: rest)) rfl (rest := rest) rfl (by rw [hb]; exact hdg) t
  simp only [arrV_size] at h1
  exact h1 st
theorem vx_sastZ {D : va_G} {cl : List vw_C} {ws : va_W} {tys : List (ClassId × FieldType)} {a : Nat} (hexec : p.tables.exec = Jvm.exec) (hb : c.code = cc) (hK : va_K D cl tys s) (hP : va_P D cl ws H) (q0 t0 : Nat) {cA : ClassId} {n : Nat} {f : Nat → Int32} (ha : ws[q0]? = some (a, .inl (cA, n, .inl f))) (ht : tys[t0]? = some (cA, .short)) {i : Int32} {x : Int32} (hout : ¬ vp_in i n) (hdg : decode cc pc = .ok (.sastore, 1))
    (k : ∀ tx : String, tx = (toString "Index " ++ toString i ++ toString " out of bounds for length " ++ toString n : String) → vx_Note p l e R s m args below meth c H locs cells slots Q (F0 m pc ls rest) "java/lang/ArrayIndexOutOfBoundsException" tx) : W p l e R s m args below meth c H locs cells slots Q (F0 m pc ls (.int x :: .int i :: .ref a :: rest)) := by
  intro T hT X
  obtain ⟨t, st, q⟩ := k _ rfl T hT X
  refine ⟨t, ?_, q⟩
  have h1 := X.sastoreOut hexec (by rw [hT]; exact hP q0 _ ha) ((hK.2 t0 _ ht).1 n (fun j => .int (f j))) (j := i) (by show (i < 0 ∨ (arrV _ _ _).slots.size ≤ _); rw [arrV_size]; exact Classical.byContradiction hout) (g := F0 m pc ls (.int x :: .int i :: .ref a :: rest)) rfl (rest := rest) rfl (by rw [hb]; exact hdg) t
  simp only [arrV_size] at h1
  exact h1 st
theorem vx_laldZ {D : va_G} {cl : List vw_C} {ws : va_W} {tys : List (ClassId × FieldType)} {a : Nat} (hexec : p.tables.exec = Jvm.exec) (hb : c.code = cc) (hK : va_K D cl tys s) (hP : va_P D cl ws H) (q0 t0 : Nat) {cA : ClassId} {n : Nat} {f : Nat → Int64} (ha : ws[q0]? = some (a, .inl (cA, n, .inr (.inl f)))) (ht : tys[t0]? = some (cA, .long)) {i : Int32} (hout : ¬ vp_in i n) (hdg : decode cc pc = .ok (.laload, 1))
    (k : ∀ tx : String, tx = (toString "Index " ++ toString i ++ toString " out of bounds for length " ++ toString n : String) → vx_Note p l e R s m args below meth c H locs cells slots Q (F0 m pc ls rest) "java/lang/ArrayIndexOutOfBoundsException" tx) : W p l e R s m args below meth c H locs cells slots Q (F0 m pc ls (.int i :: .ref a :: rest)) := by
  intro T hT X
  obtain ⟨t, st, q⟩ := k _ rfl T hT X
  refine ⟨t, ?_, q⟩
  have h1 := X.laloadOut hexec (by rw [hT]; exact hP q0 _ ha) ((hK.2 t0 _ ht).1 n (fun j => .long (f j))) (j := i) (by show (i < 0 ∨ (arrV _ _ _).slots.size ≤ _); rw [arrV_size]; exact Classical.byContradiction hout) (g := F0 m pc ls (.int i :: .ref a :: rest)) rfl (rest := rest) rfl (by rw [hb]; exact hdg) t
  simp only [arrV_size] at h1
  exact h1 st
theorem vx_lastZ {D : va_G} {cl : List vw_C} {ws : va_W} {tys : List (ClassId × FieldType)} {a : Nat} (hexec : p.tables.exec = Jvm.exec) (hb : c.code = cc) (hK : va_K D cl tys s) (hP : va_P D cl ws H) (q0 t0 : Nat) {cA : ClassId} {n : Nat} {f : Nat → Int64} (ha : ws[q0]? = some (a, .inl (cA, n, .inr (.inl f)))) (ht : tys[t0]? = some (cA, .long)) {i : Int32} {x : Int64} (hout : ¬ vp_in i n) (hdg : decode cc pc = .ok (.lastore, 1))
    (k : ∀ tx : String, tx = (toString "Index " ++ toString i ++ toString " out of bounds for length " ++ toString n : String) → vx_Note p l e R s m args below meth c H locs cells slots Q (F0 m pc ls rest) "java/lang/ArrayIndexOutOfBoundsException" tx) : W p l e R s m args below meth c H locs cells slots Q (F0 m pc ls (.long x :: .int i :: .ref a :: rest)) := by
  intro T hT X
  obtain ⟨t, st, q⟩ := k _ rfl T hT X
  refine ⟨t, ?_, q⟩
  have h1 := X.lastoreOut hexec (by rw [hT]; exact hP q0 _ ha) ((hK.2 t0 _ ht).1 n (fun j => .long (f j))) (j := i) (by show (i < 0 ∨ (arrV _ _ _).slots.size ≤ _); rw [arrV_size]; exact Classical.byContradiction hout) (g := F0 m pc ls (.long x :: .int i :: .ref a :: rest)) rfl (rest := rest) rfl (by rw [hb]; exact hdg) t
  simp only [arrV_size] at h1
  exact h1 st
theorem vx_faldZ {D : va_G} {cl : List vw_C} {ws : va_W} {tys : List (ClassId × FieldType)} {a : Nat} (hexec : p.tables.exec = Jvm.exec) (hb : c.code = cc) (hK : va_K D cl tys s) (hP : va_P D cl ws H) (q0 t0 : Nat) {cA : ClassId} {n : Nat} {f : Nat → UInt32} (ha : ws[q0]? = some (a, .inl (cA, n, .inr (.inr (.inl f))))) (ht : tys[t0]? = some (cA, .float)) {i : Int32} (hout : ¬ vp_in i n) (hdg : decode cc pc = .ok (.faload, 1))
    (k : ∀ tx : String, tx = (toString "Index " ++ toString i ++ toString " out of bounds for length " ++ toString n : String) → vx_Note p l e R s m args below meth c H locs cells slots Q (F0 m pc ls rest) "java/lang/ArrayIndexOutOfBoundsException" tx) : W p l e R s m args below meth c H locs cells slots Q (F0 m pc ls (.int i :: .ref a :: rest)) := by
  intro T hT X
  obtain ⟨t, st, q⟩ := k _ rfl T hT X
  refine ⟨t, ?_, q⟩
  have h1 := X.faloadOut hexec (by rw [hT]; exact hP q0 _ ha) ((hK.2 t0 _ ht).1 n (fun j => .float (f j))) (j := i) (by show (i < 0 ∨ (arrV _ _ _).slots.size ≤ _); rw [arrV_size]; exact Classical.byContradiction hout) (g := F0 m pc ls (.int i :: .ref a :: rest)) rfl (rest := rest) rfl (by rw [hb]; exact hdg) t
  simp only [arrV_size] at h1
  exact h1 st
theorem vx_fastZ {D : va_G} {cl : List vw_C} {ws : va_W} {tys : List (ClassId × FieldType)} {a : Nat} (hexec : p.tables.exec = Jvm.exec) (hb : c.code = cc) (hK : va_K D cl tys s) (hP : va_P D cl ws H) (q0 t0 : Nat) {cA : ClassId} {n : Nat} {f : Nat → UInt32} (ha : ws[q0]? = some (a, .inl (cA, n, .inr (.inr (.inl f))))) (ht : tys[t0]? = some (cA, .float)) {i : Int32} {x : UInt32} (hout : ¬ vp_in i n) (hdg : decode cc pc = .ok (.fastore, 1))
    (k : ∀ tx : String, tx = (toString "Index " ++ toString i ++ toString " out of bounds for length " ++ toString n : String) → vx_Note p l e R s m args below meth c H locs cells slots Q (F0 m pc ls rest) "java/lang/ArrayIndexOutOfBoundsException" tx) : W p l e R s m args below meth c H locs cells slots Q (F0 m pc ls (.float x :: .int i :: .ref a :: rest)) := by
  intro T hT X
  obtain ⟨t, st, q⟩ := k _ rfl T hT X
  refine ⟨t, ?_, q⟩
  have h1 := X.fastoreOut hexec (by rw [hT]; exact hP q0 _ ha) ((hK.2 t0 _ ht).1 n (fun j => .float (f j))) (j := i) (by show (i < 0 ∨ (arrV _ _ _).slots.size ≤ _); rw [arrV_size]; exact Classical.byContradiction hout) (g := F0 m pc ls (.float x :: .int i :: .ref a :: rest)) rfl (rest := rest) rfl (by rw [hb]; exact hdg) t
  simp only [arrV_size] at h1
  exact h1 st
theorem vx_daldZ {D : va_G} {cl : List vw_C} {ws : va_W} {tys : List (ClassId × FieldType)} {a : Nat} (hexec : p.tables.exec = Jvm.exec) (hb : c.code = cc) (hK : va_K D cl tys s) (hP : va_P D cl ws H) (q0 t0 : Nat) {cA : ClassId} {n : Nat} {f : Nat → UInt64} (ha : ws[q0]? = some (a, .inl (cA, n, .inr (.inr (.inr (.inl f)))))) (ht : tys[t0]? = some (cA, .double)) {i : Int32} (hout : ¬ vp_in i n) (hdg : decode cc pc = .ok (.daload, 1))
    (k : ∀ tx : String, tx = (toString "Index " ++ toString i ++ toString " out of bounds for length " ++ toString n : String) → vx_Note p l e R s m args below meth c H locs cells slots Q (F0 m pc ls rest) "java/lang/ArrayIndexOutOfBoundsException" tx) : W p l e R s m args below meth c H locs cells slots Q (F0 m pc ls (.int i :: .ref a :: rest)) := by
  intro T hT X
  obtain ⟨t, st, q⟩ := k _ rfl T hT X
  refine ⟨t, ?_, q⟩
  have h1 := X.daloadOut hexec (by rw [hT]; exact hP q0 _ ha) ((hK.2 t0 _ ht).1 n (fun j => .double (f j))) (j := i) (by show (i < 0 ∨ (arrV _ _ _).slots.size ≤ _); rw [arrV_size]; exact Classical.byContradiction hout) (g := F0 m pc ls (.int i :: .ref a :: rest)) rfl (rest := rest) rfl (by rw [hb]; exact hdg) t
  simp only [arrV_size] at h1
  exact h1 st
theorem vx_dastZ {D : va_G} {cl : List vw_C} {ws : va_W} {tys : List (ClassId × FieldType)} {a : Nat} (hexec : p.tables.exec = Jvm.exec) (hb : c.code = cc) (hK : va_K D cl tys s) (hP : va_P D cl ws H) (q0 t0 : Nat) {cA : ClassId} {n : Nat} {f : Nat → UInt64} (ha : ws[q0]? = some (a, .inl (cA, n, .inr (.inr (.inr (.inl f)))))) (ht : tys[t0]? = some (cA, .double)) {i : Int32} {x : UInt64} (hout : ¬ vp_in i n) (hdg : decode cc pc = .ok (.dastore, 1))
    (k : ∀ tx : String, tx = (toString "Index " ++ toString i ++ toString " out of bounds for length " ++ toString n : String) → vx_Note p l e R s m args below meth c H locs cells slots Q (F0 m pc ls rest) "java/lang/ArrayIndexOutOfBoundsException" tx) : W p l e R s m args below meth c H locs cells slots Q (F0 m pc ls (.double x :: .int i :: .ref a :: rest)) := by
  intro T hT X
  obtain ⟨t, st, q⟩ := k _ rfl T hT X
  refine ⟨t, ?_, q⟩
  have h1 := X.dastoreOut hexec (by rw [hT]; exact hP q0 _ ha) ((hK.2 t0 _ ht).1 n (fun j => .double (f j))) (j := i) (by show (i < 0 ∨ (arrV _ _ _).slots.size ≤ _); rw [arrV_size]; exact Classical.byContradiction hout) (g := F0 m pc ls (.double x :: .int i :: .ref a :: rest)) rfl (rest := rest) rfl (by rw [hb]; exact hdg) t
  simp only [arrV_size] at h1
  exact h1 st
theorem vx_arraylengthN (hexec : p.tables.exec = Jvm.exec) (hb : c.code = cc) (hdg : decode cc pc = .ok (.arraylength, 1)) (k : vx_NoteN p l e R s m args below meth c H locs cells slots Q (F0 m pc ls rest)) : W p l e R s m args below meth c H locs cells slots Q (F0 m pc ls (.null :: rest)) := by
  intro T hT X
  obtain ⟨t, st, q⟩ := k T hT X
  exact ⟨t, X.arraylengthNull hexec (g := F0 m pc ls (.null :: rest)) rfl (rest := rest) rfl (by rw [hb]; exact hdg) t st, q⟩
theorem vx_ialoadN (hexec : p.tables.exec = Jvm.exec) (hb : c.code = cc) {i : Int32} (hdg : decode cc pc = .ok (.iaload, 1)) (k : vx_NoteN p l e R s m args below meth c H locs cells slots Q (F0 m pc ls rest)) : W p l e R s m args below meth c H locs cells slots Q (F0 m pc ls (.int i :: .null :: rest)) := by
  intro T hT X
  obtain ⟨t, st, q⟩ := k T hT X
  exact ⟨t, X.ialoadNull hexec (g := F0 m pc ls (.int i :: .null :: rest)) rfl (rest := rest) rfl (by rw [hb]; exact hdg) t st, q⟩
theorem vx_laloadN (hexec : p.tables.exec = Jvm.exec) (hb : c.code = cc) {i : Int32} (hdg : decode cc pc = .ok (.laload, 1)) (k : vx_NoteN p l e R s m args below meth c H locs cells slots Q (F0 m pc ls rest)) : W p l e R s m args below meth c H locs cells slots Q (F0 m pc ls (.int i :: .null :: rest)) := by
  intro T hT X
  obtain ⟨t, st, q⟩ := k T hT X
  exact ⟨t, X.laloadNull hexec (g := F0 m pc ls (.int i :: .null :: rest)) rfl (rest := rest) rfl (by rw [hb]; exact hdg) t st, q⟩
theorem vx_faloadN (hexec : p.tables.exec = Jvm.exec) (hb : c.code = cc) {i : Int32} (hdg : decode cc pc = .ok (.faload, 1)) (k : vx_NoteN p l e R s m args below meth c H locs cells slots Q (F0 m pc ls rest)) : W p l e R s m args below meth c H locs cells slots Q (F0 m pc ls (.int i :: .null :: rest)) := by
  intro T hT X
  obtain ⟨t, st, q⟩ := k T hT X
  exact ⟨t, X.faloadNull hexec (g := F0 m pc ls (.int i :: .null :: rest)) rfl (rest := rest) rfl (by rw [hb]; exact hdg) t st, q⟩
theorem vx_daloadN (hexec : p.tables.exec = Jvm.exec) (hb : c.code = cc) {i : Int32} (hdg : decode cc pc = .ok (.daload, 1)) (k : vx_NoteN p l e R s m args below meth c H locs cells slots Q (F0 m pc ls rest)) : W p l e R s m args below meth c H locs cells slots Q (F0 m pc ls (.int i :: .null :: rest)) := by
  intro T hT X
  obtain ⟨t, st, q⟩ := k T hT X
  exact ⟨t, X.daloadNull hexec (g := F0 m pc ls (.int i :: .null :: rest)) rfl (rest := rest) rfl (by rw [hb]; exact hdg) t st, q⟩
theorem vx_aaloadN (hexec : p.tables.exec = Jvm.exec) (hb : c.code = cc) {i : Int32} (hdg : decode cc pc = .ok (.aaload, 1)) (k : vx_NoteN p l e R s m args below meth c H locs cells slots Q (F0 m pc ls rest)) : W p l e R s m args below meth c H locs cells slots Q (F0 m pc ls (.int i :: .null :: rest)) := by
  intro T hT X
  obtain ⟨t, st, q⟩ := k T hT X
  exact ⟨t, X.aaloadNull hexec (g := F0 m pc ls (.int i :: .null :: rest)) rfl (rest := rest) rfl (by rw [hb]; exact hdg) t st, q⟩
theorem vx_baloadN (hexec : p.tables.exec = Jvm.exec) (hb : c.code = cc) {i : Int32} (hdg : decode cc pc = .ok (.baload, 1)) (k : vx_NoteN p l e R s m args below meth c H locs cells slots Q (F0 m pc ls rest)) : W p l e R s m args below meth c H locs cells slots Q (F0 m pc ls (.int i :: .null :: rest)) := by
  intro T hT X
  obtain ⟨t, st, q⟩ := k T hT X
  exact ⟨t, X.baloadNull hexec (g := F0 m pc ls (.int i :: .null :: rest)) rfl (rest := rest) rfl (by rw [hb]; exact hdg) t st, q⟩
theorem vx_caloadN (hexec : p.tables.exec = Jvm.exec) (hb : c.code = cc) {i : Int32} (hdg : decode cc pc = .ok (.caload, 1)) (k : vx_NoteN p l e R s m args below meth c H locs cells slots Q (F0 m pc ls rest)) : W p l e R s m args below meth c H locs cells slots Q (F0 m pc ls (.int i :: .null :: rest)) := by
  intro T hT X
  obtain ⟨t, st, q⟩ := k T hT X
  exact ⟨t, X.caloadNull hexec (g := F0 m pc ls (.int i :: .null :: rest)) rfl (rest := rest) rfl (by rw [hb]; exact hdg) t st, q⟩
theorem vx_saloadN (hexec : p.tables.exec = Jvm.exec) (hb : c.code = cc) {i : Int32} (hdg : decode cc pc = .ok (.saload, 1)) (k : vx_NoteN p l e R s m args below meth c H locs cells slots Q (F0 m pc ls rest)) : W p l e R s m args below meth c H locs cells slots Q (F0 m pc ls (.int i :: .null :: rest)) := by
  intro T hT X
  obtain ⟨t, st, q⟩ := k T hT X
  exact ⟨t, X.saloadNull hexec (g := F0 m pc ls (.int i :: .null :: rest)) rfl (rest := rest) rfl (by rw [hb]; exact hdg) t st, q⟩
theorem vx_iastoreN (hexec : p.tables.exec = Jvm.exec) (hb : c.code = cc) {x : Int32} {i : Int32} (hdg : decode cc pc = .ok (.iastore, 1)) (k : vx_NoteN p l e R s m args below meth c H locs cells slots Q (F0 m pc ls rest)) : W p l e R s m args below meth c H locs cells slots Q (F0 m pc ls (.int x :: .int i :: .null :: rest)) := by
  intro T hT X
  obtain ⟨t, st, q⟩ := k T hT X
  exact ⟨t, X.iastoreNull hexec (g := F0 m pc ls (.int x :: .int i :: .null :: rest)) rfl (rest := rest) rfl (by rw [hb]; exact hdg) t st, q⟩
theorem vx_lastoreN (hexec : p.tables.exec = Jvm.exec) (hb : c.code = cc) {x : Int64} {i : Int32} (hdg : decode cc pc = .ok (.lastore, 1)) (k : vx_NoteN p l e R s m args below meth c H locs cells slots Q (F0 m pc ls rest)) : W p l e R s m args below meth c H locs cells slots Q (F0 m pc ls (.long x :: .int i :: .null :: rest)) := by
  intro T hT X
  obtain ⟨t, st, q⟩ := k T hT X
  exact ⟨t, X.lastoreNull hexec (g := F0 m pc ls (.long x :: .int i :: .null :: rest)) rfl (rest := rest) rfl (by rw [hb]; exact hdg) t st, q⟩
theorem vx_fastoreN (hexec : p.tables.exec = Jvm.exec) (hb : c.code = cc) {x : UInt32} {i : Int32} (hdg : decode cc pc = .ok (.fastore, 1)) (k : vx_NoteN p l e R s m args below meth c H locs cells slots Q (F0 m pc ls rest)) : W p l e R s m args below meth c H locs cells slots Q (F0 m pc ls (.float x :: .int i :: .null :: rest)) := by
  intro T hT X
  obtain ⟨t, st, q⟩ := k T hT X
  exact ⟨t, X.fastoreNull hexec (g := F0 m pc ls (.float x :: .int i :: .null :: rest)) rfl (rest := rest) rfl (by rw [hb]; exact hdg) t st, q⟩
theorem vx_dastoreN (hexec : p.tables.exec = Jvm.exec) (hb : c.code = cc) {x : UInt64} {i : Int32} (hdg : decode cc pc = .ok (.dastore, 1)) (k : vx_NoteN p l e R s m args below meth c H locs cells slots Q (F0 m pc ls rest)) : W p l e R s m args below meth c H locs cells slots Q (F0 m pc ls (.double x :: .int i :: .null :: rest)) := by
  intro T hT X
  obtain ⟨t, st, q⟩ := k T hT X
  exact ⟨t, X.dastoreNull hexec (g := F0 m pc ls (.double x :: .int i :: .null :: rest)) rfl (rest := rest) rfl (by rw [hb]; exact hdg) t st, q⟩
theorem vx_bastoreN (hexec : p.tables.exec = Jvm.exec) (hb : c.code = cc) {x : Int32} {i : Int32} (hdg : decode cc pc = .ok (.bastore, 1)) (k : vx_NoteN p l e R s m args below meth c H locs cells slots Q (F0 m pc ls rest)) : W p l e R s m args below meth c H locs cells slots Q (F0 m pc ls (.int x :: .int i :: .null :: rest)) := by
  intro T hT X
  obtain ⟨t, st, q⟩ := k T hT X
  exact ⟨t, X.bastoreNull hexec (g := F0 m pc ls (.int x :: .int i :: .null :: rest)) rfl (rest := rest) rfl (by rw [hb]; exact hdg) t st, q⟩
theorem vx_castoreN (hexec : p.tables.exec = Jvm.exec) (hb : c.code = cc) {x : Int32} {i : Int32} (hdg : decode cc pc = .ok (.castore, 1)) (k : vx_NoteN p l e R s m args below meth c H locs cells slots Q (F0 m pc ls rest)) : W p l e R s m args below meth c H locs cells slots Q (F0 m pc ls (.int x :: .int i :: .null :: rest)) := by
  intro T hT X
  obtain ⟨t, st, q⟩ := k T hT X
  exact ⟨t, X.castoreNull hexec (g := F0 m pc ls (.int x :: .int i :: .null :: rest)) rfl (rest := rest) rfl (by rw [hb]; exact hdg) t st, q⟩
theorem vx_sastoreN (hexec : p.tables.exec = Jvm.exec) (hb : c.code = cc) {x : Int32} {i : Int32} (hdg : decode cc pc = .ok (.sastore, 1)) (k : vx_NoteN p l e R s m args below meth c H locs cells slots Q (F0 m pc ls rest)) : W p l e R s m args below meth c H locs cells slots Q (F0 m pc ls (.int x :: .int i :: .null :: rest)) := by
  intro T hT X
  obtain ⟨t, st, q⟩ := k T hT X
  exact ⟨t, X.sastoreNull hexec (g := F0 m pc ls (.int x :: .int i :: .null :: rest)) rfl (rest := rest) rfl (by rw [hb]; exact hdg) t st, q⟩
theorem vx_invokeN {own C : String} {index maxL : Nat} {y : MethodName} {bytes : ByteArray} {ret : Option FieldType} (hexec : p.tables.exec = Jvm.exec) (hb : c.code = cc) (hown : s.vm.findClass own = some m.cls) (hlink : (Cond.methodLink own index y).before args s = true) (hinst : (Cond.instanceMethod y).before args s = true) (hcode : (Cond.code y bytes maxL ret).before args s = true) (hsel : (Cond.selects C y y).before args s = true)
    (hx : y.cls ≠ "java/lang/invoke/MethodHandle" ∧ y.cls ≠ "java/lang/invoke/VarHandle") {As : List Value} (hlen : (parseMethodDescriptor y.desc).map (fun d => d.parameters.length) = some As.length) (hdg : decode cc pc = .ok (.invokevirtual index, 3))
    (k : vx_NoteN p l e R s m args below meth c H locs cells slots Q (F0 m pc ls rest)) {st0 : List Value} (hst : st0 = As.reverse ++ .null :: rest) : W p l e R s m args below meth c H locs cells slots Q (F0 m pc ls st0) := by
  intro T hT X
  obtain ⟨r0, r, hn, hrm, hstR, hsigR⟩ := va_Decl.of hinst hcode
  obtain ⟨c2, r2, m2, q1, q2, q3, q4, kP, hkP, hkPi⟩ := Cond.selects_spec hsel
  cases hn.symm.trans q3
  have hl9 : As.length = r.sig.parameters.length := by
    rw [hsigR] at hlen
    exact (Option.some.inj hlen).symm
  obtain ⟨vm', X1, st1⟩ := X.invokevirtualNull hexec hown hlink hn hrm hstR hkP hkPi hx (g := F0 m pc ls st0) rfl (argsL := As) (rest := rest) hl9 hst (by rw [hb]; exact hdg)
  obtain ⟨t, st, q⟩ := k (T.setVm vm') hT X1
  exact ⟨t, st1 t st, q⟩
theorem vx_newarrayZ {atype : ArrayType} (hexec : p.tables.exec = Jvm.exec) (hb : c.code = cc) {n : Int32} (h0 : n < 0) (hdg : decode cc pc = .ok (.newarray atype, 2)) (k : ∀ tx : String, tx = toString n → vx_Note p l e R s m args below meth c H locs cells slots Q (F0 m pc ls rest) "java/lang/NegativeArraySizeException" tx) : W p l e R s m args below meth c H locs cells slots Q (F0 m pc ls (.int n :: rest)) := by
  intro T hT X
  obtain ⟨t, st, q⟩ := k _ rfl T hT X
  exact ⟨t, X.newarrayNegative hexec (g := F0 m pc ls (.int n :: rest)) rfl h0 (rest := rest) rfl (by rw [hb]; exact hdg) t st, q⟩
end
end VXM
/-! ===== END ===== -/
/-! ===== BEGIN an exception as an object: made, kept, thrown later (no traces kept) ===== -/
section VXK
variable {p : Program} {l : Launch} {e : Env} {R : Room} {s : State} {m₀ : MethodId} {args : Array Value} {below : List Frame} {meth : Method} {c : Code} {W : State} {locs : List Loc} {cells slots : Nat}
set_option maxHeartbeats 1000000 in
theorem vx_ctorMadeS (X : Stand p l e R s m₀ args below meth c W locs cells slots) (hexec : p.tables.exec = Jvm.exec) (htr : e.platform.stackTraces = false) {own cls : String} {names : List String} {ic : Nat}
    (hown : s.vm.findClass own = some m₀.cls) (hcls : Bundle.fit cls = true) (hnames : ∀ n ∈ names, Bundle.fit n = true)
    (h : ∀ a ∈ Bundle.ownAtoms own ic cls names, a.before args s = true)
    (hlocs : ∀ x ∈ locs, ∀ cell, s.heap[x.base]? = some cell → cell.vm.isStatics = false)
    {a : Addr} {cX : ClassId} {kX : Class} (hfoundX : s.vm.findClass cls = some cX) (hkX : s.vm.classes[cX]? = some kX) (hcell : W.heap[a]? = some (freshCell cX kX)) (hnew : s.heap.size ≤ a)
    {msg : Value} (hmsg : msg.isRef = true)
    {g : JFrame} (hg : g.method = m₀) (hsize : g.locals.size = c.maxLocals) {rest : List Value} (hstack : g.stack = msg :: .ref a :: .ref a :: rest)
    (hd6 : decode c.code g.pc = .ok (.invokespecial ic, 3))
    (hRframes : names.length + 3 < R.frames) (hRlocals : 2 * g.monitorRoom + ((Value.ref a :: rest).map fun v => v.category).sum + (13 * (names.length + 1) + 42) ≤ R.locals) :
    ∃ (V : State) (ce : Cell) (L : List Loc), Stand p l e R s m₀ args below meth c (V.setCell a ce) (locs ++ L) cells slots ∧ (∀ y ∈ L, y.base = a) ∧ a < V.heap.size ∧ ce.cls = cX ∧ ce.vm = .none ∧
      ∀ target, Steps p.tables e below ((V.setCell a ce).setTop { g with stack := .ref a :: rest, pc := g.pc + 3 }) target → Steps p.tables e below (W.setTop g) target := by
  have howns : e.platform.frameOwnsMonitors = true := by rw [X.admits.platform]
  have hfin : e.platform.finalization = false := by rw [X.admits.platform]
  have hpl : e.platform.magicAccessors = ({} : Platform).magicAccessors := by rw [X.admits.platform]
  have a' : ∀ x, x ∈ Bundle.ownAtoms own ic cls names → x.holds args s none s [] = true := fun x hx => h x hx
  obtain ⟨T, Z0, L, -, Y⟩ := ThrowableC.of_atoms (args := args) howns hfin hpl (fun x hx => h x (by simp [Bundle.ownAtoms, hx]))
  obtain ⟨Z, M, LZ, LM, hnZ⟩ := Init0T.ofS_atoms (args := args) hpl L Y (fun x hx => h x (by simp [Bundle.ownAtoms, hx]))
  obtain ⟨P1, Ps, hlen, L1, hL, hP1m, hlink1, hlink⟩ := Bundle.chainS (args := args) hpl hnZ names cls hcls hnames (fun x hx => h x (by simp [Bundle.ownAtoms, hx]))
  have hfound : s.vm.findClass cls = some P1.m.cls := findClass_of_methodNamed hP1m
  cases Option.some.inj (hfoundX.symm.trans hfound)
  obtain ⟨c1, kX', hc1, hk, hord, -, -, hn6⟩ := Cond.instantiable_spec (a' (.instantiable cls 6) (by simp [Bundle.ownAtoms]))
  cases Option.some.inj (hc1.symm.trans hfound)
  cases Option.some.inj (hkX.symm.trans hk)
  have hsel0 : selectMethod e.platform s.vm P1.m.cls T.fill0 = .method T.fill0 := by
    obtain ⟨c2, r2, m2, q1, q2, q3, q4, -⟩ := Cond.selects_spec (a' (.selects cls Bundle.tFill0 Bundle.tFill0) (by simp [Bundle.ownAtoms]))
    cases Option.some.inj (q1.symm.trans hfound)
    cases Option.some.inj (q2.symm.trans (State.methodFound?_of_named Y.fill0 (by decide)))
    cases Option.some.inj (q3.symm.trans Y.fill0)
    rw [Launch.admits_selectMethod X.admits]; exact q4
  have hselF : selectMethod e.platform s.vm P1.m.cls T.fill = .method T.fill := by
    obtain ⟨c2, r2, m2, q1, q2, q3, q4, -⟩ := Cond.selects_spec (a' (.selects cls Bundle.tFill Bundle.tFill) (by simp [Bundle.ownAtoms]))
    cases Option.some.inj (q1.symm.trans hfound)
    cases Option.some.inj (q2.symm.trans (State.methodFound?_of_named Y.fill (by decide)))
    cases Option.some.inj (q3.symm.trans Y.fill)
    rw [Launch.admits_selectMethod X.admits]; exact q4
  obtain ⟨cellS0, hcS0, hiss⟩ := Y.statics
  obtain ⟨u0, hu0⟩ := Cond.staticRefV Y.unassigned L.unassignedStatic L.statics hcS0 hiss (a' (.isRef (.static Bundle.tN "UNASSIGNED_STACK" Bundle.steD)) (by simp [Bundle.ownAtoms]))
  obtain ⟨sen, hsen⟩ := Cond.staticRefV Y.sentinel L.sentinelStatic L.statics hcS0 hiss (a' (.isRef (.static Bundle.tN "SUPPRESSED_SENTINEL" Bundle.listD)) (by simp [Bundle.ownAtoms]))
  obtain ⟨ci198, i198, fB, hk198, hg198, ha198, hsB, -, hnB, htB, hffB⟩ := Cond.ownField (t := .object "java/lang/Object") Y.found L.cls (by decide +kernel) (a' (.fieldLink Bundle.tN 198 Bundle.tN "backtrace" "Ljava/lang/Object;") (by simp [Bundle.ownAtoms])) (a' (.lays Bundle.tN Bundle.tN "backtrace" "Ljava/lang/Object;") (by simp [Bundle.ownAtoms])) e.platform hpl
  obtain ⟨cellS, hcS', heS, -, hkeep⟩ := X.same.2.2.2.2.2 T.aS cellS0 hcS0
  have hcellS : W.heap[T.aS]? = some cellS := hcS'
  have hout' : ∀ i, (⟨T.aS, i⟩ : Loc) ∉ locs := fun i hmem => by
    have := hlocs _ hmem cellS0 hcS0
    rw [hiss] at this; cases this
  have hknownS : cellS.vm ≠ .unknown := by
    rw [heS]; intro hu
    rw [show cellS0.vm = .unknown from hu] at hiss
    cases hiss
  have hneS : T.aS ≠ a := Nat.ne_of_lt (Nat.lt_of_lt_of_le (Array.getElem?_eq_some_iff.mp hcS0).1 hnew)
  obtain ⟨iM, hffM⟩ := Y.msg
  obtain ⟨tyC, dC, hdC, hdnC⟩ := Cond.laysAt hfound hk Y.cause (a' (.lays cls Bundle.tN "cause" "Ljava/lang/Throwable;") (by simp [Bundle.ownAtoms]))
  obtain ⟨tyS, dS, hdS, hdnS⟩ := Cond.laysAt hfound hk Y.stack (a' (.lays cls Bundle.tN "stackTrace" Bundle.steD) (by simp [Bundle.ownAtoms]))
  obtain ⟨tyP, dP, hdP, hdnP⟩ := Cond.laysAt hfound hk Y.supp (a' (.lays cls Bundle.tN "suppressedExceptions" Bundle.listD) (by simp [Bundle.ownAtoms]))
  obtain ⟨tyM, dM, hdM, hdnM⟩ := Cond.laysAt hfound hk hffM (a' (.lays cls Bundle.tN "detailMessage" "Ljava/lang/String;") (by simp [Bundle.ownAtoms]))
  obtain ⟨tyB, dB, hdB, hdnB⟩ := Cond.laysAt hfound hk hffB (a' (.lays cls Bundle.tN "backtrace" "Ljava/lang/Object;") (by simp [Bundle.ownAtoms]))
  have bC := Cond.laysApart hdB hdC hdnB hdnC (by rw [hnB, Y.causeName]; decide)
  have bS := Cond.laysApart hdB hdS hdnB hdnS (by rw [hnB, Y.stackName]; decide)
  have bP := Cond.laysApart hdB hdP hdnB hdnP (by rw [hnB, Y.suppName]; decide)
  have hskip : SkipFacts T e.platform s (fun u => u) u0 ((preparedCellV T.toThrowableT (freshCell P1.m.cls kX) a u0 sen).withEntry W.cur) :=
    ⟨{ ci198 := ci198, i198 := i198, fBack := fB }, ⟨hk198, hg198, ha198, hsB⟩, by
      have := fresh_default (c := P1.m.cls) tyB
      rw [htB] at this
      simpa [preparedCellV, Cell.setSlot, Cell.withEntry, Array.getElem?_setIfInBounds, bC, bS, bP, bC.symm, bS.symm, bP.symm, defaultValue] using this, fun _ _ => rfl⟩
  obtain ⟨tm, methC, cdC, kC, vm₁, hnC, -, -, -, -, -, -, -, hW₁, st1⟩ := Steps.initColdS (tb := p.tables) (e := e) (below := below) (s := s) (U := W) X.here hexec X.warmed hpl hown (t := Bundle.initS cls) rfl rfl (Bundle.fit_spec hcls).2
    (a' (.methodLink own ic (Bundle.initS cls)) (by simp [Bundle.ownAtoms])) (h (.instanceMethod (Bundle.initS cls)) (by cases names <;> simp [Bundle.ownAtoms, Bundle.chainSAtoms, Bundle.passSAtoms])) (bytes := Bundle.six) (maxL := 2) (h (.code (Bundle.initS cls) Bundle.six 2 none) (by cases names <;> simp [Bundle.ownAtoms, Bundle.chainSAtoms, Bundle.passSAtoms]))
    (f := g) hg (a := a) (msg := msg) (rest := .ref a :: rest) hstack hd6
  cases Option.some.inj (hnC.symm.trans hP1m)
  have X₁ := X.noted hW₁
  obtain ⟨vm₂, X₂, st2⟩ := X₁.ctorMessageOffV hexec (g := { g with stack := .ref a :: rest }) hg hsize T L Z LZ M LM (P1 :: Ps)
    (fun P hP => by rcases List.mem_cons.mp hP with rfl | hP; exact L1; exact hL P hP) ⟨hlink1, hlink⟩ (u0 := u0) (sen := sen) (self := a) hmsg (cell := freshCell P1.m.cls kX) (cellS := cellS)
    hcell (fun _ => by simp) (by simp) rfl rfl hsel0 hselF hcellS hneS hknownS (by rw [hkeep _ (hout' _)]; exact hu0) (by rw [hkeep _ (hout' _)]; exact hsen)
    (Takes.of_laid hk hord tyC (by rw [Y.causeType]; rfl)) (Takes.of_laid hk hord tyS (by rw [Y.stackType]; exact fits_refV_array _ u0)) (Takes.of_laid hk hord tyP (by rw [Y.suppType]; exact fits_refV_object _ sen))
    (Takes.of_laid hk hord tyM (by rw [Y.msgType]; exact fits_refV_object _ ⟨msg, hmsg⟩)) Y.objLocals hskip htr [] hd6
    (by simp only [List.length_cons, hlen]; omega) (by simp only [List.length_cons, hlen]; exact hRlocals)
  have hlt : a < ((W.setVm vm₁).setVm vm₂).heap.size := (Array.getElem?_eq_some_iff.mp hcell).1
  refine ⟨(W.setVm vm₁).setVm vm₂, _, _, X₂, fun y hy => ?_, hlt, rfl, rfl, fun target hwalk => st1 _ (fun acts => ?_)⟩
  · simp only [List.mem_cons, List.not_mem_nil, or_false] at hy
    rcases hy with rfl | rfl | rfl | rfl | rfl <;> rfl
  · rw [doInvoke_state]
    exact st2 _ hwalk
set_option maxHeartbeats 1000000 in
theorem vx_ctorMade0 (X : Stand p l e R s m₀ args below meth c W locs cells slots) (hexec : p.tables.exec = Jvm.exec) (htr : e.platform.stackTraces = false) {own cls : String} {names : List String} {ic : Nat}
    (hown : s.vm.findClass own = some m₀.cls) (hcls : Bundle.fit cls = true) (hnames : ∀ n ∈ names, Bundle.fit n = true)
    (h : ∀ a ∈ Bundle.ownAtoms0 own ic cls names, a.before args s = true)
    (hlocs : ∀ x ∈ locs, ∀ cell, s.heap[x.base]? = some cell → cell.vm.isStatics = false)
    {a : Addr} {cX : ClassId} {kX : Class} (hfoundX : s.vm.findClass cls = some cX) (hkX : s.vm.classes[cX]? = some kX) (hcell : W.heap[a]? = some (freshCell cX kX)) (hnew : s.heap.size ≤ a)
    {g : JFrame} (hg : g.method = m₀) (hsize : g.locals.size = c.maxLocals) {rest : List Value} (hstack : g.stack = .ref a :: .ref a :: rest)
    (hd6 : decode c.code g.pc = .ok (.invokespecial ic, 3))
    (hRframes : names.length + 3 < R.frames) (hRlocals : 2 * g.monitorRoom + ((Value.ref a :: rest).map fun v => v.category).sum + (13 * (names.length + 1) + 41) ≤ R.locals) :
    ∃ (V : State) (ce : Cell) (L : List Loc), Stand p l e R s m₀ args below meth c (V.setCell a ce) (locs ++ L) cells slots ∧ (∀ y ∈ L, y.base = a) ∧ a < V.heap.size ∧ ce.cls = cX ∧ ce.vm = .none ∧
      ∀ target, Steps p.tables e below ((V.setCell a ce).setTop { g with stack := .ref a :: rest, pc := g.pc + 3 }) target → Steps p.tables e below (W.setTop g) target := by
  have howns : e.platform.frameOwnsMonitors = true := by rw [X.admits.platform]
  have hfin : e.platform.finalization = false := by rw [X.admits.platform]
  have hpl : e.platform.magicAccessors = ({} : Platform).magicAccessors := by rw [X.admits.platform]
  have a' : ∀ x, x ∈ Bundle.ownAtoms0 own ic cls names → x.holds args s none s [] = true := fun x hx => h x hx
  obtain ⟨T, Z, L, LZ, Y⟩ := ThrowableC.of_atoms (args := args) howns hfin hpl (fun x hx => h x (by simp [Bundle.ownAtoms0, hx]))
  obtain ⟨P1, Ps, hlen, L1, hL, hP1m, hlink1, hlink⟩ := Bundle.chain0 (args := args) hpl Y.init0 names cls hcls hnames (fun x hx => h x (by simp [Bundle.ownAtoms0, hx]))
  have hfound : s.vm.findClass cls = some P1.m.cls := findClass_of_methodNamed hP1m
  cases Option.some.inj (hfoundX.symm.trans hfound)
  obtain ⟨c1, kX', hc1, hk, hord, -, -, hn6⟩ := Cond.instantiable_spec (a' (.instantiable cls 6) (by simp [Bundle.ownAtoms0]))
  cases Option.some.inj (hc1.symm.trans hfound)
  cases Option.some.inj (hkX.symm.trans hk)
  have hsel0 : selectMethod e.platform s.vm P1.m.cls T.fill0 = .method T.fill0 := by
    obtain ⟨c2, r2, m2, q1, q2, q3, q4, -⟩ := Cond.selects_spec (a' (.selects cls Bundle.tFill0 Bundle.tFill0) (by simp [Bundle.ownAtoms0]))
    cases Option.some.inj (q1.symm.trans hfound)
    cases Option.some.inj (q2.symm.trans (State.methodFound?_of_named Y.fill0 (by decide)))
    cases Option.some.inj (q3.symm.trans Y.fill0)
    rw [Launch.admits_selectMethod X.admits]; exact q4
  have hselF : selectMethod e.platform s.vm P1.m.cls T.fill = .method T.fill := by
    obtain ⟨c2, r2, m2, q1, q2, q3, q4, -⟩ := Cond.selects_spec (a' (.selects cls Bundle.tFill Bundle.tFill) (by simp [Bundle.ownAtoms0]))
    cases Option.some.inj (q1.symm.trans hfound)
    cases Option.some.inj (q2.symm.trans (State.methodFound?_of_named Y.fill (by decide)))
    cases Option.some.inj (q3.symm.trans Y.fill)
    rw [Launch.admits_selectMethod X.admits]; exact q4
  obtain ⟨cellS0, hcS0, hiss⟩ := Y.statics
  obtain ⟨u0, hu0⟩ := Cond.staticRefV Y.unassigned L.unassignedStatic L.statics hcS0 hiss (a' (.isRef (.static Bundle.tN "UNASSIGNED_STACK" Bundle.steD)) (by simp [Bundle.ownAtoms0]))
  obtain ⟨sen, hsen⟩ := Cond.staticRefV Y.sentinel L.sentinelStatic L.statics hcS0 hiss (a' (.isRef (.static Bundle.tN "SUPPRESSED_SENTINEL" Bundle.listD)) (by simp [Bundle.ownAtoms0]))
  obtain ⟨ci198, i198, fB, hk198, hg198, ha198, hsB, -, hnB, htB, hffB⟩ := Cond.ownField (t := .object "java/lang/Object") Y.found L.cls (by decide +kernel) (a' (.fieldLink Bundle.tN 198 Bundle.tN "backtrace" "Ljava/lang/Object;") (by simp [Bundle.ownAtoms0])) (a' (.lays Bundle.tN Bundle.tN "backtrace" "Ljava/lang/Object;") (by simp [Bundle.ownAtoms0])) e.platform hpl
  obtain ⟨cellS, hcS', heS, -, hkeep⟩ := X.same.2.2.2.2.2 T.aS cellS0 hcS0
  have hcellS : W.heap[T.aS]? = some cellS := hcS'
  have hout' : ∀ i, (⟨T.aS, i⟩ : Loc) ∉ locs := fun i hmem => by
    have := hlocs _ hmem cellS0 hcS0
    rw [hiss] at this; cases this
  have hknownS : cellS.vm ≠ .unknown := by
    rw [heS]; intro hu
    rw [show cellS0.vm = .unknown from hu] at hiss
    cases hiss
  have hneS : T.aS ≠ a := Nat.ne_of_lt (Nat.lt_of_lt_of_le (Array.getElem?_eq_some_iff.mp hcS0).1 hnew)
  obtain ⟨iM, hffM⟩ := Y.msg
  obtain ⟨tyC, dC, hdC, hdnC⟩ := Cond.laysAt hfound hk Y.cause (a' (.lays cls Bundle.tN "cause" "Ljava/lang/Throwable;") (by simp [Bundle.ownAtoms0]))
  obtain ⟨tyS, dS, hdS, hdnS⟩ := Cond.laysAt hfound hk Y.stack (a' (.lays cls Bundle.tN "stackTrace" Bundle.steD) (by simp [Bundle.ownAtoms0]))
  obtain ⟨tyP, dP, hdP, hdnP⟩ := Cond.laysAt hfound hk Y.supp (a' (.lays cls Bundle.tN "suppressedExceptions" Bundle.listD) (by simp [Bundle.ownAtoms0]))
  obtain ⟨tyM, dM, hdM, hdnM⟩ := Cond.laysAt hfound hk hffM (a' (.lays cls Bundle.tN "detailMessage" "Ljava/lang/String;") (by simp [Bundle.ownAtoms0]))
  obtain ⟨tyB, dB, hdB, hdnB⟩ := Cond.laysAt hfound hk hffB (a' (.lays cls Bundle.tN "backtrace" "Ljava/lang/Object;") (by simp [Bundle.ownAtoms0]))
  have bC := Cond.laysApart hdB hdC hdnB hdnC (by rw [hnB, Y.causeName]; decide)
  have bS := Cond.laysApart hdB hdS hdnB hdnS (by rw [hnB, Y.stackName]; decide)
  have bP := Cond.laysApart hdB hdP hdnB hdnP (by rw [hnB, Y.suppName]; decide)
  have hskip : SkipFacts T e.platform s (fun u => u) u0 ((preparedCellV T.toThrowableT (freshCell P1.m.cls kX) a u0 sen).withEntry W.cur) :=
    ⟨{ ci198 := ci198, i198 := i198, fBack := fB }, ⟨hk198, hg198, ha198, hsB⟩, by
      have := fresh_default (c := P1.m.cls) tyB
      rw [htB] at this
      simpa [preparedCellV, Cell.setSlot, Cell.withEntry, Array.getElem?_setIfInBounds, bC, bS, bP, bC.symm, bS.symm, bP.symm, defaultValue] using this, fun _ _ => rfl⟩
  obtain ⟨tm, methC, cdC, kC, vm₁, hnC, -, -, -, -, -, -, -, hW₁, st1⟩ := Steps.initCold (tb := p.tables) (e := e) (below := below) (s := s) (U := W) X.here hexec X.warmed hpl hown (t := Bundle.init0 cls) rfl rfl (Bundle.fit_spec hcls).2
    (a' (.methodLink own ic (Bundle.init0 cls)) (by simp [Bundle.ownAtoms0])) (h (.instanceMethod (Bundle.init0 cls)) (by cases names <;> simp [Bundle.ownAtoms0, Bundle.chain0Atoms, Bundle.passAtoms])) (bytes := Bundle.five) (maxL := 1) (h (.code (Bundle.init0 cls) Bundle.five 1 none) (by cases names <;> simp [Bundle.ownAtoms0, Bundle.chain0Atoms, Bundle.passAtoms]))
    (f := g) hg (a := a) (rest := .ref a :: rest) hstack hd6
  cases Option.some.inj (hnC.symm.trans hP1m)
  have X₁ := X.noted hW₁
  obtain ⟨vm₂, X₂, st2⟩ := X₁.ctorPlainOffV hexec (g := { g with stack := .ref a :: rest }) hg hsize T L Z LZ (P1 :: Ps)
    (fun P hP => by rcases List.mem_cons.mp hP with rfl | hP; exact L1; exact hL P hP) ⟨hlink1, hlink⟩ (u0 := u0) (sen := sen) (self := a) (cell := freshCell P1.m.cls kX) (cellS := cellS)
    hcell (fun _ => by simp) (by simp) rfl rfl hsel0 hselF hcellS hneS hknownS (by rw [hkeep _ (hout' _)]; exact hu0) (by rw [hkeep _ (hout' _)]; exact hsen)
    (Takes.of_laid hk hord tyC (by rw [Y.causeType]; rfl)) (Takes.of_laid hk hord tyS (by rw [Y.stackType]; exact fits_refV_array _ u0)) (Takes.of_laid hk hord tyP (by rw [Y.suppType]; exact fits_refV_object _ sen)) Y.objLocals hskip htr [] hd6
    (by simp only [List.length_cons, hlen]; omega) (by simp only [List.length_cons, hlen]; exact hRlocals)
  have hlt : a < ((W.setVm vm₁).setVm vm₂).heap.size := (Array.getElem?_eq_some_iff.mp hcell).1
  refine ⟨(W.setVm vm₁).setVm vm₂, _, _, X₂, fun y hy => ?_, hlt, rfl, rfl, fun target hwalk => st1 _ (fun acts => ?_)⟩
  · simp only [List.mem_cons, List.not_mem_nil, or_false] at hy
    rcases hy with rfl | rfl | rfl | rfl <;> rfl
  · rw [doInvoke_state]
    exact st2 _ hwalk
end VXK
section VXK2
variable {p : Program} {l : Launch} {e : Env} {R : Room} {s : State} {m : MethodId} {args : Array Value} {below : List Frame} {meth : Method} {c : Code} {H : Heap} {locs : List Loc} {cells slots : Nat} {Q : State → Prop}
variable {ls : Array Slot} {rest : List Value} {D : va_G} {cl : List vw_C} {tys : List (ClassId × FieldType)} {ws : va_W}
/-- 'new E("text")' that isn't thrown at once: the object goes on the stack -/
theorem vx_makeS {cc : ByteArray} {pc : Nat} (hexec : p.tables.exec = Jvm.exec) (hb : c.code = cc) (hl : l.stackTraces = false) {own cls text : String} {names : List String} {ik is ic sa ci : Nat} {A : Nat → Prop} {T0 : u_T}
    (hown : s.vm.findClass own = some m.cls) (hcls : Bundle.fit cls = true) (hnames : ∀ n ∈ names, Bundle.fit n = true)
    (hk : (Cond.classLink own ik cls).before args s = true) (hini : (Cond.initialized cls).before args s = true) (hstr : vk_R own is text sa s) (hat : ∀ w ∈ vx_atS own ic cls names, w.before args s = true)
    (hgood : ∀ w ∈ Cond.classLink own ik cls :: Cond.initialized cls :: vx_atS own ic cls names, vx_ot w = true)
    (hU : vx_Zq Bundle.tN "UNASSIGNED_STACK" Bundle.steD A s s.heap) (hN : vx_Zq Bundle.tN "SUPPRESSED_SENTINEL" Bundle.listD A s s.heap) (hS : va_S A s.heap H locs) (hsize : ls.size = c.maxLocals)
    (d0 : decode cc pc = .ok (.new ik, 3)) (d3 : decode cc (pc + 3) = .ok (.dup, 1)) (d4 : decode cc (pc + 4) = .ok (.ldc is, 2)) (d6 : decode cc (pc + 6) = .ok (.invokespecial ic, 3))
    (hK : va_K D cl tys s) (hP : va_P D cl ws H) (hD : va_D A ws) (hA : ∀ q, s.heap.size ≤ q → A q) (hc : cl[ci]? = some (cls, T0, 0))
    (hRframes : names.length + 3 < R.frames) (hRlocals : (rest.map fun v => v.category).sum + (13 * (names.length + 1) + 43) ≤ R.locals) (hRcells : cells + 1 ≤ R.cells) (hRslots : slots + 6 ≤ R.slots)
    (kk : ∀ (q : Nat) (H1 : Heap), va_P D cl (ws ++ [(q, .inr (ci, []))]) H1 → va_D A (ws ++ [(q, .inr (ci, []))]) → va_S A s.heap H1 locs → W p l e R s m args below meth c H1 locs (cells + 1) (slots + 6) Q (F0 m (pc + 9) ls (.ref q :: rest))) :
    W p l e R s m args below meth c H locs cells slots Q (F0 m pc ls rest) := by
  intro T hT X
  subst hT
  have htr : e.platform.stackTraces = false := (show e.platform.stackTraces = l.stackTraces by rw [X.admits.platform]).trans hl
  have Y := vx_rebase X (R' := { frames := R.frames, locals := R.locals, cells := 1, slots := 6 }) (Nat.le_refl _) (Nat.le_refl _) hRcells hRslots
  obtain ⟨s', hA'⟩ : ∃ z, z = (T.setVm s.vm).setFrames (.invoking m args :: below) := ⟨_, rfl⟩
  rw [← hA'] at Y
  have hvm : s'.vm = s.vm := by rw [hA']; rfl
  have hhp : s'.heap = T.heap := by rw [hA']; rfl
  have hW0 : s.WarmedH s'.vm := by rw [hvm]; exact State.WarmedH.refl s
  have hat' : ∀ w ∈ vx_atS own ic cls names, w.before args s' = true := fun w hw => vx_ot_at hW0 hvm.symm (hgood w (List.mem_cons_of_mem _ (List.mem_cons_of_mem _ hw))) (hat w hw)
  have hk' : (Cond.classLink own ik cls).before args s' = true := vx_ot_at hW0 hvm.symm (hgood _ List.mem_cons_self) hk
  have hini' : (Cond.initialized cls).before args s' = true := vx_ot_at hW0 hvm.symm (hgood _ (List.mem_cons_of_mem _ List.mem_cons_self)) hini
  have hU' : vx_Zq Bundle.tN "UNASSIGNED_STACK" Bundle.steD A s' s'.heap := by rw [hhp]; exact vx_Zq.moved hW0.alike (hU.kept hS.2.1)
  have hN' : vx_Zq Bundle.tN "SUPPRESSED_SENTINEL" Bundle.listD A s' s'.heap := by rw [hhp]; exact vx_Zq.moved hW0.alike (hN.kept hS.2.1)
  have h : ∀ w ∈ Bundle.ownAtoms own ic cls names, w.before args s' = true := vx_own hat' (vx_isRefq hU'.1) (vx_isRefq hN'.1) hU'.2.word hN'.2.word
  have hown' : s'.vm.findClass own = some m.cls := by rw [hvm]; exact hown
  have hins : (Cond.instantiable cls 6).before args s' = true := h _ (by simp [Bundle.ownAtoms])
  obtain ⟨vm₁, cX, kX, hfX, hkX, -, -, X₁, st1⟩ := Y.newCold hexec (own := own) (C := cls) (index := ik) (n := 6) hown' hk' hins hini'
    (g := F0 m pc ls rest) rfl (by rw [hb]; exact d0) (Nat.le_refl _) (Nat.le_refl _)
  generalize hT1 : (T.setVm vm₁).pushCell { cls := cX, slots := kX.instanceTypes.map defaultValue, vm := .none } = T1 at X₁ st1
  have hcat : (Value.ref T.heap.size).category = 1 := rfl
  have hcellA : T1.heap[T.heap.size]? = some (freshCell cX kX) := by rw [← hT1]; exact State.heap_pushCell_size _ _
  have d3' : decode c.code (pc + 3) = .ok (.dup, 1) := by rw [hb]; exact d3
  have d4' : decode c.code (pc + 4) = .ok (.ldc is, 2) := by rw [hb]; exact d4
  have hstr' : vk_R own is text sa s' := vk_R.warm hW0 hstr
  obtain ⟨V, ce, L, Z, hL, hlt, hcl9, hvm9, st⟩ := vx_ctorMadeS X₁ hexec htr (own := own) (cls := cls) (names := names) (ic := ic) hown' hcls hnames h (fun x hx => nomatch hx) hfX hkX hcellA (by rw [hhp]; exact Nat.le_refl _) (msg := .ref sa) rfl
    (g := { method := m, pc := pc + 6, locals := ls, stack := .ref sa :: .ref T.heap.size :: .ref T.heap.size :: rest, locked := none }) rfl hsize (rest := rest) rfl
    (by rw [hb]; exact d6) hRframes (by simp only [List.map_cons, List.sum_cons, hcat]; omega)
  have Z0 := Stand.forget (locs := []) Z (fun y hy => by rw [hL y hy, hhp]; exact Nat.le_refl _)
  obtain ⟨f1, f2⟩ := vx_frame Z0.same
  rw [hhp] at f1 f2
  have hcid : ce.cls = D.1 ci := by
    rw [hcl9]
    have h1 := (hK.1 ci _ hc).2.1
    rw [hvm] at hfX
    exact Option.some.inj (hfX.symm.trans h1)
  have hh : (V.setCell T.heap.size ce).heap[T.heap.size]? = some ce := heapAt_setCell_self (s := V) ce hlt
  subst hA'
  have X5 := vx_back9 X Y Z0
  have X6 : Stand p l e R s m args below meth c (V.setCell T.heap.size ce) locs (cells + 1) (slots + 6) := { X5 with same := X5.same.mono (by omega) (by omega) }
  have hk9 : ∀ (k : Nat) (x : Nat × va_E), ws[k]? = some x → (V.setCell T.heap.size ce).heap[x.1]? = T.heap[x.1]? := fun k x hx => f2 x.1 ((hP k x hx).lt) (fun z hz => nomatch hz)
  obtain ⟨t, a1, b1⟩ := kk T.heap.size (V.setCell T.heap.size ce).heap ((hP.kept hk9).app (fun k x hx => by
      have hz : k < 1 := (List.getElem?_eq_some_iff.mp hx).1
      rw [show k = 0 by omega] at hx
      cases hx
      exact ⟨_, hc, ce, hh, hcid, hvm9, fun k hk => absurd hk (Nat.not_lt_zero k)⟩)) (hD.push hP rfl (hA _ hS.1)) ⟨Nat.le_trans hS.1 f1, fun q h1 h2 => (f2 q (Nat.lt_of_lt_of_le h1 hS.1) (fun z hz => nomatch hz)).trans (hS.2.1 q h1 h2), hS.2.2⟩ _ rfl X6
  refine ⟨t, st1 _ ?_, b1⟩
  show Steps p.tables e below (T1.setTop { method := m, pc := pc + 3, locals := ls, stack := .ref T.heap.size :: rest, locked := none }) _
  jvm_step X₁.here [X₁.here.top, hexec, d3', Value.category]
  exact X₁.ldcString hexec (own := own) (text := text) (index := is) (a := sa) hown' hstr'.1 hstr'.2
    (g := { method := m, pc := pc + 4, locals := ls, stack := .ref T.heap.size :: .ref T.heap.size :: rest, locked := none }) rfl d4' _ (st _ a1)
/-- 'new E()' that isn't thrown at once: the object goes on the stack -/
theorem vx_make0 {cc : ByteArray} {pc : Nat} (hexec : p.tables.exec = Jvm.exec) (hb : c.code = cc) (hl : l.stackTraces = false) {own cls : String} {names : List String} {ik ic ci : Nat} {A : Nat → Prop} {T0 : u_T}
    (hown : s.vm.findClass own = some m.cls) (hcls : Bundle.fit cls = true) (hnames : ∀ n ∈ names, Bundle.fit n = true)
    (hk : (Cond.classLink own ik cls).before args s = true) (hini : (Cond.initialized cls).before args s = true) (hat : ∀ w ∈ vx_at0 own ic cls names, w.before args s = true)
    (hgood : ∀ w ∈ Cond.classLink own ik cls :: Cond.initialized cls :: vx_at0 own ic cls names, vx_ot w = true)
    (hU : vx_Zq Bundle.tN "UNASSIGNED_STACK" Bundle.steD A s s.heap) (hN : vx_Zq Bundle.tN "SUPPRESSED_SENTINEL" Bundle.listD A s s.heap) (hS : va_S A s.heap H locs) (hsize : ls.size = c.maxLocals)
    (d0 : decode cc pc = .ok (.new ik, 3)) (d3 : decode cc (pc + 3) = .ok (.dup, 1)) (d4 : decode cc (pc + 4) = .ok (.invokespecial ic, 3))
    (hK : va_K D cl tys s) (hP : va_P D cl ws H) (hD : va_D A ws) (hA : ∀ q, s.heap.size ≤ q → A q) (hc : cl[ci]? = some (cls, T0, 0))
    (hRframes : names.length + 3 < R.frames) (hRlocals : (rest.map fun v => v.category).sum + (13 * (names.length + 1) + 42) ≤ R.locals) (hRcells : cells + 1 ≤ R.cells) (hRslots : slots + 6 ≤ R.slots)
    (kk : ∀ (q : Nat) (H1 : Heap), va_P D cl (ws ++ [(q, .inr (ci, []))]) H1 → va_D A (ws ++ [(q, .inr (ci, []))]) → va_S A s.heap H1 locs → W p l e R s m args below meth c H1 locs (cells + 1) (slots + 6) Q (F0 m (pc + 7) ls (.ref q :: rest))) :
    W p l e R s m args below meth c H locs cells slots Q (F0 m pc ls rest) := by
  intro T hT X
  subst hT
  have htr : e.platform.stackTraces = false := (show e.platform.stackTraces = l.stackTraces by rw [X.admits.platform]).trans hl
  have Y := vx_rebase X (R' := { frames := R.frames, locals := R.locals, cells := 1, slots := 6 }) (Nat.le_refl _) (Nat.le_refl _) hRcells hRslots
  obtain ⟨s', hA'⟩ : ∃ z, z = (T.setVm s.vm).setFrames (.invoking m args :: below) := ⟨_, rfl⟩
  rw [← hA'] at Y
  have hvm : s'.vm = s.vm := by rw [hA']; rfl
  have hhp : s'.heap = T.heap := by rw [hA']; rfl
  have hW0 : s.WarmedH s'.vm := by rw [hvm]; exact State.WarmedH.refl s
  have hat' : ∀ w ∈ vx_at0 own ic cls names, w.before args s' = true := fun w hw => vx_ot_at hW0 hvm.symm (hgood w (List.mem_cons_of_mem _ (List.mem_cons_of_mem _ hw))) (hat w hw)
  have hk' : (Cond.classLink own ik cls).before args s' = true := vx_ot_at hW0 hvm.symm (hgood _ List.mem_cons_self) hk
  have hini' : (Cond.initialized cls).before args s' = true := vx_ot_at hW0 hvm.symm (hgood _ (List.mem_cons_of_mem _ List.mem_cons_self)) hini
  have hU' : vx_Zq Bundle.tN "UNASSIGNED_STACK" Bundle.steD A s' s'.heap := by rw [hhp]; exact vx_Zq.moved hW0.alike (hU.kept hS.2.1)
  have hN' : vx_Zq Bundle.tN "SUPPRESSED_SENTINEL" Bundle.listD A s' s'.heap := by rw [hhp]; exact vx_Zq.moved hW0.alike (hN.kept hS.2.1)
  have h : ∀ w ∈ Bundle.ownAtoms0 own ic cls names, w.before args s' = true := vx_own hat' (vx_isRefq hU'.1) (vx_isRefq hN'.1) hU'.2.word hN'.2.word
  have hown' : s'.vm.findClass own = some m.cls := by rw [hvm]; exact hown
  have hins : (Cond.instantiable cls 6).before args s' = true := h _ (by simp [Bundle.ownAtoms0])
  obtain ⟨vm₁, cX, kX, hfX, hkX, -, -, X₁, st1⟩ := Y.newCold hexec (own := own) (C := cls) (index := ik) (n := 6) hown' hk' hins hini'
    (g := F0 m pc ls rest) rfl (by rw [hb]; exact d0) (Nat.le_refl _) (Nat.le_refl _)
  generalize hT1 : (T.setVm vm₁).pushCell { cls := cX, slots := kX.instanceTypes.map defaultValue, vm := .none } = T1 at X₁ st1
  have hcat : (Value.ref T.heap.size).category = 1 := rfl
  have hcellA : T1.heap[T.heap.size]? = some (freshCell cX kX) := by rw [← hT1]; exact State.heap_pushCell_size _ _
  have d3' : decode c.code (pc + 3) = .ok (.dup, 1) := by rw [hb]; exact d3
  obtain ⟨V, ce, L, Z, hL, hlt, hcl9, hvm9, st⟩ := vx_ctorMade0 X₁ hexec htr (own := own) (cls := cls) (names := names) (ic := ic) hown' hcls hnames h (fun x hx => nomatch hx) hfX hkX hcellA (by rw [hhp]; exact Nat.le_refl _)
    (g := { method := m, pc := pc + 4, locals := ls, stack := .ref T.heap.size :: .ref T.heap.size :: rest, locked := none }) rfl hsize (rest := rest) rfl
    (by rw [hb]; exact d4) hRframes (by simp only [List.map_cons, List.sum_cons, hcat]; omega)
  have Z0 := Stand.forget (locs := []) Z (fun y hy => by rw [hL y hy, hhp]; exact Nat.le_refl _)
  obtain ⟨f1, f2⟩ := vx_frame Z0.same
  rw [hhp] at f1 f2
  have hcid : ce.cls = D.1 ci := by
    rw [hcl9]
    have h1 := (hK.1 ci _ hc).2.1
    rw [hvm] at hfX
    exact Option.some.inj (hfX.symm.trans h1)
  have hh : (V.setCell T.heap.size ce).heap[T.heap.size]? = some ce := heapAt_setCell_self (s := V) ce hlt
  subst hA'
  have X5 := vx_back9 X Y Z0
  have X6 : Stand p l e R s m args below meth c (V.setCell T.heap.size ce) locs (cells + 1) (slots + 6) := { X5 with same := X5.same.mono (by omega) (by omega) }
  have hk9 : ∀ (k : Nat) (x : Nat × va_E), ws[k]? = some x → (V.setCell T.heap.size ce).heap[x.1]? = T.heap[x.1]? := fun k x hx => f2 x.1 ((hP k x hx).lt) (fun z hz => nomatch hz)
  obtain ⟨t, a1, b1⟩ := kk T.heap.size (V.setCell T.heap.size ce).heap ((hP.kept hk9).app (fun k x hx => by
      have hz : k < 1 := (List.getElem?_eq_some_iff.mp hx).1
      rw [show k = 0 by omega] at hx
      cases hx
      exact ⟨_, hc, ce, hh, hcid, hvm9, fun k hk => absurd hk (Nat.not_lt_zero k)⟩)) (hD.push hP rfl (hA _ hS.1)) ⟨Nat.le_trans hS.1 f1, fun q h1 h2 => (f2 q (Nat.lt_of_lt_of_le h1 hS.1) (fun z hz => nomatch hz)).trans (hS.2.1 q h1 h2), hS.2.2⟩ _ rfl X6
  refine ⟨t, st1 _ ?_, b1⟩
  show Steps p.tables e below (T1.setTop { method := m, pc := pc + 3, locals := ls, stack := .ref T.heap.size :: rest, locked := none }) _
  jvm_step X₁.here [X₁.here.top, hexec, d3', Value.category]
  exact st _ a1
/-- 'throw x' of an object that was made before -/
theorem vx_athrow {cc : ByteArray} {pc : Nat} (hexec : p.tables.exec = Jvm.exec) (hb : c.code = cc) {q : Addr} (hdg : decode cc pc = .ok (.athrow, 1)) (k : vx_W p l e R s m args below meth c H locs cells slots Q (F0 m pc ls rest) q) : W p l e R s m args below meth c H locs cells slots Q (F0 m pc ls (.ref q :: rest)) := by
  intro T hT X
  obtain ⟨t, st, hq⟩ := k T hT X
  refine ⟨t, ?_, hq⟩
  have hdg' : decode c.code pc = .ok (.athrow, 1) := by rw [hb]; exact hdg
  jvm_step X.here [X.here.top, hexec, hdg', athrow.wp_sem]
  exact st
end VXK2
/-! ===== END ===== -/
/-! ===== BEGIN a constructor that throws (launches without stack traces) ===== -/
section VXIA
variable {p : Program} {l : Launch} {e : Env} {R : Room} {s : State} {m : MethodId} {args : Array Value} {below : List Frame} {meth : Method} {c : Code} {T : State} {locs : List Loc} {cells slots : Nat}
theorem vx_callI (X : Stand p l e R s m args below meth c T locs cells slots) (hexec : p.tables.exec = Jvm.exec) {own : String} {index : Nat} {y : MethodName} {bytes : ByteArray} {maxL : Nat}
    (hown : s.vm.findClass own = some m.cls) (hy1 : y.name = "<init>") (hlink : (Cond.methodLink own index y).before args s = true) (hinst : (Cond.instanceMethod y).before args s = true)
    (hcode : (Cond.code y bytes maxL none).before args s = true) (hy : y.cls ≠ "java/lang/invoke/MethodHandle" ∧ y.cls ≠ "java/lang/invoke/VarHandle")
    {W9 : Nat} {Pre : Pt → Array Value → Prop} {Post : Pt → Array Value → Option Value → Pt → Prop} {PostX : Pt → Array Value → Addr → Pt → Prop} (hK : vx_Back l R p e below s args y 3 W9 Pre Post PostX)
    {g : JFrame} (hg : g.method = m) (hsize : g.locals.size = c.maxLocals) {a : Addr} {argsL rest : List Value} (hlen : ∀ sig, parseMethodDescriptor y.desc = some sig → argsL.length = sig.parameters.length)
    (hstack : g.stack = argsL.reverse ++ .ref a :: rest) (hW : 2 * g.monitorRoom + (rest.map fun v => v.category).sum ≤ W9) (hdg : decode c.code g.pc = .ok (.invokespecial index, 3))
    (hpre : ∀ vm₁, s.WarmedH vm₁ → Pre ⟨T.setVm vm₁, locs, cells, slots⟩ (Value.ref a :: argsL).toArray) :
    (∃ (v : Option Value) (vm₁ : Vm) (B : Pt), s.WarmedH vm₁ ∧ Stand p l e R s m args below meth c B.U B.locs B.cells B.slots ∧ Post ⟨T.setVm vm₁, locs, cells, slots⟩ (Value.ref a :: argsL).toArray v B ∧
      ∀ target, Steps p.tables e below (B.U.setTop { g with pc := g.pc + 3, stack := v.toList ++ rest }) target → Steps p.tables e below (T.setTop g) target) ∨
    (∃ (q : Addr) (vm₁ : Vm) (B : Pt), s.WarmedH vm₁ ∧ Stand p l e R s m args below meth c B.U B.locs B.cells B.slots ∧ PostX ⟨T.setVm vm₁, locs, cells, slots⟩ (Value.ref a :: argsL).toArray q B ∧
      Steps p.tables e below (T.setTop g) ((B.U.setTop { g with stack := rest }).pushFrame (.throwing q))) := by
  subst hg
  have hpl : e.platform.magicAccessors = ({} : Platform).magicAccessors := by rw [X.admits.platform]
  obtain ⟨mk, methM, cM, kP, vm₁, hnamed, hmethM, hcodeM, -, hlocalsM, -, hkP, -, hW₁, hstep₁⟩ := Steps.initColdArgs (e := e) X.here hexec X.warmed hpl hown hy1 hy hlink hinst hcode (f := g) rfl hlen hstack hdg
  have X₁ := X.noted hW₁
  rcases hK g.method meth c ⟨T.setVm vm₁, locs, cells, slots⟩ { g with stack := rest } (.invokespecial index) mk (Value.ref a :: argsL).toArray X₁ rfl hsize hdg hW (X₁.named hnamed) (hpre vm₁ X₁.warmed) with ⟨v, B, X', hpost, hsteps⟩ | ⟨q, B, X', hpost, hsteps⟩
  · exact Or.inl ⟨v, vm₁, B, X₁.warmed, X', hpost, fun target h => hstep₁ _ fun acts => by rw [doInvoke_state]; exact hsteps.trans h⟩
  · exact Or.inr ⟨q, vm₁, B, X₁.warmed, X', hpost, hstep₁ _ fun acts => by rw [doInvoke_state]; exact hsteps⟩
end VXIA
section VXIB
variable {p : Program} {l : Launch} {e : Env} {R : Room} {s : State} {m : MethodId} {args : Array Value} {below : List Frame} {meth : Method} {c : Code} {H : Heap} {locs : List Loc} {cells slots : Nat}
variable {y : MethodName} {bytes cc : ByteArray} {maxL nL mc ms n index : Nat} {ret : Option FieldType} {ws : List Cond} {rm : Room} {Pc : Array Value → State → Prop} {Qc : Array Value → State → Outcome → State → Prop} {XC : String → State → State → Prop} {free : Addr → Prop} {Ts : List Cond} {own C : String} {b : Addr} {As rest : List Value} {g : JFrame}
theorem vx_runI (S : CallFix p m c cc nL s args Ts own) (hM : vx_Met l y ws rm Pc Qc XC mc ms free) (cw : CallB R s args own index y bytes maxL none ws rm mc ms n ∧ y.name = "<init>" ∧ (Cond.instanceMethod y).before args s = true) (hp : PreS s H Pc (.ref b :: As))
    (hg : g.method = m) (hn : As.length = n) (hsize : g.locals.size = nL) (hstack : g.stack = As.reverse ++ .ref b :: rest) (hW : 2 * g.monitorRoom + (rest.map fun v => v.category).sum ≤ 8) (hdg : decode cc g.pc = .ok (.invokespecial index, 3)) (hf : cells + mc ≤ R.cells ∧ slots + ms ≤ R.slots) :
    vx_Run p l e R s m args below meth c H locs cells slots mc ms g rest (Qc (Value.ref b :: As).toArray) XC free := by
  have hK : vx_Back l R p e below s args y 3 8 (PreOf R mc ms Pc) (PostOf Qc mc ms free) (vx_Post XC mc ms free) := vx_callBack cw.1 hM hp.1
  obtain ⟨⟨-, -, -, -, -, -, hcode, -, hy, hlen, hl⟩, hy1, hin⟩ := cw
  obtain ⟨hx, hb, hml, ho, -⟩ := S
  have hPc := hp.2
  intro T hT X
  rcases vx_callI X hx (bytes := bytes) (maxL := maxL) ho hy1 hl hin hcode hy hK hg (hsize.trans hml.symm) (a := b) (argsL := As) (rest := rest) (fun sig h => hn.trans (hlen sig h)) hstack hW (by rw [hb]; exact hdg)
    (fun vm₁ hW₁ => ⟨hf.1, hf.2, hPc (T.setVm vm₁) hT hW₁⟩) with ⟨v, vm₁, ⟨U', l2, c2, s2⟩, hW₁, X', ⟨g', mk, t, L, e1, e2, hq, h1, hL, h2, h3⟩, st⟩ | ⟨q, vm₁, ⟨U', l2, c2, s2⟩, hW₁, X', ⟨g', mk, t, L, E, ce, e1, e2, hq, hce, hcv, hcl, h1, hL, h2, h3⟩, st⟩
  · dsimp only [Pt.U, Pt.locs, Pt.cells, Pt.slots] at X' e1 e2 h1 h2 h3 st
    subst h1; subst h2; subst h3
    exact Or.inl ⟨v, (T.setVm vm₁).calling g' mk (Value.ref b :: As).toArray, t, U', L, hT, X', hL, e1, e2, hq, st⟩
  · dsimp only [Pt.U, Pt.locs, Pt.cells, Pt.slots] at X' e1 e2 h1 h2 h3 st hcl
    subst h1; subst h2; subst h3
    exact Or.inr ⟨q, (T.setVm vm₁).calling g' mk (Value.ref b :: As).toArray, t, U', L, E, ce, hT, X', hL, e1, e2, hq, hce, hcv, vx_cls hW₁ hcl, st⟩
end VXIB
/-! ===== END ===== -/
/-! ===== BEGIN a private constructor of a nest mate that throws ===== -/
section VXIC
variable {p : Program} {l : Launch} {e : Env} {R : Room} {s : State} {m : MethodId} {args : Array Value} {below : List Frame} {meth : Method} {c : Code} {T : State} {locs : List Loc} {cells slots : Nat}
theorem vx_callIN (X : Stand p l e R s m args below meth c T locs cells slots) (hexec : p.tables.exec = Jvm.exec) {own : String} {index : Nat} {host : String} {y : MethodName} {bytes : ByteArray} {maxL : Nat}
    (hown : s.vm.findClass own = some m.cls) (hy1 : y.name = "<init>") (hlink : (Cond.methodLinkNest own index y host).before args s = true) (hinst : (Cond.instanceMethod y).before args s = true)
    (hcode : (Cond.code y bytes maxL none).before args s = true) (hy : y.cls ≠ "java/lang/invoke/MethodHandle" ∧ y.cls ≠ "java/lang/invoke/VarHandle")
    {W9 : Nat} {Pre : Pt → Array Value → Prop} {Post : Pt → Array Value → Option Value → Pt → Prop} {PostX : Pt → Array Value → Addr → Pt → Prop} (hK : vx_Back l R p e below s args y 3 W9 Pre Post PostX)
    {g : JFrame} (hg : g.method = m) (hsize : g.locals.size = c.maxLocals) {a : Addr} {argsL rest : List Value} (hlen : ∀ sig, parseMethodDescriptor y.desc = some sig → argsL.length = sig.parameters.length)
    (hstack : g.stack = argsL.reverse ++ .ref a :: rest) (hW : 2 * g.monitorRoom + (rest.map fun v => v.category).sum ≤ W9) (hdg : decode c.code g.pc = .ok (.invokespecial index, 3))
    (hpre : ∀ vm₁, s.WarmedH vm₁ → Pre ⟨T.setVm vm₁, locs, cells, slots⟩ (Value.ref a :: argsL).toArray) :
    (∃ (v : Option Value) (vm₁ : Vm) (B : Pt), s.WarmedH vm₁ ∧ Stand p l e R s m args below meth c B.U B.locs B.cells B.slots ∧ Post ⟨T.setVm vm₁, locs, cells, slots⟩ (Value.ref a :: argsL).toArray v B ∧
      ∀ target, Steps p.tables e below (B.U.setTop { g with pc := g.pc + 3, stack := v.toList ++ rest }) target → Steps p.tables e below (T.setTop g) target) ∨
    (∃ (q : Addr) (vm₁ : Vm) (B : Pt), s.WarmedH vm₁ ∧ Stand p l e R s m args below meth c B.U B.locs B.cells B.slots ∧ PostX ⟨T.setVm vm₁, locs, cells, slots⟩ (Value.ref a :: argsL).toArray q B ∧
      Steps p.tables e below (T.setTop g) ((B.U.setTop { g with stack := rest }).pushFrame (.throwing q))) := by
  subst hg
  have hpl : e.platform.magicAccessors = ({} : Platform).magicAccessors := by rw [X.admits.platform]
  obtain ⟨mk, methM, cM, kP, vm₁, hnamed, hmethM, hcodeM, -, hlocalsM, -, hkP, -, hW₁, hstep₁⟩ := Steps.initColdArgsNest (e := e) X.here hexec X.warmed hpl hown hy1 hy hlink hinst hcode (f := g) rfl hlen hstack hdg
  have X₁ := X.noted hW₁
  rcases hK g.method meth c ⟨T.setVm vm₁, locs, cells, slots⟩ { g with stack := rest } (.invokespecial index) mk (Value.ref a :: argsL).toArray X₁ rfl hsize hdg hW (X₁.named hnamed) (hpre vm₁ X₁.warmed) with ⟨v, B, X', hpost, hsteps⟩ | ⟨q, B, X', hpost, hsteps⟩
  · exact Or.inl ⟨v, vm₁, B, X₁.warmed, X', hpost, fun target h => hstep₁ _ fun acts => by rw [doInvoke_state]; exact hsteps.trans h⟩
  · exact Or.inr ⟨q, vm₁, B, X₁.warmed, X', hpost, hstep₁ _ fun acts => by rw [doInvoke_state]; exact hsteps⟩
end VXIC
section VXID
variable {p : Program} {l : Launch} {e : Env} {R : Room} {s : State} {m : MethodId} {args : Array Value} {below : List Frame} {meth : Method} {c : Code} {H : Heap} {locs : List Loc} {cells slots : Nat}
theorem vx_runIN {y : MethodName} {bytes cc : ByteArray} {maxL nL mc ms n index : Nat} {ws : List Cond} {rm : Room} {Pc : Array Value → State → Prop} {Qc : Array Value → State → Outcome → State → Prop} {XC : String → State → State → Prop} {free : Addr → Prop} {Ts : List Cond} {own host : String} {b : Addr} {As rest : List Value} {g : JFrame}
    (S : CallFix p m c cc nL s args Ts own) (hM : vx_Met l y ws rm Pc Qc XC mc ms free) (cw : va_CN R s args own index y host bytes maxL none ws rm mc ms n ∧ y.name = "<init>" ∧ (Cond.instanceMethod y).before args s = true) (hp : PreS s H Pc (.ref b :: As))
    (hg : g.method = m) (hn : As.length = n) (hsize : g.locals.size = nL) (hstack : g.stack = As.reverse ++ .ref b :: rest) (hW : 2 * g.monitorRoom + (rest.map fun v => v.category).sum ≤ 8) (hdg : decode cc g.pc = .ok (.invokespecial index, 3)) (hf : cells + mc ≤ R.cells ∧ slots + ms ≤ R.slots) :
    vx_Run p l e R s m args below meth c H locs cells slots mc ms g rest (Qc (Value.ref b :: As).toArray) XC free := by
  obtain ⟨⟨⟨hrc, hrs, hfr, hlo, hws, hcw⟩, hcode, hini, hy, hlen, hl⟩, hx1, hx2⟩ := cw
  have hK : vx_Back l R p e below s args y 3 8 (PreOf R mc ms Pc) (PostOf Qc mc ms free) (vx_Post XC mc ms free) := vx_back (bytes := bytes) (maxL := maxL) (ret := none) hM hp.1 hrc hrs hfr hlo hws hcw (fun a' U hW => word_at hW (Or.inl (by first | rfl | simp [Cond.onTables, Cond.keeps, Cond.steady])) hini)
  obtain ⟨hx, hb, hml, ho, -⟩ := S
  have hPc := hp.2
  intro T hT X
  rcases vx_callIN X hx (bytes := bytes) (maxL := maxL) ho hx1 hl hx2 hcode hy hK hg (hsize.trans hml.symm) (a := b) (argsL := As) (rest := rest) (fun sig h => hn.trans (hlen sig h)) hstack hW (by rw [hb]; exact hdg)
    (fun vm₁ hW₁ => ⟨hf.1, hf.2, hPc (T.setVm vm₁) hT hW₁⟩) with ⟨v, vm₁, ⟨U', l2, c2, s2⟩, hW₁, X', ⟨g', mk, t, L, e1, e2, hq, h1, hL, h2, h3⟩, st⟩ | ⟨q, vm₁, ⟨U', l2, c2, s2⟩, hW₁, X', ⟨g', mk, t, L, E, ce, e1, e2, hq, hce, hcv, hcl, h1, hL, h2, h3⟩, st⟩
  · dsimp only [Pt.U, Pt.locs, Pt.cells, Pt.slots] at X' e1 e2 h1 h2 h3 st
    subst h1; subst h2; subst h3
    exact Or.inl ⟨v, (T.setVm vm₁).calling g' mk (Value.ref b :: As).toArray, t, U', L, hT, X', hL, e1, e2, hq, st⟩
  · dsimp only [Pt.U, Pt.locs, Pt.cells, Pt.slots] at X' e1 e2 h1 h2 h3 st hcl
    subst h1; subst h2; subst h3
    exact Or.inr ⟨q, (T.setVm vm₁).calling g' mk (Value.ref b :: As).toArray, t, U', L, E, ce, hT, X', hL, e1, e2, hq, hce, hcv, vx_cls hW₁ hcl, st⟩
end VXID
/-! ===== END ===== -/
/-! ===== BEGIN a method of a class above, found by the receiver, that may throw (follows va_callVU, va_runU of this kit) ===== -/
section
variable {p : Program} {l : Launch} {e : Env} {R : Room} {s : State} {m : MethodId} {args : Array Value} {below : List Frame} {meth : Method} {c : Code} {H : Heap} {locs : List Loc} {cells slots : Nat}
theorem vx_callVU {T : State} {locs : List Loc} {cells slots : Nat} (X : Stand p l e R s m args below meth c T locs cells slots) (hexec : p.tables.exec = Jvm.exec) {own C owner : String} {index : Nat} {x y : MethodName} {bytes : ByteArray} {maxL : Nat} {ret : Option FieldType}
    (hown : s.vm.findClass own = some m.cls) (hlink : (Cond.methodLink own index x).before args s = true) (hsame : (Cond.sameMethod x.cls owner x.name x.desc).before args s = true)
    (hd0 : va_Decl s ⟨owner, x.name, x.desc⟩) (howner : owner ≠ "java/lang/invoke/MethodHandle" ∧ owner ≠ "java/lang/invoke/VarHandle")
    (hsel : (Cond.selects C x y).before args s = true) (hinst : (Cond.instanceMethod y).before args s = true) (hcode : (Cond.code y bytes maxL ret).before args s = true)
    {W : Nat} {Pre : Pt → Array Value → Prop} {Post : Pt → Array Value → Option Value → Pt → Prop} {PostX : Pt → Array Value → Addr → Pt → Prop} (hK : vx_Back l R p e below s args y 3 W Pre Post PostX)
    {b : Addr} {cellB : Cell} (hcell : T.heap[b]? = some cellB) (hobj : cellB.vm.isStatics = false) (hcls : s.vm.findClass C = some cellB.cls)
    {g : JFrame} (hg : g.method = m) (hsize : g.locals.size = c.maxLocals) {argsL rest : List Value} (hlen : ∀ sig, parseMethodDescriptor x.desc = some sig → argsL.length = sig.parameters.length)
    (hstack : g.stack = argsL.reverse ++ .ref b :: rest) (hW : 2 * g.monitorRoom + (rest.map fun v => v.category).sum ≤ W) (hdg : decode c.code g.pc = .ok (.invokevirtual index, 3))
    (hpre : ∀ vm₁, s.WarmedH vm₁ → Pre ⟨T.setVm vm₁, locs, cells, slots⟩ (Value.ref b :: argsL).toArray) :
    (∃ (v : Option Value) (vm₁ : Vm) (B : Pt), s.WarmedH vm₁ ∧ Stand p l e R s m args below meth c B.U B.locs B.cells B.slots ∧ Post ⟨T.setVm vm₁, locs, cells, slots⟩ (Value.ref b :: argsL).toArray v B ∧
      ∀ target, Steps p.tables e below (B.U.setTop { g with pc := g.pc + 3, stack := v.toList ++ rest }) target → Steps p.tables e below (T.setTop g) target) ∨
    (∃ (q : Addr) (vm₁ : Vm) (B : Pt), s.WarmedH vm₁ ∧ Stand p l e R s m args below meth c B.U B.locs B.cells B.slots ∧ PostX ⟨T.setVm vm₁, locs, cells, slots⟩ (Value.ref b :: argsL).toArray q B ∧
      Steps p.tables e below (T.setTop g) ((B.U.setTop { g with stack := rest }).pushFrame (.throwing q))) := by
  obtain ⟨r0, r, hn, hrm, hstR, hsigR⟩ := hd0
  obtain ⟨cn, ck, r1, hcn, hck, hni, hf, hn1⟩ := Cond.sameMethod_found hsame
  cases hn.symm.trans hn1
  obtain ⟨mk, methM, hnamed, hmethM, -, habM⟩ := Cond.instanceMethod_spec hinst
  obtain ⟨c2, r2, m2, q1, q2, q3, q4, kP, hkP, hkPi⟩ := Cond.selects_spec hsel
  cases hcls.symm.trans q1
  cases hf.symm.trans q2
  cases hnamed.symm.trans q3
  have hselP : selectMethod e.platform s.vm cellB.cls r0 = .method mk := by rw [Launch.admits_selectMethod X.admits]; exact q4
  obtain ⟨vm₁, X₁, hstep₁⟩ := X.invokevirtualUp hexec hown hlink hsame howner hn hrm hstR (a := b) (cell := cellB) hcell
    (fun z h => by rw [h] at hobj; cases hobj) hselP hmethM habM hkP hkPi (g := g) hg (argsL := argsL) (rest := rest) (hlen _ hsigR) hstack hdg
  rcases hK m meth c ⟨T.setVm vm₁, locs, cells, slots⟩ { g with stack := rest } (.invokevirtual index) mk (Value.ref b :: argsL).toArray X₁ hg hsize hdg hW (X₁.named hnamed) (hpre vm₁ X₁.warmed) with ⟨v, B, X', hpost, hsteps⟩ | ⟨q, B, X', hpost, hsteps⟩
  · exact Or.inl ⟨v, vm₁, B, X₁.warmed, X', hpost, fun target h => hstep₁ _ fun acts => by rw [doInvoke_state]; exact hsteps.trans h⟩
  · exact Or.inr ⟨q, vm₁, B, X₁.warmed, X', hpost, hstep₁ _ fun acts => by rw [doInvoke_state]; exact hsteps⟩
theorem vx_runU {x y : MethodName} {bytes cc : ByteArray} {maxL nL mc ms n index : Nat} {ret : Option FieldType} {ws : List Cond} {rm : Room} {Pc : Array Value → State → Prop} {Qc : Array Value → State → Outcome → State → Prop} {XC : String → State → State → Prop} {free : Addr → Prop} {Ts : List Cond} {own C owner : String} {b : Addr} {As rest : List Value} {g : JFrame}
    (S : CallFix p m c cc nL s args Ts own) (hM : vx_Met l y ws rm Pc Qc XC mc ms free) (cw : va_CU R s args own C owner index x y bytes maxL ret ws rm mc ms n) (hp : PreV s H C b Pc As)
    (hg : g.method = m) (hn : As.length = n) (hsize : g.locals.size = nL) (hstack : g.stack = As.reverse ++ .ref b :: rest) (hW : 2 * g.monitorRoom + (rest.map fun v => v.category).sum ≤ 8) (hdg : decode cc g.pc = .ok (.invokevirtual index, 3)) (hf : cells + mc ≤ R.cells ∧ slots + ms ≤ R.slots) :
    vx_Run p l e R s m args below meth c H locs cells slots mc ms g rest (Qc (Value.ref b :: As).toArray) XC free := by
  obtain ⟨hrc, hrs, hfr, hlo, hws, hcw⟩ := cw.back
  have hini := cw.init
  have hK : vx_Back l R p e below s args y 3 8 (PreOf R mc ms Pc) (PostOf Qc mc ms free) (vx_Post XC mc ms free) := vx_back (bytes := bytes) (maxL := maxL) (ret := ret) hM hp.1 hrc hrs hfr hlo hws hcw (fun a' U hW => word_at hW (Or.inl (by first | rfl | simp [Cond.onTables, Cond.keeps, Cond.steady])) hini)
  obtain ⟨hx, hb, hml, ho, -⟩ := S
  obtain ⟨-, ⟨cellB, hcB, hoB, hclB⟩, hPc⟩ := hp
  intro T hT X
  rcases vx_callVU X hx (C := C) (owner := owner) (bytes := bytes) (maxL := maxL) (ret := ret) ho cw.link cw.same cw.decl cw.notMH cw.sel cw.inst cw.code hK (by rw [hT]; exact hcB) hoB hclB hg (hsize.trans hml.symm) (argsL := As) (rest := rest) (fun sig h => hn.trans (cw.len sig h)) hstack hW (by rw [hb]; exact hdg)
    (fun vm₁ hW₁ => ⟨hf.1, hf.2, hPc (T.setVm vm₁) hT hW₁⟩) with ⟨v, vm₁, ⟨U', l2, c2, s2⟩, hW₁, X', ⟨g', mk, t, L, e1, e2, hq, h1, hL, h2, h3⟩, st⟩ | ⟨q, vm₁, ⟨U', l2, c2, s2⟩, hW₁, X', ⟨g', mk, t, L, E, ce, e1, e2, hq, hce, hcv, hcl, h1, hL, h2, h3⟩, st⟩
  · dsimp only [Pt.U, Pt.locs, Pt.cells, Pt.slots] at X' e1 e2 h1 h2 h3 st
    subst h1; subst h2; subst h3
    exact Or.inl ⟨v, (T.setVm vm₁).calling g' mk (Value.ref b :: As).toArray, t, U', L, hT, X', hL, e1, e2, hq, st⟩
  · dsimp only [Pt.U, Pt.locs, Pt.cells, Pt.slots] at X' e1 e2 h1 h2 h3 st hcl
    subst h1; subst h2; subst h3
    exact Or.inr ⟨q, (T.setVm vm₁).calling g' mk (Value.ref b :: As).toArray, t, U', L, E, ce, hT, X', hL, e1, e2, hq, hce, hcv, vx_cls hW₁ hcl, st⟩
end
/-! ===== END ===== -/
/-! ===== BEGIN super.m(..) that may throw (follows va_callSU, va_runSU) ===== -/
section
variable {p : Program} {l : Launch} {e : Env} {R : Room} {s : State} {m : MethodId} {args : Array Value} {below : List Frame} {meth : Method} {c : Code} {H : Heap} {locs : List Loc} {cells slots : Nat}
theorem vx_callSU {T : State} {locs : List Loc} {cells slots : Nat} (X : Stand p l e R s m args below meth c T locs cells slots) (hexec : p.tables.exec = Jvm.exec) {own : String} {index : Nat} {y : MethodName} {bytes : ByteArray} {maxL : Nat} {ret : Option FieldType}
    (hown : s.vm.findClass own = some m.cls) (hlink : (Cond.methodLink own index y).before args s = true) (hsame : (Cond.sameMethod y.cls y.cls y.name y.desc).before args s = true) (hsup : (Cond.superclass own y.cls).before args s = true)
    (hinst : (Cond.instanceMethod y).before args s = true) (hcode : (Cond.code y bytes maxL ret).before args s = true) (hno : y.name ≠ "<init>")
    {W : Nat} {Pre : Pt → Array Value → Prop} {Post : Pt → Array Value → Option Value → Pt → Prop} {PostX : Pt → Array Value → Addr → Pt → Prop} (hK : vx_Back l R p e below s args y 3 W Pre Post PostX)
    {b : Addr} {cellB : Cell} {kB : Class} (hcell : T.heap[b]? = some cellB) (hobj : cellB.vm.isStatics = false) (hkB : s.vm.classes[cellB.cls]? = some kB)
    {g : JFrame} (hg : g.method = m) (hsize : g.locals.size = c.maxLocals) {argsL rest : List Value} (hlen : ∀ sig, parseMethodDescriptor y.desc = some sig → argsL.length = sig.parameters.length)
    (hstack : g.stack = argsL.reverse ++ .ref b :: rest) (hW : 2 * g.monitorRoom + (rest.map fun v => v.category).sum ≤ W) (hdg : decode c.code g.pc = .ok (.invokespecial index, 3))
    (hpre : ∀ vm₁, s.WarmedH vm₁ → Pre ⟨T.setVm vm₁, locs, cells, slots⟩ (Value.ref b :: argsL).toArray) :
    (∃ (v : Option Value) (vm₁ : Vm) (B : Pt), s.WarmedH vm₁ ∧ Stand p l e R s m args below meth c B.U B.locs B.cells B.slots ∧ Post ⟨T.setVm vm₁, locs, cells, slots⟩ (Value.ref b :: argsL).toArray v B ∧
      ∀ target, Steps p.tables e below (B.U.setTop { g with pc := g.pc + 3, stack := v.toList ++ rest }) target → Steps p.tables e below (T.setTop g) target) ∨
    (∃ (q : Addr) (vm₁ : Vm) (B : Pt), s.WarmedH vm₁ ∧ Stand p l e R s m args below meth c B.U B.locs B.cells B.slots ∧ PostX ⟨T.setVm vm₁, locs, cells, slots⟩ (Value.ref b :: argsL).toArray q B ∧
      Steps p.tables e below (T.setTop g) ((B.U.setTop { g with stack := rest }).pushFrame (.throwing q))) := by
  obtain ⟨mk, methM, hnamed, hmethM, hstM, habM⟩ := Cond.instanceMethod_spec hinst
  obtain ⟨methM', cM, hmethM', -, -, -, -, -, -, hsigM⟩ := Cond.code_spec hnamed hcode
  cases hmethM.symm.trans hmethM'
  obtain ⟨ps, dk, kp, hps, hdk, hkp, hsuper, -, -, hnid⟩ := Cond.superclass_spec hown hsup
  have hn : s.methodNamed? ⟨y.cls, y.name, y.desc⟩ = some mk := hnamed
  have hpm : ps = mk.cls := Option.some.inj (hps.symm.trans (findClass_of_methodNamed hnamed))
  have hsub : s.vm.isSubclass ps mk.cls = true := by rw [hpm]; simp [Vm.isSubclass, Vm.isSubclassAux]
  obtain ⟨vm₁, X₁, hstep₁⟩ := X.invokespecialUp hexec hown hlink hsame hn hmethM hstM habM hno hdk hnid hps hsuper hsub (a := b) (cell := cellB) hcell
    (fun z h => by rw [h] at hobj; cases hobj) hkB (g := g) hg (argsL := argsL) (rest := rest) (hlen _ hsigM) hstack hdg
  rcases hK m meth c ⟨T.setVm vm₁, locs, cells, slots⟩ { g with stack := rest } (.invokespecial index) mk (Value.ref b :: argsL).toArray X₁ hg hsize hdg hW (X₁.named hnamed) (hpre vm₁ X₁.warmed) with ⟨v, B, X', hpost, hsteps⟩ | ⟨q, B, X', hpost, hsteps⟩
  · exact Or.inl ⟨v, vm₁, B, X₁.warmed, X', hpost, fun target h => hstep₁ _ (by rw [doInvoke_state]; exact hsteps.trans h)⟩
  · exact Or.inr ⟨q, vm₁, B, X₁.warmed, X', hpost, hstep₁ _ (by rw [doInvoke_state]; exact hsteps)⟩
theorem vx_runSU {y : MethodName} {bytes cc : ByteArray} {maxL nL mc ms n index : Nat} {ret : Option FieldType} {ws : List Cond} {rm : Room} {Pc : Array Value → State → Prop} {Qc : Array Value → State → Outcome → State → Prop} {XC : String → State → State → Prop} {free : Addr → Prop} {Ts : List Cond} {own C : String} {cC : ClassId} {b : Addr} {As rest : List Value} {g : JFrame}
    (hat : ClassAt s C cC) (S : CallFix p m c cc nL s args Ts own) (hM : vx_Met l y ws rm Pc Qc XC mc ms free) (cw : va_CS R s args own index y bytes maxL ret ws rm mc ms n) (hp : PreV s H C b Pc As)
    (hg : g.method = m) (hn : As.length = n) (hsize : g.locals.size = nL) (hstack : g.stack = As.reverse ++ .ref b :: rest) (hW : 2 * g.monitorRoom + (rest.map fun v => v.category).sum ≤ 8) (hdg : decode cc g.pc = .ok (.invokespecial index, 3)) (hf : cells + mc ≤ R.cells ∧ slots + ms ≤ R.slots) :
    vx_Run p l e R s m args below meth c H locs cells slots mc ms g rest (Qc (Value.ref b :: As).toArray) XC free := by
  obtain ⟨⟨hrc, hrs, hfr, hlo, hws, hcw⟩, hl1, hl2, hl3, hl4, hini, hcode, hno, hlen⟩ := cw
  have hK : vx_Back l R p e below s args y 3 8 (PreOf R mc ms Pc) (PostOf Qc mc ms free) (vx_Post XC mc ms free) := vx_back (bytes := bytes) (maxL := maxL) (ret := ret) hM hp.1 hrc hrs hfr hlo hws hcw (fun a' U hW => word_at hW (Or.inl (by first | rfl | simp [Cond.onTables, Cond.keeps, Cond.steady])) hini)
  obtain ⟨hx, hb, hml, ho, -⟩ := S
  obtain ⟨-, ⟨cellB, hcB, hoB, hclB⟩, hPc⟩ := hp
  obtain ⟨hfc, kB, hkB, -⟩ := hat
  cases hfc.symm.trans hclB
  intro T hT X
  rcases vx_callSU X hx (bytes := bytes) (maxL := maxL) (ret := ret) ho hl1 hl2 hl3 hl4 hcode hno hK (by rw [hT]; exact hcB) hoB hkB hg (hsize.trans hml.symm) (argsL := As) (rest := rest) (fun sig h => hn.trans (hlen sig h)) hstack hW (by rw [hb]; exact hdg)
    (fun vm₁ hW₁ => ⟨hf.1, hf.2, hPc (T.setVm vm₁) hT hW₁⟩) with ⟨v, vm₁, ⟨U', l2, c2, s2⟩, hW₁, X', ⟨g', mk, t, L, e1, e2, hq, h1, hL, h2, h3⟩, st⟩ | ⟨q, vm₁, ⟨U', l2, c2, s2⟩, hW₁, X', ⟨g', mk, t, L, E, ce, e1, e2, hq, hce, hcv, hcl, h1, hL, h2, h3⟩, st⟩
  · dsimp only [Pt.U, Pt.locs, Pt.cells, Pt.slots] at X' e1 e2 h1 h2 h3 st
    subst h1; subst h2; subst h3
    exact Or.inl ⟨v, (T.setVm vm₁).calling g' mk (Value.ref b :: As).toArray, t, U', L, hT, X', hL, e1, e2, hq, st⟩
  · dsimp only [Pt.U, Pt.locs, Pt.cells, Pt.slots] at X' e1 e2 h1 h2 h3 st hcl
    subst h1; subst h2; subst h3
    exact Or.inr ⟨q, (T.setVm vm₁).calling g' mk (Value.ref b :: As).toArray, t, U', L, E, ce, hT, X', hL, e1, e2, hq, hce, hcv, vx_cls hW₁ hcl, st⟩
end
/-! ===== END ===== -/
/-! ===== BEGIN a private method of a nest mate that may throw (follows va_callVN, va_callSN, va_runVN, va_runSN) ===== -/
section
variable {p : Program} {l : Launch} {e : Env} {R : Room} {s : State} {m : MethodId} {args : Array Value} {below : List Frame} {meth : Method} {c : Code} {H : Heap} {locs : List Loc} {cells slots : Nat}
variable {T : State}
theorem vx_callVN (X : Stand p l e R s m args below meth c T locs cells slots) (hexec : p.tables.exec = Jvm.exec) {own C : String} {index : Nat} {host : String} {y : MethodName} {bytes : ByteArray} {maxL : Nat} {ret : Option FieldType}
    (hown : s.vm.findClass own = some m.cls) (hlink : (Cond.methodLinkNest own index y host).before args s = true) (hinst : (Cond.instanceMethod y).before args s = true) (hsel : (Cond.selects C y y).before args s = true)
    (hcode : (Cond.code y bytes maxL ret).before args s = true) (hy : y.cls ≠ "java/lang/invoke/MethodHandle" ∧ y.cls ≠ "java/lang/invoke/VarHandle")
    {W : Nat} {Pre : Pt → Array Value → Prop} {Post : Pt → Array Value → Option Value → Pt → Prop} {PostX : Pt → Array Value → Addr → Pt → Prop} (hK : vx_Back l R p e below s args y 3 W Pre Post PostX)
    {b : Addr} {cellB : Cell} (hcell : T.heap[b]? = some cellB) (hobj : cellB.vm.isStatics = false) (hcls : s.vm.findClass C = some cellB.cls)
    {g : JFrame} (hg : g.method = m) (hsize : g.locals.size = c.maxLocals) {argsL rest : List Value} (hlen : ∀ sig, parseMethodDescriptor y.desc = some sig → argsL.length = sig.parameters.length)
    (hstack : g.stack = argsL.reverse ++ .ref b :: rest) (hW : 2 * g.monitorRoom + (rest.map fun v => v.category).sum ≤ W) (hdg : decode c.code g.pc = .ok (.invokevirtual index, 3))
    (hpre : ∀ vm₁, s.WarmedH vm₁ → Pre ⟨T.setVm vm₁, locs, cells, slots⟩ (Value.ref b :: argsL).toArray) :
    (∃ (v : Option Value) (vm₁ : Vm) (B : Pt), s.WarmedH vm₁ ∧ Stand p l e R s m args below meth c B.U B.locs B.cells B.slots ∧ Post ⟨T.setVm vm₁, locs, cells, slots⟩ (Value.ref b :: argsL).toArray v B ∧
      ∀ target, Steps p.tables e below (B.U.setTop { g with pc := g.pc + 3, stack := v.toList ++ rest }) target → Steps p.tables e below (T.setTop g) target) ∨
    (∃ (q : Addr) (vm₁ : Vm) (B : Pt), s.WarmedH vm₁ ∧ Stand p l e R s m args below meth c B.U B.locs B.cells B.slots ∧ PostX ⟨T.setVm vm₁, locs, cells, slots⟩ (Value.ref b :: argsL).toArray q B ∧
      Steps p.tables e below (T.setTop g) ((B.U.setTop { g with stack := rest }).pushFrame (.throwing q))) := by
  obtain ⟨mk, methM, hnamed, hmethM, hstM, habM⟩ := Cond.instanceMethod_spec hinst
  obtain ⟨methM', cM, hmethM', -, -, -, -, -, -, hsigM⟩ := Cond.code_spec hnamed hcode
  cases hmethM.symm.trans hmethM'
  obtain ⟨c2, r2, m2, q1, q2, q3, q4, kP, hkP, hkPi⟩ := Cond.selects_spec hsel
  cases hcls.symm.trans q1
  cases (State.methodFound?_of_named hnamed hy).symm.trans q2
  cases hnamed.symm.trans q3
  have hselP : selectMethod e.platform s.vm cellB.cls mk = .method mk := by rw [Launch.admits_selectMethod X.admits]; exact q4
  obtain ⟨vm₁, X₁, hstep₁⟩ := X.invokevirtualNest hexec hown hlink hnamed hmethM hstM hkP hkPi hy (a := b) (cell := cellB) hcell
    (fun z h => by rw [h] at hobj; cases hobj) hselP hmethM habM hkP hkPi (g := g) hg (argsL := argsL) (rest := rest) (hlen _ hsigM) hstack hdg
  rcases hK m meth c ⟨T.setVm vm₁, locs, cells, slots⟩ { g with stack := rest } (.invokevirtual index) mk (Value.ref b :: argsL).toArray X₁ hg hsize hdg hW (X₁.named hnamed) (hpre vm₁ X₁.warmed) with ⟨v, B, X', hpost, hsteps⟩ | ⟨q, B, X', hpost, hsteps⟩
  · exact Or.inl ⟨v, vm₁, B, X₁.warmed, X', hpost, fun target h => hstep₁ _ fun acts => by rw [doInvoke_state]; exact hsteps.trans h⟩
  · exact Or.inr ⟨q, vm₁, B, X₁.warmed, X', hpost, hstep₁ _ fun acts => by rw [doInvoke_state]; exact hsteps⟩
theorem vx_callSN (X : Stand p l e R s m args below meth c T locs cells slots) (hexec : p.tables.exec = Jvm.exec) {own : String} {index : Nat} {host : String} {y : MethodName} {bytes : ByteArray} {maxL : Nat} {ret : Option FieldType}
    (hown : s.vm.findClass own = some m.cls) (hlink : (Cond.methodLinkNest own index y host).before args s = true) (hstat : (Cond.static y).before args s = true) (hinit : (Cond.initialized y.cls).before args s = true)
    (hcode : (Cond.code y bytes maxL ret).before args s = true) (hy : y.cls ≠ "java/lang/invoke/MethodHandle" ∧ y.cls ≠ "java/lang/invoke/VarHandle")
    {W : Nat} {Pre : Pt → Array Value → Prop} {Post : Pt → Array Value → Option Value → Pt → Prop} {PostX : Pt → Array Value → Addr → Pt → Prop} (hK : vx_Back l R p e below s args y 3 W Pre Post PostX)
    {g : JFrame} (hg : g.method = m) (hsize : g.locals.size = c.maxLocals) {argsL rest : List Value} (hlen : ∀ sig, parseMethodDescriptor y.desc = some sig → argsL.length = sig.parameters.length)
    (hstack : g.stack = argsL.reverse ++ rest) (hW : 2 * g.monitorRoom + (rest.map fun v => v.category).sum ≤ W) (hdg : decode c.code g.pc = .ok (.invokestatic index, 3))
    (hpre : ∀ vm₁, s.WarmedH vm₁ → Pre ⟨T.setVm vm₁, locs, cells, slots⟩ argsL.toArray) :
    (∃ (v : Option Value) (vm₁ : Vm) (B : Pt), s.WarmedH vm₁ ∧ Stand p l e R s m args below meth c B.U B.locs B.cells B.slots ∧ Post ⟨T.setVm vm₁, locs, cells, slots⟩ argsL.toArray v B ∧
      ∀ target, Steps p.tables e below (B.U.setTop { g with pc := g.pc + 3, stack := v.toList ++ rest }) target → Steps p.tables e below (T.setTop g) target) ∨
    (∃ (q : Addr) (vm₁ : Vm) (B : Pt), s.WarmedH vm₁ ∧ Stand p l e R s m args below meth c B.U B.locs B.cells B.slots ∧ PostX ⟨T.setVm vm₁, locs, cells, slots⟩ argsL.toArray q B ∧
      Steps p.tables e below (T.setTop g) ((B.U.setTop { g with stack := rest }).pushFrame (.throwing q))) := by
  obtain ⟨mk, hnamed⟩ := Cond.code_named hcode
  obtain ⟨methM, cM, hmethM, -, -, -, -, -, -, hsigM⟩ := Cond.code_spec hnamed hcode
  have hstatic : methM.isStatic = true := Cond.static_spec hnamed hmethM hstat
  obtain ⟨kP, hkP, -⟩ := className_of_methodNamed hnamed
  have hinitP : kP.init = .initialized := Cond.initialized_spec (findClass_of_methodNamed hnamed) hkP hinit
  obtain ⟨vm₁, X₁, hstep₁⟩ := X.invokestaticNest hexec hown hlink hnamed hmethM hstatic hkP hinitP hy (g := g) hg (argsL := argsL) (rest := rest) (hlen _ hsigM) hstack hdg
  rcases hK m meth c ⟨T.setVm vm₁, locs, cells, slots⟩ { g with stack := rest } (.invokestatic index) mk argsL.toArray X₁ hg hsize hdg hW (X₁.named hnamed) (hpre vm₁ X₁.warmed) with ⟨v, B, X', hpost, hsteps⟩ | ⟨q, B, X', hpost, hsteps⟩
  · exact Or.inl ⟨v, vm₁, B, X₁.warmed, X', hpost, fun target h => hstep₁ _ fun acts => by rw [doInvoke_state]; exact hsteps.trans h⟩
  · exact Or.inr ⟨q, vm₁, B, X₁.warmed, X', hpost, hstep₁ _ fun acts => by rw [doInvoke_state]; exact hsteps⟩
theorem vx_runVN {y : MethodName} {bytes cc : ByteArray} {maxL nL mc ms n index : Nat} {ret : Option FieldType} {ws : List Cond} {rm : Room} {Pc : Array Value → State → Prop} {Qc : Array Value → State → Outcome → State → Prop} {XC : String → State → State → Prop} {free : Addr → Prop} {Ts : List Cond} {own C host : String} {b : Addr} {As rest : List Value} {g : JFrame}
    (S : CallFix p m c cc nL s args Ts own) (hM : vx_Met l y ws rm Pc Qc XC mc ms free) (cw : va_CN R s args own index y host bytes maxL ret ws rm mc ms n ∧ (Cond.instanceMethod y).before args s = true ∧ (Cond.selects C y y).before args s = true) (hp : PreV s H C b Pc As)
    (hg : g.method = m) (hn : As.length = n) (hsize : g.locals.size = nL) (hstack : g.stack = As.reverse ++ .ref b :: rest) (hW : 2 * g.monitorRoom + (rest.map fun v => v.category).sum ≤ 8) (hdg : decode cc g.pc = .ok (.invokevirtual index, 3)) (hf : cells + mc ≤ R.cells ∧ slots + ms ≤ R.slots) :
    vx_Run p l e R s m args below meth c H locs cells slots mc ms g rest (Qc (Value.ref b :: As).toArray) XC free := by
  obtain ⟨⟨⟨hrc, hrs, hfr, hlo, hws, hcw⟩, hcode, hini, hy, hlen, hl⟩, hx1, hx2⟩ := cw
  have hK : vx_Back l R p e below s args y 3 8 (PreOf R mc ms Pc) (PostOf Qc mc ms free) (vx_Post XC mc ms free) := vx_back (bytes := bytes) (maxL := maxL) (ret := ret) hM hp.1 hrc hrs hfr hlo hws hcw (fun a' U hW => word_at hW (Or.inl (by first | rfl | simp [Cond.onTables, Cond.keeps, Cond.steady])) hini)
  obtain ⟨hx, hb, hml, ho, -⟩ := S
  obtain ⟨-, ⟨cellB, hcB, hoB, hclB⟩, hPc⟩ := hp
  intro T hT X
  rcases vx_callVN X hx (C := C) (bytes := bytes) (maxL := maxL) (ret := ret) ho hl hx1 hx2 hcode hy hK (by rw [hT]; exact hcB) hoB hclB hg (hsize.trans hml.symm) (argsL := As) (rest := rest) (fun sig h => hn.trans (hlen sig h)) hstack hW (by rw [hb]; exact hdg)
    (fun vm₁ hW₁ => ⟨hf.1, hf.2, hPc (T.setVm vm₁) hT hW₁⟩) with ⟨v, vm₁, ⟨U', l2, c2, s2⟩, hW₁, X', ⟨g', mk, t, L, e1, e2, hq, h1, hL, h2, h3⟩, st⟩ | ⟨q, vm₁, ⟨U', l2, c2, s2⟩, hW₁, X', ⟨g', mk, t, L, E, ce, e1, e2, hq, hce, hcv, hcl, h1, hL, h2, h3⟩, st⟩
  · dsimp only [Pt.U, Pt.locs, Pt.cells, Pt.slots] at X' e1 e2 h1 h2 h3 st
    subst h1; subst h2; subst h3
    exact Or.inl ⟨v, (T.setVm vm₁).calling g' mk (Value.ref b :: As).toArray, t, U', L, hT, X', hL, e1, e2, hq, st⟩
  · dsimp only [Pt.U, Pt.locs, Pt.cells, Pt.slots] at X' e1 e2 h1 h2 h3 st hcl
    subst h1; subst h2; subst h3
    exact Or.inr ⟨q, (T.setVm vm₁).calling g' mk (Value.ref b :: As).toArray, t, U', L, E, ce, hT, X', hL, e1, e2, hq, hce, hcv, vx_cls hW₁ hcl, st⟩
theorem vx_runSN {y : MethodName} {bytes cc : ByteArray} {maxL nL mc ms n index : Nat} {ret : Option FieldType} {ws : List Cond} {rm : Room} {Pc : Array Value → State → Prop} {Qc : Array Value → State → Outcome → State → Prop} {XC : String → State → State → Prop} {free : Addr → Prop} {Ts : List Cond} {own host : String} {As rest : List Value} {g : JFrame}
    (S : CallFix p m c cc nL s args Ts own) (hM : vx_Met l y ws rm Pc Qc XC mc ms free) (cw : va_CN R s args own index y host bytes maxL ret ws rm mc ms n ∧ (Cond.static y).before args s = true ∧ True) (hp : PreS s H Pc As)
    (hg : g.method = m) (hn : As.length = n) (hsize : g.locals.size = nL) (hstack : g.stack = As.reverse ++ rest) (hW : 2 * g.monitorRoom + (rest.map fun v => v.category).sum ≤ 8) (hdg : decode cc g.pc = .ok (.invokestatic index, 3)) (hf : cells + mc ≤ R.cells ∧ slots + ms ≤ R.slots) :
    vx_Run p l e R s m args below meth c H locs cells slots mc ms g rest (Qc As.toArray) XC free := by
  obtain ⟨⟨⟨hrc, hrs, hfr, hlo, hws, hcw⟩, hcode, hini, hy, hlen, hl⟩, hx1, hx2⟩ := cw
  have hK : vx_Back l R p e below s args y 3 8 (PreOf R mc ms Pc) (PostOf Qc mc ms free) (vx_Post XC mc ms free) := vx_back (bytes := bytes) (maxL := maxL) (ret := ret) hM hp.1 hrc hrs hfr hlo hws hcw (fun a' U hW => word_at hW (Or.inl (by first | rfl | simp [Cond.onTables, Cond.keeps, Cond.steady])) hini)
  obtain ⟨hx, hb, hml, ho, -⟩ := S
  have hPc := hp.2
  intro T hT X
  rcases vx_callSN X hx (bytes := bytes) (maxL := maxL) (ret := ret) ho hl hx1 hini hcode hy hK hg (hsize.trans hml.symm) (argsL := As) (rest := rest) (fun sig h => hn.trans (hlen sig h)) hstack hW (by rw [hb]; exact hdg)
    (fun vm₁ hW₁ => ⟨hf.1, hf.2, hPc (T.setVm vm₁) hT hW₁⟩) with ⟨v, vm₁, ⟨U', l2, c2, s2⟩, hW₁, X', ⟨g', mk, t, L, e1, e2, hq, h1, hL, h2, h3⟩, st⟩ | ⟨q, vm₁, ⟨U', l2, c2, s2⟩, hW₁, X', ⟨g', mk, t, L, E, ce, e1, e2, hq, hce, hcv, hcl, h1, hL, h2, h3⟩, st⟩
  · dsimp only [Pt.U, Pt.locs, Pt.cells, Pt.slots] at X' e1 e2 h1 h2 h3 st
    subst h1; subst h2; subst h3
    exact Or.inl ⟨v, (T.setVm vm₁).calling g' mk As.toArray, t, U', L, hT, X', hL, e1, e2, hq, st⟩
  · dsimp only [Pt.U, Pt.locs, Pt.cells, Pt.slots] at X' e1 e2 h1 h2 h3 st hcl
    subst h1; subst h2; subst h3
    exact Or.inr ⟨q, (T.setVm vm₁).calling g' mk As.toArray, t, U', L, E, ce, hT, X', hL, e1, e2, hq, hce, hcv, vx_cls hW₁ hcl, st⟩
end
/-! ===== END ===== -/
/-! ===== BEGIN calls by an interface of methods that may throw (vx_callIF, vx_runF follow va_callIF, va_runF of this kit) ===== -/
section
variable {p : Program} {l : Launch} {e : Env} {R : Room} {s : State} {m : MethodId} {args : Array Value} {below : List Frame} {meth : Method} {c : Code} {H : Heap} {locs : List Loc} {cells slots : Nat} {Q : State → Prop}
variable {mc ms : Nat} {free : Addr → Prop} {A0 A1 : Nat → Prop} {H0 : Heap} {a : Array Value} {pc : Nat} {ls : Array Slot} {st0 rest : List Value}
def vx_Run5 (p : Program) (l : Launch) (e : Env) (R : Room) (s : State) (m : MethodId) (args : Array Value) (below : List Frame) (meth : Method) (c : Code) (H : Heap) (locs : List Loc) (cells slots mc ms : Nat) (g : JFrame) (rest : List Value) (Qa : State → Outcome → State → Prop) (XC : String → State → State → Prop) (free : Addr → Prop) : Prop :=
  ∀ T : State, T.heap = H → Stand p l e R s m args below meth c T locs cells slots →
    (∃ (v : Option Value) (st₀ t T' : State) (L : List Loc), st₀.heap = H ∧ Stand p l e R s m args below meth c T' (locs ++ L) (cells + mc) (slots + ms) ∧ (∀ q ∈ L, free q.base) ∧ T'.heap = t.heap ∧ T'.vm = t.vm ∧ Qa st₀ (.returned v) t ∧
      Goes p e below T g T' { g with pc := g.pc + 5, stack := v.toList ++ rest }) ∨
    (∃ (q : Addr) (st₀ t T' : State) (L : List Loc) (E : String) (ce : Cell), st₀.heap = H ∧ Stand p l e R s m args below meth c T' (locs ++ L) (cells + mc) (slots + ms) ∧ (∀ z ∈ L, free z.base) ∧ T'.heap = t.heap ∧ T'.vm = t.vm ∧ XC E st₀ t ∧ t.heap[q]? = some ce ∧ ce.vm = .none ∧ s.vm.findClass E = some ce.cls ∧
      Steps p.tables e below (T.setTop g) ((T'.setTop { g with stack := rest }).pushFrame (.throwing q)))
theorem vx_callIF {T : State} (X : Stand p l e R s m args below meth c T locs cells slots) (hexec : p.tables.exec = Jvm.exec) {own C : String} {index count : Nat} {x y : MethodName} {bytes : ByteArray} {maxL : Nat} {ret : Option FieldType}
    (hown : s.vm.findClass own = some m.cls) (hlink : (Cond.methodLink own index x).before args s = true) (hdecl : (Cond.declares x).before args s = true) (hface : (Cond.interfaceMethod x.cls x.cls x.name x.desc).before args s = true)
    (hsel : (Cond.selects C x y).before args s = true) (hinst : (Cond.instanceMethod y).before args s = true) (hpub : (Cond.publicMethod y).before args s = true) (hunh : (Cond.unhidden C x.name x.desc).before args s = true)
    (hcast : (Cond.castable C x.cls).before args s = true) (hcode : (Cond.code y bytes maxL ret).before args s = true) (hx : x.cls ≠ "java/lang/invoke/MethodHandle" ∧ x.cls ≠ "java/lang/invoke/VarHandle")
    {W9 : Nat} {Pre : Pt → Array Value → Prop} {Post : Pt → Array Value → Option Value → Pt → Prop} {PostX : Pt → Array Value → Addr → Pt → Prop} (hK : vx_Back l R p e below s args y 5 W9 Pre Post PostX)
    {b : Addr} {cellB : Cell} {kB : Class} (hcell : T.heap[b]? = some cellB) (hobj : cellB.vm.isStatics = false) (hcls : s.vm.findClass C = some cellB.cls) (hkB : s.vm.classes[cellB.cls]? = some kB)
    {g : JFrame} (hg : g.method = m) (hsize : g.locals.size = c.maxLocals) {argsL rest : List Value} (hlen : ∀ sig, parseMethodDescriptor x.desc = some sig → argsL.length = sig.parameters.length)
    (hstack : g.stack = argsL.reverse ++ .ref b :: rest) (hW : 2 * g.monitorRoom + (rest.map fun v => v.category).sum ≤ W9) (hdg : decode c.code g.pc = .ok (.invokeinterface index count, 5))
    (hpre : ∀ vm₁, s.WarmedH vm₁ → Pre ⟨T.setVm vm₁, locs, cells, slots⟩ (Value.ref b :: argsL).toArray) :
    (∃ (v : Option Value) (vm₁ : Vm) (B : Pt), s.WarmedH vm₁ ∧ Stand p l e R s m args below meth c B.U B.locs B.cells B.slots ∧ Post ⟨T.setVm vm₁, locs, cells, slots⟩ (Value.ref b :: argsL).toArray v B ∧
      ∀ target, Steps p.tables e below (B.U.setTop { g with pc := g.pc + 5, stack := v.toList ++ rest }) target → Steps p.tables e below (T.setTop g) target) ∨
    (∃ (q : Addr) (vm₁ : Vm) (B : Pt), s.WarmedH vm₁ ∧ Stand p l e R s m args below meth c B.U B.locs B.cells B.slots ∧ PostX ⟨T.setVm vm₁, locs, cells, slots⟩ (Value.ref b :: argsL).toArray q B ∧
      Steps p.tables e below (T.setTop g) ((B.U.setTop { g with stack := rest }).pushFrame (.throwing q))) := by
  obtain ⟨r0, r, hn, hrm, hstR, hsigR⟩ := Cond.declares_spec hdecl
  obtain ⟨cL, kL, r1, hcL, hkL, hiL, hfoundL, hn1⟩ := Cond.interfaceMethod_spec hface
  cases hn.symm.trans hn1
  have hr0cls : r0.cls = cL := Option.some.inj ((findClass_of_methodNamed hn).symm.trans hcL)
  obtain ⟨hnameR, hdescR⟩ := name_of_methodNamed hn hrm
  obtain ⟨mk, methM, hnamed, hmethM, -, habM⟩ := Cond.instanceMethod_spec hinst
  obtain ⟨c2, r2, m2, q1, q2, q3, q4, -⟩ := Cond.selects_spec hsel
  cases hcls.symm.trans q1
  cases hfoundL.symm.trans q2
  cases hnamed.symm.trans q3
  have hselP : selectMethod e.platform s.vm cellB.cls r0 = .method mk := by rw [Launch.admits_selectMethod X.admits]; exact q4
  have hpubM : hasFlag methM.accessFlags Acc.public_ = true := Cond.publicMethod_spec hnamed hmethM hpub
  have hway : ((cellB.cls :: s.vm.superclasses cellB.cls).any fun k => (declaredIn s.vm r.name r.desc k).any fun (_, z) => z.isPrivate || z.isStatic) = false := by
    rw [hnameR, hdescR]; exact Cond.unhidden_spec hcls hunh
  obtain ⟨c3, t3, w1, w2, w3⟩ := Cond.castable_spec hcast
  cases hcls.symm.trans w1
  cases hcL.symm.trans w2
  obtain ⟨vm₁, X₁, hstep₁⟩ := X.invokeinterface hexec hown hlink hn hrm hstR (by rw [hr0cls]; exact hkL) hiL hx (a := b) (cell := cellB) (kcell := kB) hcell
    (fun z h => by rw [h] at hobj; cases hobj) hkB (by rw [hr0cls]; exact w3) hselP hmethM hway hpubM habM (g := g) hg (argsL := argsL) (rest := rest) (hlen _ hsigR) hstack hdg
  rcases hK m meth c ⟨T.setVm vm₁, locs, cells, slots⟩ { g with stack := rest } (.invokeinterface index count) mk (Value.ref b :: argsL).toArray X₁ hg hsize hdg hW (X₁.named hnamed) (hpre vm₁ X₁.warmed) with ⟨v, B, X', hpost, hsteps⟩ | ⟨q, B, X', hpost, hsteps⟩
  · exact Or.inl ⟨v, vm₁, B, X₁.warmed, X', hpost, fun target h => hstep₁ _ fun acts => by rw [doInvoke_state]; exact hsteps.trans h⟩
  · exact Or.inr ⟨q, vm₁, B, X₁.warmed, X', hpost, hstep₁ _ fun acts => by rw [doInvoke_state]; exact hsteps⟩
theorem vx_runF {x y : MethodName} {bytes cc : ByteArray} {maxL nL mc ms n index count : Nat} {ret : Option FieldType} {ws : List Cond} {rm : Room} {Pc : Array Value → State → Prop} {Qc : Array Value → State → Outcome → State → Prop} {XC : String → State → State → Prop} {free : Addr → Prop} {Ts : List Cond} {own C : String} {cC : ClassId} {b : Addr} {As rest : List Value} {g : JFrame}
    (hat : ClassAt s C cC) (S : CallFix p m c cc nL s args Ts own) (hM : vx_Met l y ws rm Pc Qc XC mc ms free) (cw : va_CI R s args own C index x y bytes maxL ret ws rm mc ms n) (hp : PreV s H C b Pc As)
    (hg : g.method = m) (hn : As.length = n) (hsize : g.locals.size = nL) (hstack : g.stack = As.reverse ++ .ref b :: rest) (hW : 2 * g.monitorRoom + (rest.map fun v => v.category).sum ≤ 8) (hdg : decode cc g.pc = .ok (.invokeinterface index count, 5)) (hf : cells + mc ≤ R.cells ∧ slots + ms ≤ R.slots) :
    vx_Run5 p l e R s m args below meth c H locs cells slots mc ms g rest (Qc (Value.ref b :: As).toArray) XC free := by
  obtain ⟨hrc, hrs, hfr, hlo, hws, hcw⟩ := cw.back
  have hini := cw.init
  have hK : vx_Back l R p e below s args y 5 8 (PreOf R mc ms Pc) (PostOf Qc mc ms free) (vx_Post XC mc ms free) := vx_back (bytes := bytes) (maxL := maxL) (ret := ret) hM hp.1 hrc hrs hfr hlo hws hcw (fun a' U hW => word_at hW (Or.inl (by first | rfl | simp [Cond.onTables, Cond.keeps, Cond.steady])) hini)
  obtain ⟨hx, hb, hml, ho, -⟩ := S
  obtain ⟨-, ⟨cellB, hcB, hoB, hclB⟩, hPc⟩ := hp
  obtain ⟨hfc, kB, hkB, -⟩ := hat
  cases hfc.symm.trans hclB
  intro T hT X
  rcases vx_callIF X hx (C := C) (bytes := bytes) (maxL := maxL) (ret := ret) ho cw.link cw.decl cw.face cw.sel cw.inst cw.pub cw.unh cw.cast cw.code cw.notMH hK (by rw [hT]; exact hcB) hoB hclB hkB hg (hsize.trans hml.symm) (argsL := As) (rest := rest) (fun sig h => hn.trans (cw.len sig h)) hstack hW (by rw [hb]; exact hdg)
    (fun vm₁ hW₁ => ⟨hf.1, hf.2, hPc (T.setVm vm₁) hT hW₁⟩) with ⟨v, vm₁, ⟨U', l2, c2, s2⟩, hW₁, X', ⟨g', mk, t, L, e1, e2, hq, h1, hL, h2, h3⟩, st⟩ | ⟨q, vm₁, ⟨U', l2, c2, s2⟩, hW₁, X', ⟨g', mk, t, L, E, ce, e1, e2, hq, hce, hcv, hcl, h1, hL, h2, h3⟩, st⟩
  · dsimp only [Pt.U, Pt.locs, Pt.cells, Pt.slots] at X' e1 e2 h1 h2 h3 st
    subst h1; subst h2; subst h3
    exact Or.inl ⟨v, (T.setVm vm₁).calling g' mk (Value.ref b :: As).toArray, t, U', L, hT, X', hL, e1, e2, hq, st⟩
  · dsimp only [Pt.U, Pt.locs, Pt.cells, Pt.slots] at X' e1 e2 h1 h2 h3 st hcl
    subst h1; subst h2; subst h3
    exact Or.inr ⟨q, (T.setVm vm₁).calling g' mk (Value.ref b :: As).toArray, t, U', L, E, ce, hT, X', hL, e1, e2, hq, hce, hcv, vx_cls hW₁ hcl, st⟩
theorem vx_callFv {S SX : Type} {post : S → Prop} {px : SX → Prop} {B : S → State → Prop} {BX : String → SX → State → Prop} {AX : Nat → Prop} (hr : vx_Run5 p l e R s m args below meth c H locs cells slots mc ms (F0 m pc ls st0) rest (va_Qv post B A1 a) (vx_X px BX AX) free) (hS : va_S A0 H0 H locs) (hA : ∀ q, q < H.size → A1 q → A0 q) (hf : ∀ q, free q → A0 q) (hAX : ∀ q, q < H.size → AX q → A0 q)
    (kx : ∀ (E : String) (ce : Cell) (q9 : Addr) (u : SX) (t : State) (H1 : Heap) (locs1 : List Loc), t.heap = H1 → s.vm.Alike t.vm → px u → BX E u t → H.size ≤ H1.size → (∀ q : Nat, q < H.size → ¬ AX q → H1[q]? = H[q]?) → va_S A0 H0 H1 locs1 → H1[q9]? = some ce → ce.vm = .none → s.vm.findClass E = some ce.cls → vx_W p l e R s m args below meth c H1 locs1 (cells + mc) (slots + ms) Q (F0 m pc ls rest) q9)
    (kk : ∀ (u : S) (t : State) (H1 : Heap) (locs1 : List Loc), t.heap = H1 → s.vm.Alike t.vm → post u → B u t → H.size ≤ H1.size → (∀ q : Nat, q < H.size → ¬ A1 q → H1[q]? = H[q]?) → va_S A0 H0 H1 locs1 → W p l e R s m args below meth c H1 locs1 (cells + mc) (slots + ms) Q (F0 m (pc + 5) ls (rest))) : W p l e R s m args below meth c H locs cells slots Q (F0 m pc ls st0) := by
  intro T hT X
  rcases hr T hT X with ⟨v, st₀, t, T', L, h0, X', hL, e1, e2, ⟨⟨u, hv, hp, hb⟩, hF⟩, st⟩ | ⟨q, st₀, t, T', L, E, ce, h0, X', hL, e1, e2, ⟨u, hp, hb, hF⟩, hce, hcv, hcl, st⟩
  · cases hv
    obtain ⟨k1, k2, k3⟩ := vx_keep h0 e1 hS hA hf hL hF
    obtain ⟨t2, a1, b1⟩ := kk u t T'.heap (locs ++ L) e1.symm (by rw [← e2]; exact X'.warmed.alike) hp hb k1 k2 k3 T' rfl X'
    exact ⟨t2, st t2 a1, b1⟩
  · obtain ⟨k1, k2, k3⟩ := vx_keep h0 e1 hS hAX hf hL hF
    obtain ⟨t2, a1, b1⟩ := kx E ce q u t T'.heap (locs ++ L) e1.symm (by rw [← e2]; exact X'.warmed.alike) hp hb k1 k2 k3 (by rw [e1]; exact hce) hcv hcl T' rfl X'
    exact ⟨t2, st.trans a1, b1⟩
theorem vx_callFi {S SX : Type} {post : Int32 → S → Prop} {px : SX → Prop} {B : S → State → Prop} {BX : String → SX → State → Prop} {AX : Nat → Prop} (hr : vx_Run5 p l e R s m args below meth c H locs cells slots mc ms (F0 m pc ls st0) rest (va_Qi post B A1 a) (vx_X px BX AX) free) (hS : va_S A0 H0 H locs) (hA : ∀ q, q < H.size → A1 q → A0 q) (hf : ∀ q, free q → A0 q) (hAX : ∀ q, q < H.size → AX q → A0 q)
    (kx : ∀ (E : String) (ce : Cell) (q9 : Addr) (u : SX) (t : State) (H1 : Heap) (locs1 : List Loc), t.heap = H1 → s.vm.Alike t.vm → px u → BX E u t → H.size ≤ H1.size → (∀ q : Nat, q < H.size → ¬ AX q → H1[q]? = H[q]?) → va_S A0 H0 H1 locs1 → H1[q9]? = some ce → ce.vm = .none → s.vm.findClass E = some ce.cls → vx_W p l e R s m args below meth c H1 locs1 (cells + mc) (slots + ms) Q (F0 m pc ls rest) q9)
    (kk : ∀ (r : Int32) (u : S) (t : State) (H1 : Heap) (locs1 : List Loc), t.heap = H1 → s.vm.Alike t.vm → post r u → B u t → H.size ≤ H1.size → (∀ q : Nat, q < H.size → ¬ A1 q → H1[q]? = H[q]?) → va_S A0 H0 H1 locs1 → W p l e R s m args below meth c H1 locs1 (cells + mc) (slots + ms) Q (F0 m (pc + 5) ls (.int r :: rest))) : W p l e R s m args below meth c H locs cells slots Q (F0 m pc ls st0) := by
  intro T hT X
  rcases hr T hT X with ⟨v, st₀, t, T', L, h0, X', hL, e1, e2, ⟨⟨r, u, hv, hp, hb⟩, hF⟩, st⟩ | ⟨q, st₀, t, T', L, E, ce, h0, X', hL, e1, e2, ⟨u, hp, hb, hF⟩, hce, hcv, hcl, st⟩
  · cases hv
    obtain ⟨k1, k2, k3⟩ := vx_keep h0 e1 hS hA hf hL hF
    obtain ⟨t2, a1, b1⟩ := kk r u t T'.heap (locs ++ L) e1.symm (by rw [← e2]; exact X'.warmed.alike) hp hb k1 k2 k3 T' rfl X'
    exact ⟨t2, st t2 a1, b1⟩
  · obtain ⟨k1, k2, k3⟩ := vx_keep h0 e1 hS hAX hf hL hF
    obtain ⟨t2, a1, b1⟩ := kx E ce q u t T'.heap (locs ++ L) e1.symm (by rw [← e2]; exact X'.warmed.alike) hp hb k1 k2 k3 (by rw [e1]; exact hce) hcv hcl T' rfl X'
    exact ⟨t2, st.trans a1, b1⟩
theorem vx_callFl {S SX : Type} {post : Int64 → S → Prop} {px : SX → Prop} {B : S → State → Prop} {BX : String → SX → State → Prop} {AX : Nat → Prop} (hr : vx_Run5 p l e R s m args below meth c H locs cells slots mc ms (F0 m pc ls st0) rest (va_Ql post B A1 a) (vx_X px BX AX) free) (hS : va_S A0 H0 H locs) (hA : ∀ q, q < H.size → A1 q → A0 q) (hf : ∀ q, free q → A0 q) (hAX : ∀ q, q < H.size → AX q → A0 q)
    (kx : ∀ (E : String) (ce : Cell) (q9 : Addr) (u : SX) (t : State) (H1 : Heap) (locs1 : List Loc), t.heap = H1 → s.vm.Alike t.vm → px u → BX E u t → H.size ≤ H1.size → (∀ q : Nat, q < H.size → ¬ AX q → H1[q]? = H[q]?) → va_S A0 H0 H1 locs1 → H1[q9]? = some ce → ce.vm = .none → s.vm.findClass E = some ce.cls → vx_W p l e R s m args below meth c H1 locs1 (cells + mc) (slots + ms) Q (F0 m pc ls rest) q9)
    (kk : ∀ (r : Int64) (u : S) (t : State) (H1 : Heap) (locs1 : List Loc), t.heap = H1 → s.vm.Alike t.vm → post r u → B u t → H.size ≤ H1.size → (∀ q : Nat, q < H.size → ¬ A1 q → H1[q]? = H[q]?) → va_S A0 H0 H1 locs1 → W p l e R s m args below meth c H1 locs1 (cells + mc) (slots + ms) Q (F0 m (pc + 5) ls (.long r :: rest))) : W p l e R s m args below meth c H locs cells slots Q (F0 m pc ls st0) := by
  intro T hT X
  rcases hr T hT X with ⟨v, st₀, t, T', L, h0, X', hL, e1, e2, ⟨⟨r, u, hv, hp, hb⟩, hF⟩, st⟩ | ⟨q, st₀, t, T', L, E, ce, h0, X', hL, e1, e2, ⟨u, hp, hb, hF⟩, hce, hcv, hcl, st⟩
  · cases hv
    obtain ⟨k1, k2, k3⟩ := vx_keep h0 e1 hS hA hf hL hF
    obtain ⟨t2, a1, b1⟩ := kk r u t T'.heap (locs ++ L) e1.symm (by rw [← e2]; exact X'.warmed.alike) hp hb k1 k2 k3 T' rfl X'
    exact ⟨t2, st t2 a1, b1⟩
  · obtain ⟨k1, k2, k3⟩ := vx_keep h0 e1 hS hAX hf hL hF
    obtain ⟨t2, a1, b1⟩ := kx E ce q u t T'.heap (locs ++ L) e1.symm (by rw [← e2]; exact X'.warmed.alike) hp hb k1 k2 k3 (by rw [e1]; exact hce) hcv hcl T' rfl X'
    exact ⟨t2, st.trans a1, b1⟩
theorem vx_callFf {S SX : Type} {post : UInt32 → S → Prop} {px : SX → Prop} {B : S → State → Prop} {BX : String → SX → State → Prop} {AX : Nat → Prop} (hr : vx_Run5 p l e R s m args below meth c H locs cells slots mc ms (F0 m pc ls st0) rest (va_Qf post B A1 a) (vx_X px BX AX) free) (hS : va_S A0 H0 H locs) (hA : ∀ q, q < H.size → A1 q → A0 q) (hf : ∀ q, free q → A0 q) (hAX : ∀ q, q < H.size → AX q → A0 q)
    (kx : ∀ (E : String) (ce : Cell) (q9 : Addr) (u : SX) (t : State) (H1 : Heap) (locs1 : List Loc), t.heap = H1 → s.vm.Alike t.vm → px u → BX E u t → H.size ≤ H1.size → (∀ q : Nat, q < H.size → ¬ AX q → H1[q]? = H[q]?) → va_S A0 H0 H1 locs1 → H1[q9]? = some ce → ce.vm = .none → s.vm.findClass E = some ce.cls → vx_W p l e R s m args below meth c H1 locs1 (cells + mc) (slots + ms) Q (F0 m pc ls rest) q9)
    (kk : ∀ (r : UInt32) (u : S) (t : State) (H1 : Heap) (locs1 : List Loc), t.heap = H1 → s.vm.Alike t.vm → post r u → B u t → H.size ≤ H1.size → (∀ q : Nat, q < H.size → ¬ A1 q → H1[q]? = H[q]?) → va_S A0 H0 H1 locs1 → W p l e R s m args below meth c H1 locs1 (cells + mc) (slots + ms) Q (F0 m (pc + 5) ls (.float r :: rest))) : W p l e R s m args below meth c H locs cells slots Q (F0 m pc ls st0) := by
  intro T hT X
  rcases hr T hT X with ⟨v, st₀, t, T', L, h0, X', hL, e1, e2, ⟨⟨r, u, hv, hp, hb⟩, hF⟩, st⟩ | ⟨q, st₀, t, T', L, E, ce, h0, X', hL, e1, e2, ⟨u, hp, hb, hF⟩, hce, hcv, hcl, st⟩
  · cases hv
    obtain ⟨k1, k2, k3⟩ := vx_keep h0 e1 hS hA hf hL hF
    obtain ⟨t2, a1, b1⟩ := kk r u t T'.heap (locs ++ L) e1.symm (by rw [← e2]; exact X'.warmed.alike) hp hb k1 k2 k3 T' rfl X'
    exact ⟨t2, st t2 a1, b1⟩
  · obtain ⟨k1, k2, k3⟩ := vx_keep h0 e1 hS hAX hf hL hF
    obtain ⟨t2, a1, b1⟩ := kx E ce q u t T'.heap (locs ++ L) e1.symm (by rw [← e2]; exact X'.warmed.alike) hp hb k1 k2 k3 (by rw [e1]; exact hce) hcv hcl T' rfl X'
    exact ⟨t2, st.trans a1, b1⟩
theorem vx_callFd {S SX : Type} {post : UInt64 → S → Prop} {px : SX → Prop} {B : S → State → Prop} {BX : String → SX → State → Prop} {AX : Nat → Prop} (hr : vx_Run5 p l e R s m args below meth c H locs cells slots mc ms (F0 m pc ls st0) rest (va_Qd post B A1 a) (vx_X px BX AX) free) (hS : va_S A0 H0 H locs) (hA : ∀ q, q < H.size → A1 q → A0 q) (hf : ∀ q, free q → A0 q) (hAX : ∀ q, q < H.size → AX q → A0 q)
    (kx : ∀ (E : String) (ce : Cell) (q9 : Addr) (u : SX) (t : State) (H1 : Heap) (locs1 : List Loc), t.heap = H1 → s.vm.Alike t.vm → px u → BX E u t → H.size ≤ H1.size → (∀ q : Nat, q < H.size → ¬ AX q → H1[q]? = H[q]?) → va_S A0 H0 H1 locs1 → H1[q9]? = some ce → ce.vm = .none → s.vm.findClass E = some ce.cls → vx_W p l e R s m args below meth c H1 locs1 (cells + mc) (slots + ms) Q (F0 m pc ls rest) q9)
    (kk : ∀ (r : UInt64) (u : S) (t : State) (H1 : Heap) (locs1 : List Loc), t.heap = H1 → s.vm.Alike t.vm → post r u → B u t → H.size ≤ H1.size → (∀ q : Nat, q < H.size → ¬ A1 q → H1[q]? = H[q]?) → va_S A0 H0 H1 locs1 → W p l e R s m args below meth c H1 locs1 (cells + mc) (slots + ms) Q (F0 m (pc + 5) ls (.double r :: rest))) : W p l e R s m args below meth c H locs cells slots Q (F0 m pc ls st0) := by
  intro T hT X
  rcases hr T hT X with ⟨v, st₀, t, T', L, h0, X', hL, e1, e2, ⟨⟨r, u, hv, hp, hb⟩, hF⟩, st⟩ | ⟨q, st₀, t, T', L, E, ce, h0, X', hL, e1, e2, ⟨u, hp, hb, hF⟩, hce, hcv, hcl, st⟩
  · cases hv
    obtain ⟨k1, k2, k3⟩ := vx_keep h0 e1 hS hA hf hL hF
    obtain ⟨t2, a1, b1⟩ := kk r u t T'.heap (locs ++ L) e1.symm (by rw [← e2]; exact X'.warmed.alike) hp hb k1 k2 k3 T' rfl X'
    exact ⟨t2, st t2 a1, b1⟩
  · obtain ⟨k1, k2, k3⟩ := vx_keep h0 e1 hS hAX hf hL hF
    obtain ⟨t2, a1, b1⟩ := kx E ce q u t T'.heap (locs ++ L) e1.symm (by rw [← e2]; exact X'.warmed.alike) hp hb k1 k2 k3 (by rw [e1]; exact hce) hcv hcl T' rfl X'
    exact ⟨t2, st.trans a1, b1⟩
end
/-! ===== END ===== -/
/-! ===== BEGIN by an interface, a method with a table of its own that may throw (follows va_callIFW, va_runFW) ===== -/
section
variable {p : Program} {l : Launch} {e : Env} {R : Room} {s : State} {m : MethodId} {args : Array Value} {below : List Frame} {meth : Method} {c : Code} {H : Heap} {locs : List Loc} {cells slots : Nat}
theorem vx_callIFW {T : State} (X : Stand p l e R s m args below meth c T locs cells slots) (hexec : p.tables.exec = Jvm.exec) {own C : String} {index count : Nat} {x y : MethodName} {bytes : ByteArray} {maxL : Nat} {ret : Option FieldType} {hh : List (Nat × Nat × Nat × Nat)}
    (hown : s.vm.findClass own = some m.cls) (hlink : (Cond.methodLink own index x).before args s = true) (hdecl : (Cond.declares x).before args s = true) (hface : (Cond.interfaceMethod x.cls x.cls x.name x.desc).before args s = true)
    (hsel : (Cond.selects C x y).before args s = true) (hinst : (Cond.instanceMethod y).before args s = true) (hpub : (Cond.publicMethod y).before args s = true) (hunh : (Cond.unhidden C x.name x.desc).before args s = true)
    (hcast : (Cond.castable C x.cls).before args s = true) (hcode : (Cond.codeWith y bytes maxL ret hh).before args s = true) (hx : x.cls ≠ "java/lang/invoke/MethodHandle" ∧ x.cls ≠ "java/lang/invoke/VarHandle")
    {W : Nat} {Pre : Pt → Array Value → Prop} {Post : Pt → Array Value → Option Value → Pt → Prop} {PostX : Pt → Array Value → Addr → Pt → Prop} (hK : vx_Back l R p e below s args y 5 W Pre Post PostX)
    {b : Addr} {cellB : Cell} {kB : Class} (hcell : T.heap[b]? = some cellB) (hobj : cellB.vm.isStatics = false) (hcls : s.vm.findClass C = some cellB.cls) (hkB : s.vm.classes[cellB.cls]? = some kB)
    {g : JFrame} (hg : g.method = m) (hsize : g.locals.size = c.maxLocals) {argsL rest : List Value} (hlen : ∀ sig, parseMethodDescriptor x.desc = some sig → argsL.length = sig.parameters.length)
    (hstack : g.stack = argsL.reverse ++ .ref b :: rest) (hW : 2 * g.monitorRoom + (rest.map fun v => v.category).sum ≤ W) (hdg : decode c.code g.pc = .ok (.invokeinterface index count, 5))
    (hpre : ∀ vm₁, s.WarmedH vm₁ → Pre ⟨T.setVm vm₁, locs, cells, slots⟩ (Value.ref b :: argsL).toArray) :
    (∃ (v : Option Value) (vm₁ : Vm) (B : Pt), s.WarmedH vm₁ ∧ Stand p l e R s m args below meth c B.U B.locs B.cells B.slots ∧ Post ⟨T.setVm vm₁, locs, cells, slots⟩ (Value.ref b :: argsL).toArray v B ∧
      ∀ target, Steps p.tables e below (B.U.setTop { g with pc := g.pc + 5, stack := v.toList ++ rest }) target → Steps p.tables e below (T.setTop g) target) ∨
    (∃ (q : Addr) (vm₁ : Vm) (B : Pt), s.WarmedH vm₁ ∧ Stand p l e R s m args below meth c B.U B.locs B.cells B.slots ∧ PostX ⟨T.setVm vm₁, locs, cells, slots⟩ (Value.ref b :: argsL).toArray q B ∧
      Steps p.tables e below (T.setTop g) ((B.U.setTop { g with stack := rest }).pushFrame (.throwing q))) := by
  obtain ⟨r0, r, hn, hrm, hstR, hsigR⟩ := Cond.declares_spec hdecl
  obtain ⟨cL, kL, r1, hcL, hkL, hiL, hfoundL, hn1⟩ := Cond.interfaceMethod_spec hface
  cases hn.symm.trans hn1
  have hr0cls : r0.cls = cL := Option.some.inj ((findClass_of_methodNamed hn).symm.trans hcL)
  obtain ⟨hnameR, hdescR⟩ := name_of_methodNamed hn hrm
  obtain ⟨mk, methM, hnamed, hmethM, -, habM⟩ := Cond.instanceMethod_spec hinst
  obtain ⟨c2, r2, m2, q1, q2, q3, q4, -⟩ := Cond.selects_spec hsel
  cases hcls.symm.trans q1
  cases hfoundL.symm.trans q2
  cases hnamed.symm.trans q3
  have hselP : selectMethod e.platform s.vm cellB.cls r0 = .method mk := by rw [Launch.admits_selectMethod X.admits]; exact q4
  have hpubM : hasFlag methM.accessFlags Acc.public_ = true := Cond.publicMethod_spec hnamed hmethM hpub
  have hway : ((cellB.cls :: s.vm.superclasses cellB.cls).any fun k => (declaredIn s.vm r.name r.desc k).any fun (_, z) => z.isPrivate || z.isStatic) = false := by
    rw [hnameR, hdescR]; exact Cond.unhidden_spec hcls hunh
  obtain ⟨c3, t3, w1, w2, w3⟩ := Cond.castable_spec hcast
  cases hcls.symm.trans w1
  cases hcL.symm.trans w2
  obtain ⟨vm₁, X₁, hstep₁⟩ := X.invokeinterface hexec hown hlink hn hrm hstR (by rw [hr0cls]; exact hkL) hiL hx (a := b) (cell := cellB) (kcell := kB) hcell
    (fun z h => by rw [h] at hobj; cases hobj) hkB (by rw [hr0cls]; exact w3) hselP hmethM hway hpubM habM (g := g) hg (argsL := argsL) (rest := rest) (hlen _ hsigR) hstack hdg
  rcases hK m meth c ⟨T.setVm vm₁, locs, cells, slots⟩ { g with stack := rest } (.invokeinterface index count) mk (Value.ref b :: argsL).toArray X₁ hg hsize hdg hW (X₁.named hnamed) (hpre vm₁ X₁.warmed) with ⟨v, B, X', hpost, hsteps⟩ | ⟨q, B, X', hpost, hsteps⟩
  · exact Or.inl ⟨v, vm₁, B, X₁.warmed, X', hpost, fun target h => hstep₁ _ fun acts => by rw [doInvoke_state]; exact hsteps.trans h⟩
  · exact Or.inr ⟨q, vm₁, B, X₁.warmed, X', hpost, hstep₁ _ fun acts => by rw [doInvoke_state]; exact hsteps⟩
theorem vx_runFW {x y : MethodName} {bytes cc : ByteArray} {maxL nL mc ms n index count : Nat} {ret : Option FieldType} {hh : List (Nat × Nat × Nat × Nat)} {ws : List Cond} {rm : Room} {Pc : Array Value → State → Prop} {Qc : Array Value → State → Outcome → State → Prop} {XC : String → State → State → Prop} {free : Addr → Prop} {Ts : List Cond} {own C : String} {cC : ClassId} {b : Addr} {As rest : List Value} {g : JFrame}
    (hat : ClassAt s C cC) (S : CallFix p m c cc nL s args Ts own) (hM : vx_Met l y ws rm Pc Qc XC mc ms free) (cw : va_CIW R s args own C index x y bytes maxL ret hh ws rm mc ms n) (hp : PreV s H C b Pc As)
    (hg : g.method = m) (hn : As.length = n) (hsize : g.locals.size = nL) (hstack : g.stack = As.reverse ++ .ref b :: rest) (hW : 2 * g.monitorRoom + (rest.map fun v => v.category).sum ≤ 8) (hdg : decode cc g.pc = .ok (.invokeinterface index count, 5)) (hf : cells + mc ≤ R.cells ∧ slots + ms ≤ R.slots) :
    vx_Run5 p l e R s m args below meth c H locs cells slots mc ms g rest (Qc (Value.ref b :: As).toArray) XC free := by
  obtain ⟨hrc, hrs, hfr, hlo, hws, hcw⟩ := cw.back
  have hini := cw.init
  have hK : vx_Back l R p e below s args y 5 8 (PreOf R mc ms Pc) (PostOf Qc mc ms free) (vx_Post XC mc ms free) := vx_backW (hh := hh) (bytes := bytes) (maxL := maxL) (ret := ret) hM hp.1 hrc hrs hfr hlo hws hcw (fun a' U hW => word_at hW (Or.inl (by first | rfl | simp [Cond.onTables, Cond.keeps, Cond.steady])) hini)
  obtain ⟨hx, hb, hml, ho, -⟩ := S
  obtain ⟨-, ⟨cellB, hcB, hoB, hclB⟩, hPc⟩ := hp
  obtain ⟨hfc, kB, hkB, -⟩ := hat
  cases hfc.symm.trans hclB
  intro T hT X
  rcases vx_callIFW X hx (C := C) (hh := hh) (bytes := bytes) (maxL := maxL) (ret := ret) ho cw.link cw.decl cw.face cw.sel cw.inst cw.pub cw.unh cw.cast cw.code cw.notMH hK (by rw [hT]; exact hcB) hoB hclB hkB hg (hsize.trans hml.symm) (argsL := As) (rest := rest) (fun sig h => hn.trans (cw.len sig h)) hstack hW (by rw [hb]; exact hdg)
    (fun vm₁ hW₁ => ⟨hf.1, hf.2, hPc (T.setVm vm₁) hT hW₁⟩) with ⟨v, vm₁, ⟨U', l2, c2, s2⟩, hW₁, X', ⟨g', mk, t, L, e1, e2, hq, h1, hL, h2, h3⟩, st⟩ | ⟨q, vm₁, ⟨U', l2, c2, s2⟩, hW₁, X', ⟨g', mk, t, L, E, ce, e1, e2, hq, hce, hcv, hcl, h1, hL, h2, h3⟩, st⟩
  · dsimp only [Pt.U, Pt.locs, Pt.cells, Pt.slots] at X' e1 e2 h1 h2 h3 st
    subst h1; subst h2; subst h3
    exact Or.inl ⟨v, (T.setVm vm₁).calling g' mk (Value.ref b :: As).toArray, t, U', L, hT, X', hL, e1, e2, hq, st⟩
  · dsimp only [Pt.U, Pt.locs, Pt.cells, Pt.slots] at X' e1 e2 h1 h2 h3 st hcl
    subst h1; subst h2; subst h3
    exact Or.inr ⟨q, (T.setVm vm₁).calling g' mk (Value.ref b :: As).toArray, t, U', L, E, ce, hT, X', hL, e1, e2, hq, hce, hcv, vx_cls hW₁ hcl, st⟩
end
/-! ===== END ===== -/
/-! ===== BEGIN .. of methods that hand back an object of the pool ===== -/
section
variable {p : Program} {l : Launch} {e : Env} {R : Room} {s : State} {m : MethodId} {args : Array Value} {below : List Frame} {meth : Method} {c : Code} {H : Heap} {locs : List Loc} {cells slots : Nat} {Q : State → Prop}
variable {mc ms : Nat} {free : Addr → Prop} {A0 A1 : Nat → Prop} {H0 : Heap} {a : Array Value} {pc : Nat} {ls : Array Slot} {st0 rest : List Value}
theorem vx_callq {S SX : Type} {post : Option Nat → S → Prop} {px : SX → Prop} {B : S → State → Prop} {BX : String → SX → State → Prop} {AX : Nat → Prop} (hr : vx_Run p l e R s m args below meth c H locs cells slots mc ms (F0 m pc ls st0) rest (va_Qq post B A1 a) (vx_X px BX AX) free) (hS : va_S A0 H0 H locs) (hA : ∀ q, q < H.size → A1 q → A0 q) (hf : ∀ q, free q → A0 q) (hAX : ∀ q, q < H.size → AX q → A0 q)
    (kx : ∀ (E : String) (ce : Cell) (q9 : Addr) (u : SX) (t : State) (H1 : Heap) (locs1 : List Loc), t.heap = H1 → s.vm.Alike t.vm → px u → BX E u t → H.size ≤ H1.size → (∀ q : Nat, q < H.size → ¬ AX q → H1[q]? = H[q]?) → va_S A0 H0 H1 locs1 → H1[q9]? = some ce → ce.vm = .none → s.vm.findClass E = some ce.cls → vx_W p l e R s m args below meth c H1 locs1 (cells + mc) (slots + ms) Q (F0 m pc ls rest) q9)
    (kk : ∀ (r : Option Nat) (u : S) (t : State) (H1 : Heap) (locs1 : List Loc), t.heap = H1 → s.vm.Alike t.vm → post r u → B u t → H.size ≤ H1.size → (∀ q : Nat, q < H.size → ¬ A1 q → H1[q]? = H[q]?) → va_S A0 H0 H1 locs1 → W p l e R s m args below meth c H1 locs1 (cells + mc) (slots + ms) Q (F0 m (pc + 3) ls (va_rf r :: rest))) : W p l e R s m args below meth c H locs cells slots Q (F0 m pc ls st0) := by
  intro T hT X
  rcases hr T hT X with ⟨v, st₀, t, T', L, h0, X', hL, e1, e2, ⟨⟨r, u, hv, hp, hb⟩, hF⟩, st⟩ | ⟨q, st₀, t, T', L, E, ce, h0, X', hL, e1, e2, ⟨u, hp, hb, hF⟩, hce, hcv, hcl, st⟩
  · cases hv
    obtain ⟨k1, k2, k3⟩ := vx_keep h0 e1 hS hA hf hL hF
    obtain ⟨t2, a1, b1⟩ := kk r u t T'.heap (locs ++ L) e1.symm (by rw [← e2]; exact X'.warmed.alike) hp hb k1 k2 k3 T' rfl X'
    exact ⟨t2, st t2 a1, b1⟩
  · obtain ⟨k1, k2, k3⟩ := vx_keep h0 e1 hS hAX hf hL hF
    obtain ⟨t2, a1, b1⟩ := kx E ce q u t T'.heap (locs ++ L) e1.symm (by rw [← e2]; exact X'.warmed.alike) hp hb k1 k2 k3 (by rw [e1]; exact hce) hcv hcl T' rfl X'
    exact ⟨t2, st.trans a1, b1⟩
end
/-! ===== END ===== -/
/-! ===== BEGIN .. a constant ===== -/
section
variable {p : Program} {l : Launch} {e : Env} {R : Room} {s : State} {m : MethodId} {args : Array Value} {below : List Frame} {meth : Method} {c : Code} {H : Heap} {locs : List Loc} {cells slots : Nat} {Q : State → Prop}
variable {mc ms : Nat} {free : Addr → Prop} {A0 A1 : Nat → Prop} {H0 : Heap} {a : Array Value} {pc : Nat} {ls : Array Slot} {st0 rest : List Value}
theorem vx_calle {ad : Nat → Nat} {S SX : Type} {post : Option Nat → S → Prop} {px : SX → Prop} {B : S → State → Prop} {BX : String → SX → State → Prop} {AX : Nat → Prop} (hr : vx_Run p l e R s m args below meth c H locs cells slots mc ms (F0 m pc ls st0) rest (va_Qe ad post B A1 a) (vx_X px BX AX) free) (hS : va_S A0 H0 H locs) (hA : ∀ q, q < H.size → A1 q → A0 q) (hf : ∀ q, free q → A0 q) (hAX : ∀ q, q < H.size → AX q → A0 q)
    (kx : ∀ (E : String) (ce : Cell) (q9 : Addr) (u : SX) (t : State) (H1 : Heap) (locs1 : List Loc), t.heap = H1 → s.vm.Alike t.vm → px u → BX E u t → H.size ≤ H1.size → (∀ q : Nat, q < H.size → ¬ AX q → H1[q]? = H[q]?) → va_S A0 H0 H1 locs1 → H1[q9]? = some ce → ce.vm = .none → s.vm.findClass E = some ce.cls → vx_W p l e R s m args below meth c H1 locs1 (cells + mc) (slots + ms) Q (F0 m pc ls rest) q9)
    (kk : ∀ (r : Option Nat) (u : S) (t : State) (H1 : Heap) (locs1 : List Loc), t.heap = H1 → s.vm.Alike t.vm → post r u → B u t → H.size ≤ H1.size → (∀ q : Nat, q < H.size → ¬ A1 q → H1[q]? = H[q]?) → va_S A0 H0 H1 locs1 → W p l e R s m args below meth c H1 locs1 (cells + mc) (slots + ms) Q (F0 m (pc + 3) ls (va_re ad r :: rest))) : W p l e R s m args below meth c H locs cells slots Q (F0 m pc ls st0) := by
  intro T hT X
  rcases hr T hT X with ⟨v, st₀, t, T', L, h0, X', hL, e1, e2, ⟨⟨r, u, hv, hp, hb⟩, hF⟩, st⟩ | ⟨q, st₀, t, T', L, E, ce, h0, X', hL, e1, e2, ⟨u, hp, hb, hF⟩, hce, hcv, hcl, st⟩
  · cases hv
    obtain ⟨k1, k2, k3⟩ := vx_keep h0 e1 hS hA hf hL hF
    obtain ⟨t2, a1, b1⟩ := kk r u t T'.heap (locs ++ L) e1.symm (by rw [← e2]; exact X'.warmed.alike) hp hb k1 k2 k3 T' rfl X'
    exact ⟨t2, st t2 a1, b1⟩
  · obtain ⟨k1, k2, k3⟩ := vx_keep h0 e1 hS hAX hf hL hF
    obtain ⟨t2, a1, b1⟩ := kx E ce q u t T'.heap (locs ++ L) e1.symm (by rw [← e2]; exact X'.warmed.alike) hp hb k1 k2 k3 (by rw [e1]; exact hce) hcv hcl T' rfl X'
    exact ⟨t2, st.trans a1, b1⟩
end
/-! ===== END ===== -/
/-! ===== BEGIN .. by an interface, an object ===== -/
section
variable {p : Program} {l : Launch} {e : Env} {R : Room} {s : State} {m : MethodId} {args : Array Value} {below : List Frame} {meth : Method} {c : Code} {H : Heap} {locs : List Loc} {cells slots : Nat} {Q : State → Prop}
variable {mc ms : Nat} {free : Addr → Prop} {A0 A1 : Nat → Prop} {H0 : Heap} {a : Array Value} {pc : Nat} {ls : Array Slot} {st0 rest : List Value}
theorem vx_callFq {S SX : Type} {post : Option Nat → S → Prop} {px : SX → Prop} {B : S → State → Prop} {BX : String → SX → State → Prop} {AX : Nat → Prop} (hr : vx_Run5 p l e R s m args below meth c H locs cells slots mc ms (F0 m pc ls st0) rest (va_Qq post B A1 a) (vx_X px BX AX) free) (hS : va_S A0 H0 H locs) (hA : ∀ q, q < H.size → A1 q → A0 q) (hf : ∀ q, free q → A0 q) (hAX : ∀ q, q < H.size → AX q → A0 q)
    (kx : ∀ (E : String) (ce : Cell) (q9 : Addr) (u : SX) (t : State) (H1 : Heap) (locs1 : List Loc), t.heap = H1 → s.vm.Alike t.vm → px u → BX E u t → H.size ≤ H1.size → (∀ q : Nat, q < H.size → ¬ AX q → H1[q]? = H[q]?) → va_S A0 H0 H1 locs1 → H1[q9]? = some ce → ce.vm = .none → s.vm.findClass E = some ce.cls → vx_W p l e R s m args below meth c H1 locs1 (cells + mc) (slots + ms) Q (F0 m pc ls rest) q9)
    (kk : ∀ (r : Option Nat) (u : S) (t : State) (H1 : Heap) (locs1 : List Loc), t.heap = H1 → s.vm.Alike t.vm → post r u → B u t → H.size ≤ H1.size → (∀ q : Nat, q < H.size → ¬ A1 q → H1[q]? = H[q]?) → va_S A0 H0 H1 locs1 → W p l e R s m args below meth c H1 locs1 (cells + mc) (slots + ms) Q (F0 m (pc + 5) ls (va_rf r :: rest))) : W p l e R s m args below meth c H locs cells slots Q (F0 m pc ls st0) := by
  intro T hT X
  rcases hr T hT X with ⟨v, st₀, t, T', L, h0, X', hL, e1, e2, ⟨⟨r, u, hv, hp, hb⟩, hF⟩, st⟩ | ⟨q, st₀, t, T', L, E, ce, h0, X', hL, e1, e2, ⟨u, hp, hb, hF⟩, hce, hcv, hcl, st⟩
  · cases hv
    obtain ⟨k1, k2, k3⟩ := vx_keep h0 e1 hS hA hf hL hF
    obtain ⟨t2, a1, b1⟩ := kk r u t T'.heap (locs ++ L) e1.symm (by rw [← e2]; exact X'.warmed.alike) hp hb k1 k2 k3 T' rfl X'
    exact ⟨t2, st t2 a1, b1⟩
  · obtain ⟨k1, k2, k3⟩ := vx_keep h0 e1 hS hAX hf hL hF
    obtain ⟨t2, a1, b1⟩ := kx E ce q u t T'.heap (locs ++ L) e1.symm (by rw [← e2]; exact X'.warmed.alike) hp hb k1 k2 k3 (by rw [e1]; exact hce) hcv hcl T' rfl X'
    exact ⟨t2, st.trans a1, b1⟩
end
/-! ===== END ===== -/
/-! ===== BEGIN .. by an interface, a constant ===== -/
section
variable {p : Program} {l : Launch} {e : Env} {R : Room} {s : State} {m : MethodId} {args : Array Value} {below : List Frame} {meth : Method} {c : Code} {H : Heap} {locs : List Loc} {cells slots : Nat} {Q : State → Prop}
variable {mc ms : Nat} {free : Addr → Prop} {A0 A1 : Nat → Prop} {H0 : Heap} {a : Array Value} {pc : Nat} {ls : Array Slot} {st0 rest : List Value}
theorem vx_callFe {ad : Nat → Nat} {S SX : Type} {post : Option Nat → S → Prop} {px : SX → Prop} {B : S → State → Prop} {BX : String → SX → State → Prop} {AX : Nat → Prop} (hr : vx_Run5 p l e R s m args below meth c H locs cells slots mc ms (F0 m pc ls st0) rest (va_Qe ad post B A1 a) (vx_X px BX AX) free) (hS : va_S A0 H0 H locs) (hA : ∀ q, q < H.size → A1 q → A0 q) (hf : ∀ q, free q → A0 q) (hAX : ∀ q, q < H.size → AX q → A0 q)
    (kx : ∀ (E : String) (ce : Cell) (q9 : Addr) (u : SX) (t : State) (H1 : Heap) (locs1 : List Loc), t.heap = H1 → s.vm.Alike t.vm → px u → BX E u t → H.size ≤ H1.size → (∀ q : Nat, q < H.size → ¬ AX q → H1[q]? = H[q]?) → va_S A0 H0 H1 locs1 → H1[q9]? = some ce → ce.vm = .none → s.vm.findClass E = some ce.cls → vx_W p l e R s m args below meth c H1 locs1 (cells + mc) (slots + ms) Q (F0 m pc ls rest) q9)
    (kk : ∀ (r : Option Nat) (u : S) (t : State) (H1 : Heap) (locs1 : List Loc), t.heap = H1 → s.vm.Alike t.vm → post r u → B u t → H.size ≤ H1.size → (∀ q : Nat, q < H.size → ¬ A1 q → H1[q]? = H[q]?) → va_S A0 H0 H1 locs1 → W p l e R s m args below meth c H1 locs1 (cells + mc) (slots + ms) Q (F0 m (pc + 5) ls (va_re ad r :: rest))) : W p l e R s m args below meth c H locs cells slots Q (F0 m pc ls st0) := by
  intro T hT X
  rcases hr T hT X with ⟨v, st₀, t, T', L, h0, X', hL, e1, e2, ⟨⟨r, u, hv, hp, hb⟩, hF⟩, st⟩ | ⟨q, st₀, t, T', L, E, ce, h0, X', hL, e1, e2, ⟨u, hp, hb, hF⟩, hce, hcv, hcl, st⟩
  · cases hv
    obtain ⟨k1, k2, k3⟩ := vx_keep h0 e1 hS hA hf hL hF
    obtain ⟨t2, a1, b1⟩ := kk r u t T'.heap (locs ++ L) e1.symm (by rw [← e2]; exact X'.warmed.alike) hp hb k1 k2 k3 T' rfl X'
    exact ⟨t2, st t2 a1, b1⟩
  · obtain ⟨k1, k2, k3⟩ := vx_keep h0 e1 hS hAX hf hL hF
    obtain ⟨t2, a1, b1⟩ := kx E ce q u t T'.heap (locs ++ L) e1.symm (by rw [← e2]; exact X'.warmed.alike) hp hb k1 k2 k3 (by rw [e1]; exact hce) hcv hcl T' rfl X'
    exact ⟨t2, st.trans a1, b1⟩
end
/-! ===== END ===== -/
/-! ===== BEGIN what the machine throws by itself: null at a field, at athrow ===== -/
section VXM2
variable {p : Program} {l : Launch} {e : Env} {R : Room} {s : State} {m : MethodId} {args : Array Value} {below : List Frame} {meth : Method} {c : Code} {H : Heap} {locs : List Loc} {cells slots : Nat}
variable {Q : State → Prop} {cc : ByteArray} {pc : Nat} {ls : Array Slot} {rest : List Value}
theorem vx_getfN {D cl tys} {own ref C : String} {T : u_T} {N ci index : Nat} {Ts : List Cond} (hexec : p.tables.exec = Jvm.exec) (hb : c.code = cc) (hts : ∀ w ∈ Ts, w.before args s = true) (hin : ∀ w ∈ u_ws C T N, w ∈ Ts) (hown : s.vm.findClass own = some m.cls) (hK : va_K D cl tys s) (hc : cl[ci]? = some (C, T, N)) (k : Nat) (hk : k < N) (hlink : (Cond.fieldLink own index ref (T k).2.1 (T k).2.2.1).before args s = true) (hsame : ∀ x, s.fieldFound? (T k).1 (T k).2.1 (T k).2.2.1 = some x → s.fieldFound? ref (T k).2.1 (T k).2.2.1 = some x) (hdg : decode cc pc = .ok (.getfield index, 3)) (kk : vx_NoteN p l e R s m args below meth c H locs cells slots Q (F0 m pc ls rest)) : W p l e R s m args below meth c H locs cells slots Q (F0 m pc ls (.null :: rest)) := by
  obtain ⟨hS, hfc, kC, hkC, -⟩ := hK.1 ci _ hc
  obtain ⟨cf, kf, fi, f, hi, -⟩ := hS k hk
  intro U hU X
  obtain ⟨vm', X1, st1⟩ := X.getfieldNull hexec hown hlink (hsame _ hi) (u_facts hfc hkC (u_lays hts hin hk) hi).1 (g := F0 m pc ls (.null :: rest)) rfl (rest := rest) rfl (by rw [hb]; exact hdg)
  obtain ⟨t, st, q⟩ := kk (U.setVm vm') hU X1
  exact ⟨t, st1 t st, q⟩
theorem vx_getfNN {D cl tys} {own ref C host : String} {T : u_T} {N ci index : Nat} {Ts : List Cond} (hexec : p.tables.exec = Jvm.exec) (hb : c.code = cc) (hts : ∀ w ∈ Ts, w.before args s = true) (hin : ∀ w ∈ u_ws C T N, w ∈ Ts) (hown : s.vm.findClass own = some m.cls) (hK : va_K D cl tys s) (hc : cl[ci]? = some (C, T, N)) (k : Nat) (hk : k < N) (hlink : (Cond.fieldLinkNest own index ref (T k).2.1 (T k).2.2.1 host).before args s = true) (hsame : ∀ x, s.fieldFound? (T k).1 (T k).2.1 (T k).2.2.1 = some x → s.fieldFound? ref (T k).2.1 (T k).2.2.1 = some x) (hdg : decode cc pc = .ok (.getfield index, 3)) (kk : vx_NoteN p l e R s m args below meth c H locs cells slots Q (F0 m pc ls rest)) : W p l e R s m args below meth c H locs cells slots Q (F0 m pc ls (.null :: rest)) := by
  obtain ⟨hS, hfc, kC, hkC, -⟩ := hK.1 ci _ hc
  obtain ⟨cf, kf, fi, f, hi, -⟩ := hS k hk
  intro U hU X
  obtain ⟨vm', X1, st1⟩ := X.getfieldNullNest hexec hown hlink (hsame _ hi) (u_facts hfc hkC (u_lays hts hin hk) hi).1 (g := F0 m pc ls (.null :: rest)) rfl (rest := rest) rfl (by rw [hb]; exact hdg)
  obtain ⟨t, st, q⟩ := kk (U.setVm vm') hU X1
  exact ⟨t, st1 t st, q⟩
theorem vx_putfN {D cl tys} {own ref C : String} {T : u_T} {N ci index : Nat} {Ts : List Cond} (hexec : p.tables.exec = Jvm.exec) (hb : c.code = cc) (hts : ∀ w ∈ Ts, w.before args s = true) (hin : ∀ w ∈ u_ws C T N, w ∈ Ts) (hown : s.vm.findClass own = some m.cls) (hK : va_K D cl tys s) (hc : cl[ci]? = some (C, T, N)) (k : Nat) (hk : k < N) (hlink : (Cond.fieldLink own index ref (T k).2.1 (T k).2.2.1).before args s = true) (hsame : ∀ x, s.fieldFound? (T k).1 (T k).2.1 (T k).2.2.1 = some x → s.fieldFound? ref (T k).2.1 (T k).2.2.1 = some x) (hfin : (T k).2.2.2 = false) {v : Value} (hdg : decode cc pc = .ok (.putfield index, 3)) (kk : vx_NoteN p l e R s m args below meth c H locs cells slots Q (F0 m pc ls rest)) : W p l e R s m args below meth c H locs cells slots Q (F0 m pc ls (v :: .null :: rest)) := by
  obtain ⟨hS, hfc, kC, hkC, -⟩ := hK.1 ci _ hc
  obtain ⟨cf, kf, fi, f, hi, -⟩ := hS k hk
  have hlay := hts _ (hin _ (u_in_lay hk))
  unfold u_lay at hlay
  rw [if_neg (by rw [hfin]; decide)] at hlay
  obtain ⟨c9, k9, cf9, kf9, fi9, f9, -, -, hi9, hst9, hnf9, -⟩ := Cond.lays_spec hlay
  cases hi.symm.trans hi9
  intro U hU X
  obtain ⟨vm', X1, st1⟩ := X.putfieldNull hexec hown hlink (hsame _ hi) hst9 hnf9 (g := F0 m pc ls (v :: .null :: rest)) rfl (v := v) (rest := rest) rfl (by rw [hb]; exact hdg)
  obtain ⟨t, st, q⟩ := kk (U.setVm vm') hU X1
  exact ⟨t, st1 t st, q⟩
theorem vx_putfNN {D cl tys} {own ref C host : String} {T : u_T} {N ci index : Nat} {Ts : List Cond} (hexec : p.tables.exec = Jvm.exec) (hb : c.code = cc) (hts : ∀ w ∈ Ts, w.before args s = true) (hin : ∀ w ∈ u_ws C T N, w ∈ Ts) (hown : s.vm.findClass own = some m.cls) (hK : va_K D cl tys s) (hc : cl[ci]? = some (C, T, N)) (k : Nat) (hk : k < N) (hlink : (Cond.fieldLinkNest own index ref (T k).2.1 (T k).2.2.1 host).before args s = true) (hsame : ∀ x, s.fieldFound? (T k).1 (T k).2.1 (T k).2.2.1 = some x → s.fieldFound? ref (T k).2.1 (T k).2.2.1 = some x) (hfin : (T k).2.2.2 = false) {v : Value} (hdg : decode cc pc = .ok (.putfield index, 3)) (kk : vx_NoteN p l e R s m args below meth c H locs cells slots Q (F0 m pc ls rest)) : W p l e R s m args below meth c H locs cells slots Q (F0 m pc ls (v :: .null :: rest)) := by
  obtain ⟨hS, hfc, kC, hkC, -⟩ := hK.1 ci _ hc
  obtain ⟨cf, kf, fi, f, hi, -⟩ := hS k hk
  have hlay := hts _ (hin _ (u_in_lay hk))
  unfold u_lay at hlay
  rw [if_neg (by rw [hfin]; decide)] at hlay
  obtain ⟨c9, k9, cf9, kf9, fi9, f9, -, -, hi9, hst9, hnf9, -⟩ := Cond.lays_spec hlay
  cases hi.symm.trans hi9
  intro U hU X
  obtain ⟨vm', X1, st1⟩ := X.putfieldNullNest hexec hown hlink (hsame _ hi) hst9 hnf9 (g := F0 m pc ls (v :: .null :: rest)) rfl (v := v) (rest := rest) rfl (by rw [hb]; exact hdg)
  obtain ⟨t, st, q⟩ := kk (U.setVm vm') hU X1
  exact ⟨t, st1 t st, q⟩
theorem vx_athrowN (hexec : p.tables.exec = Jvm.exec) (hb : c.code = cc) (hdg : decode cc pc = .ok (.athrow, 1)) (k : vx_NoteN p l e R s m args below meth c H locs cells slots Q (F0 m pc ls rest)) : W p l e R s m args below meth c H locs cells slots Q (F0 m pc ls (.null :: rest)) := by
  intro T hT X
  obtain ⟨t, st, q⟩ := k T hT X
  exact ⟨t, X.athrowNull hexec (g := F0 m pc ls (.null :: rest)) rfl (rest := rest) rfl (by rw [hb]; exact hdg) t st, q⟩
end VXM2
/-! ===== END ===== -/
end
section
-- ===== PART A: goes FIRST, ahead of the names: the tables' words, and 'selects' of the private methods out of them =====
/-- a private method of a class that the tables say can be made, by its rows of tables_1 -/
def lw_okq (q : MethodName × Nat) : Prop := (q.1.cls ≠ "java/lang/invoke/MethodHandle" ∧ q.1.cls ≠ "java/lang/invoke/VarHandle") ∧ Cond.instantiable q.1.cls q.2 ∈ tables_1 ∧ Cond.privateMethod q.1 ∈ tables_1 ∧ Cond.instanceMethod q.1 ∈ tables_1
theorem lw_p0 : lw_okq (⟨"java/lang/Throwable", "fillInStackTrace", "(I)Ljava/lang/Throwable;"⟩, 6) := ⟨⟨by decide +kernel, by decide +kernel⟩, List.mem_of_getElem? (i := 439) (by decide +kernel), List.mem_of_getElem? (i := 437) (by decide +kernel), List.mem_of_getElem? (i := 438) (by decide +kernel)⟩
theorem lw_p1 : lw_okq (⟨"TurnipPages$Carver", "denied", "(II)I"⟩, 4) := ⟨⟨by decide +kernel, by decide +kernel⟩, List.mem_of_getElem? (i := 66) (by decide +kernel), List.mem_of_getElem? (i := 506) (by decide +kernel), List.mem_of_getElem? (i := 507) (by decide +kernel)⟩
theorem lw_p2 : lw_okq (⟨"TurnipPages", "settle", "(I)I"⟩, 11) := ⟨⟨by decide +kernel, by decide +kernel⟩, List.mem_of_getElem? (i := 35) (by decide +kernel), List.mem_of_getElem? (i := 514) (by decide +kernel), List.mem_of_getElem? (i := 515) (by decide +kernel)⟩
theorem lw_p3 : lw_okq (⟨"TurnipPages", "refuse", "(I)V"⟩, 11) := ⟨⟨by decide +kernel, by decide +kernel⟩, List.mem_of_getElem? (i := 35) (by decide +kernel), List.mem_of_getElem? (i := 518) (by decide +kernel), List.mem_of_getElem? (i := 519) (by decide +kernel)⟩
theorem lw_p4 : lw_okq (⟨"TurnipPages", "requireRoot", "(I)V"⟩, 11) := ⟨⟨by decide +kernel, by decide +kernel⟩, List.mem_of_getElem? (i := 35) (by decide +kernel), List.mem_of_getElem? (i := 615) (by decide +kernel), List.mem_of_getElem? (i := 616) (by decide +kernel)⟩
theorem lw_p5 : lw_okq (⟨"TurnipPages$Store", "positionOf", "(I)I"⟩, 7) := ⟨⟨by decide +kernel, by decide +kernel⟩, List.mem_of_getElem? (i := 72) (by decide +kernel), List.mem_of_getElem? (i := 673) (by decide +kernel), List.mem_of_getElem? (i := 674) (by decide +kernel)⟩
theorem lw_p6 : lw_okq (⟨"TurnipPages", "requireTelegram", "(I)LTurnipPages$Telegram;"⟩, 11) := ⟨⟨by decide +kernel, by decide +kernel⟩, List.mem_of_getElem? (i := 35) (by decide +kernel), List.mem_of_getElem? (i := 705) (by decide +kernel), List.mem_of_getElem? (i := 706) (by decide +kernel)⟩
theorem lw_p7 : lw_okq (⟨"TurnipPages$Commands", "parseCommand", "(LTurnipPages$Text;)Z"⟩, 5) := ⟨⟨by decide +kernel, by decide +kernel⟩, List.mem_of_getElem? (i := 196) (by decide +kernel), List.mem_of_getElem? (i := 740) (by decide +kernel), List.mem_of_getElem? (i := 741) (by decide +kernel)⟩
theorem lw_p8 : lw_okq (⟨"TurnipPages$Commands", "parseWord", "(LTurnipPages$Text;)I"⟩, 5) := ⟨⟨by decide +kernel, by decide +kernel⟩, List.mem_of_getElem? (i := 196) (by decide +kernel), List.mem_of_getElem? (i := 744) (by decide +kernel), List.mem_of_getElem? (i := 745) (by decide +kernel)⟩
theorem lw_p9 : lw_okq (⟨"TurnipPages$Commands", "countMatching", "(LTurnipPages$Text;Ljava/lang/String;)I"⟩, 5) := ⟨⟨by decide +kernel, by decide +kernel⟩, List.mem_of_getElem? (i := 196) (by decide +kernel), List.mem_of_getElem? (i := 757) (by decide +kernel), List.mem_of_getElem? (i := 758) (by decide +kernel)⟩
theorem lw_p10 : lw_okq (⟨"TurnipPages$Commands", "parseDigits", "(LTurnipPages$Text;I)I"⟩, 5) := ⟨⟨by decide +kernel, by decide +kernel⟩, List.mem_of_getElem? (i := 196) (by decide +kernel), List.mem_of_getElem? (i := 811) (by decide +kernel), List.mem_of_getElem? (i := 812) (by decide +kernel)⟩
theorem lw_p11 : lw_okq (⟨"TurnipPages$Commands", "parseSign", "(LTurnipPages$Text;C)Z"⟩, 5) := ⟨⟨by decide +kernel, by decide +kernel⟩, List.mem_of_getElem? (i := 196) (by decide +kernel), List.mem_of_getElem? (i := 816) (by decide +kernel), List.mem_of_getElem? (i := 817) (by decide +kernel)⟩
theorem lw_p12 : lw_okq (⟨"TurnipPages$Commands", "keepCommand", "(III)V"⟩, 5) := ⟨⟨by decide +kernel, by decide +kernel⟩, List.mem_of_getElem? (i := 196) (by decide +kernel), List.mem_of_getElem? (i := 820) (by decide +kernel), List.mem_of_getElem? (i := 821) (by decide +kernel)⟩
theorem lw_p13 : lw_okq (⟨"TurnipPages$Commands", "has", "(I)Z"⟩, 5) := ⟨⟨by decide +kernel, by decide +kernel⟩, List.mem_of_getElem? (i := 196) (by decide +kernel), List.mem_of_getElem? (i := 824) (by decide +kernel), List.mem_of_getElem? (i := 825) (by decide +kernel)⟩
theorem lw_p14 : lw_okq (⟨"TurnipPages$Carver", "unfoldIfReadable", "(LTurnipPages$Telegram;)I"⟩, 4) := ⟨⟨by decide +kernel, by decide +kernel⟩, List.mem_of_getElem? (i := 66) (by decide +kernel), List.mem_of_getElem? (i := 856) (by decide +kernel), List.mem_of_getElem? (i := 857) (by decide +kernel)⟩
theorem lw_p15 : lw_okq (⟨"TurnipPages", "requireDenial", "()V"⟩, 11) := ⟨⟨by decide +kernel, by decide +kernel⟩, List.mem_of_getElem? (i := 35) (by decide +kernel), List.mem_of_getElem? (i := 923) (by decide +kernel), List.mem_of_getElem? (i := 924) (by decide +kernel)⟩
def lw_privs_1 : List (MethodName × Nat) := [(⟨"java/lang/Throwable", "fillInStackTrace", "(I)Ljava/lang/Throwable;"⟩, 6), (⟨"TurnipPages$Carver", "denied", "(II)I"⟩, 4), (⟨"TurnipPages", "settle", "(I)I"⟩, 11), (⟨"TurnipPages", "refuse", "(I)V"⟩, 11), (⟨"TurnipPages", "requireRoot", "(I)V"⟩, 11), (⟨"TurnipPages$Store", "positionOf", "(I)I"⟩, 7), (⟨"TurnipPages", "requireTelegram", "(I)LTurnipPages$Telegram;"⟩, 11), (⟨"TurnipPages$Commands", "parseCommand", "(LTurnipPages$Text;)Z"⟩, 5), (⟨"TurnipPages$Commands", "parseWord", "(LTurnipPages$Text;)I"⟩, 5), (⟨"TurnipPages$Commands", "countMatching", "(LTurnipPages$Text;Ljava/lang/String;)I"⟩, 5), (⟨"TurnipPages$Commands", "parseDigits", "(LTurnipPages$Text;I)I"⟩, 5), (⟨"TurnipPages$Commands", "parseSign", "(LTurnipPages$Text;C)Z"⟩, 5), (⟨"TurnipPages$Commands", "keepCommand", "(III)V"⟩, 5), (⟨"TurnipPages$Commands", "has", "(I)Z"⟩, 5), (⟨"TurnipPages$Carver", "unfoldIfReadable", "(LTurnipPages$Telegram;)I"⟩, 4), (⟨"TurnipPages", "requireDenial", "()V"⟩, 11)]
theorem lw_r1 : ∀ q ∈ lw_privs_1, lw_okq q := List.forall_mem_cons.mpr ⟨lw_p0, List.forall_mem_cons.mpr ⟨lw_p1, List.forall_mem_cons.mpr ⟨lw_p2, List.forall_mem_cons.mpr ⟨lw_p3, List.forall_mem_cons.mpr ⟨lw_p4, List.forall_mem_cons.mpr ⟨lw_p5, List.forall_mem_cons.mpr ⟨lw_p6, List.forall_mem_cons.mpr ⟨lw_p7, List.forall_mem_cons.mpr ⟨lw_p8, List.forall_mem_cons.mpr ⟨lw_p9, List.forall_mem_cons.mpr ⟨lw_p10, List.forall_mem_cons.mpr ⟨lw_p11, List.forall_mem_cons.mpr ⟨lw_p12, List.forall_mem_cons.mpr ⟨lw_p13, List.forall_mem_cons.mpr ⟨lw_p14, List.forall_mem_cons.mpr ⟨lw_p15, fun _ h => absurd h List.not_mem_nil⟩⟩⟩⟩⟩⟩⟩⟩⟩⟩⟩⟩⟩⟩⟩⟩
theorem lw_p16 : lw_okq (⟨"TurnipPages", "requireValidCode", "(I)LTurnipPages$Text;"⟩, 11) := ⟨⟨by decide +kernel, by decide +kernel⟩, List.mem_of_getElem? (i := 35) (by decide +kernel), List.mem_of_getElem? (i := 1335) (by decide +kernel), List.mem_of_getElem? (i := 1336) (by decide +kernel)⟩
theorem lw_p17 : lw_okq (⟨"TurnipPages$Telegram", "writePage", "(ILTurnipPages$Text;)V"⟩, 7) := ⟨⟨by decide +kernel, by decide +kernel⟩, List.mem_of_getElem? (i := 79) (by decide +kernel), List.mem_of_getElem? (i := 1376) (by decide +kernel), List.mem_of_getElem? (i := 1377) (by decide +kernel)⟩
def lw_privs_2 : List (MethodName × Nat) := [(⟨"TurnipPages", "requireValidCode", "(I)LTurnipPages$Text;"⟩, 11), (⟨"TurnipPages$Telegram", "writePage", "(ILTurnipPages$Text;)V"⟩, 7)]
theorem lw_r2 : ∀ q ∈ lw_privs_2, lw_okq q := List.forall_mem_cons.mpr ⟨lw_p16, List.forall_mem_cons.mpr ⟨lw_p17, fun _ h => absurd h List.not_mem_nil⟩⟩
def lw_privs : List (MethodName × Nat) := lw_privs_1 ++ (lw_privs_2)
def lw_tbl : List Cond := k2_sels lw_privs ++ tables_1
theorem lw_privs_ok : ∀ q ∈ lw_privs, lw_okq q := by
  show ∀ q ∈ lw_privs_1 ++ (lw_privs_2), lw_okq q
  exact List.forall_mem_append.mpr ⟨lw_r1, lw_r2⟩
/-- the streams that the claim lets the run draw from -/
abbrev lw_cs : List Choice := [Jvm.Choice.named "NaN.bits"]
theorem lw_bits : nanBits ∈ lw_cs := by first | decide | exact List.mem_cons_self | simp [lw_cs, nanBits]
end
section
/-! the words that the tables give, for every method the same -/
def zz_gw : List Cond := lw_tbl.filter goodWord
def zz_nk : Cond → Bool
  | .methodLinkNest .. => true
  | .castable .. => true
  | .declares .. => true
  | _ => false
def zz_nw : List Cond := lw_tbl.filter (fun w => !goodWord w && zz_nk w)
def zz_Nw (U : State) : Prop := ∀ w ∈ zz_nw, w.before #[] U = true
theorem zz_Nw.warm {s U : State} (hW : s.WarmedH U.vm) (h : zz_Nw s) : zz_Nw U := by
  intro w hw
  have h0 := h w hw
  have hk := (List.mem_filter.mp hw).2
  simp only [Bool.and_eq_true] at hk
  have hk := hk.2
  cases w <;> first
    | exact va_Nw.warmM hW h0
    | exact va_Nw.warmC hW h0
    | exact va_Nw.warmD hW h0
    | (simp [zz_nk] at hk)
theorem zz_in {w : Cond} (i : Nat) (h : lw_tbl[i]? = some w) (hg : goodWord w = true) : w ∈ zz_gw := List.mem_filter.mpr ⟨List.mem_of_getElem? h, hg⟩
theorem zz_inN {w : Cond} (i : Nat) (h : lw_tbl[i]? = some w) (hg : (!goodWord w && zz_nk w) = true) : w ∈ zz_nw := List.mem_filter.mpr ⟨List.mem_of_getElem? h, hg⟩
theorem zz_gw_good : ∀ w ∈ zz_gw, goodWord w = true := fun w hw => (List.mem_filter.mp hw).2
/-! methods: name, bytes, locals, return type, table of handlers, depth -/
abbrev zz_M : Type := MethodName × ByteArray × Nat × Option FieldType × List (Nat × Nat × Nat × Nat) × Nat
abbrev zz_y (M : zz_M) : MethodName := M.1
abbrev zz_b (M : zz_M) : ByteArray := M.2.1
abbrev zz_n (M : zz_M) : Nat := M.2.2.1
abbrev zz_r (M : zz_M) : Option FieldType := M.2.2.2.1
abbrev zz_hh (M : zz_M) : List (Nat × Nat × Nat × Nat) := M.2.2.2.2.1
abbrev zz_d (M : zz_M) : Nat := M.2.2.2.2.2
def zz_cw (M : zz_M) : Cond := match zz_hh M with
  | [] => .code (zz_y M) (zz_b M) (zz_n M) (zz_r M)
  | hh => .codeWith (zz_y M) (zz_b M) (zz_n M) (zz_r M) hh
def zz_ws (M : zz_M) : List Cond := zz_cw M :: zz_gw
def zz_rm (M : zz_M) (mc ms : Nat) : Room := { frames := zz_d M, cells := mc, slots := ms, locals := 40 * zz_d M }
/-! the classes of the picture -/
def zz_c0 : String := "TurnipPages"
def zz_T0 : u_T := fun k => match k with
  | 0 => (zz_c0, "message", "LTurnipPages$Text;", true)
  | 1 => (zz_c0, "buffer", "LTurnipPages$Text;", true)
  | 2 => (zz_c0, "line", "LTurnipPages$Text;", true)
  | 3 => (zz_c0, "carver", "LTurnipPages$Carver;", true)
  | 4 => (zz_c0, "store", "LTurnipPages$Store;", true)
  | 5 => (zz_c0, "snapshot", "LTurnipPages$Store;", true)
  | 6 => (zz_c0, "history", "LTurnipPages$History;", true)
  | 7 => (zz_c0, "commands", "LTurnipPages$Commands;", true)
  | 8 => (zz_c0, "denial", "LTurnipPages$Denial;", true)
  | 9 => (zz_c0, "snapshotSaved", "Z", false)
  | _ => (zz_c0, "keptFault", "I", false)
def zz_c1 : String := "TurnipPages$Carver"
def zz_T1 : u_T := fun k => match k with
  | 0 => (zz_c1, "store", "LTurnipPages$Store;", true)
  | 1 => (zz_c1, "decoded", "LTurnipPages$Text;", true)
  | 2 => (zz_c1, "recoded", "LTurnipPages$Text;", true)
  | _ => (zz_c1, "detail", "I", false)
def zz_c2 : String := "TurnipPages$Commands"
def zz_T2 : u_T := fun k => match k with
  | 0 => (zz_c2, "kinds", "[I", true)
  | 1 => (zz_c2, "firsts", "[I", true)
  | 2 => (zz_c2, "seconds", "[I", true)
  | 3 => (zz_c2, "position", "I", false)
  | _ => (zz_c2, "count", "I", false)
def zz_c3 : String := "TurnipPages$Denial"
def zz_T3 : u_T := fun k => match k with
  | 0 => (zz_c3, "number", "I", false)
  | 1 => (zz_c3, "detail", "I", false)
  | _ => (zz_c3, "cause", "I", false)
def zz_c4 : String := "TurnipPages$History"
def zz_T4 : u_T := fun k => match k with
  | 0 => (zz_c4, "stores", "[LTurnipPages$Store;", true)
  | 1 => (zz_c4, "first", "I", false)
  | _ => (zz_c4, "count", "I", false)
def zz_c5 : String := "TurnipPages$Store"
def zz_T5 : u_T := fun k => match k with
  | 0 => (zz_c5, "dampnesses", "[I", true)
  | 1 => (zz_c5, "telegrams", "[LTurnipPages$Telegram;", true)
  | 2 => (zz_c5, "rootCount", "I", false)
  | 3 => (zz_c5, "telegramCount", "I", false)
  | 4 => (zz_c5, "nextNumber", "I", false)
  | 5 => (zz_c5, "day", "I", false)
  | _ => (zz_c5, "carvedCharacters", "I", false)
def zz_c6 : String := "TurnipPages$Telegram"
def zz_T6 : u_T := fun k => match k with
  | 0 => (zz_c6, "code", "LTurnipPages$Text;", true)
  | 1 => (zz_c6, "rots", "[I", true)
  | 2 => (zz_c6, "pages", "I", false)
  | 3 => (zz_c6, "number", "I", false)
  | 4 => (zz_c6, "root", "I", false)
  | 5 => (zz_c6, "priority", "I", false)
  | _ => (zz_c6, "checksum", "I", false)
def zz_c7 : String := "TurnipPages$Text"
def zz_T7 : u_T := fun k => match k with
  | 0 => (zz_c7, "characters", "[C", true)
  | _ => (zz_c7, "length", "I", false)
def zz_c8 : String := "java/lang/String"
def zz_T8 : u_T := fun k => match k with
  | 0 => (zz_c8, "value", "[B", true)
  | 1 => (zz_c8, "coder", "B", true)
  | 2 => (zz_c8, "hash", "I", false)
  | _ => (zz_c8, "hashIsZero", "Z", false)
def zz_c9 : String := "java/lang/StringBuilder"
def zz_cA : String := "java/lang/AbstractStringBuilder"
def zz_T9 : u_T := fun k => match k with
  | 0 => (zz_cA, "value", "[B", false)
  | 1 => (zz_cA, "coder", "B", false)
  | 2 => (zz_cA, "maybeLatin1", "Z", false)
  | _ => (zz_cA, "count", "I", false)
def zz_cl : List vw_C := [(zz_c0, zz_T0, 11), (zz_c1, zz_T1, 4), (zz_c2, zz_T2, 5), (zz_c3, zz_T3, 3), (zz_c4, zz_T4, 3), (zz_c5, zz_T5, 7), (zz_c6, zz_T6, 7), (zz_c7, zz_T7, 2), (zz_c8, zz_T8, 2), (zz_c9, zz_T9, 4)]
/-- the type of field k of class c -/
def zz_ty (c k : Nat) : FieldType := match zz_cl[c]? with
  | some r => (parseFieldDescriptor (r.2.1 k).2.2.1).getD .int
  | none => .int
/-- is it a reference -/
def zz_ir (c k : Nat) : Bool := (zz_ty c k).isReference
theorem zz_cl_in : (zz_cl.all fun r => (u_ws r.1 r.2.1 r.2.2).all fun w => decide (w ∈ zz_gw)) = true := by decide +kernel
theorem zz_cl_ty : (zz_cl.all fun r => (List.range r.2.2).all fun k => decide ((parseFieldDescriptor (r.2.1 k).2.2.1).isSome = true)) = true := by decide +kernel
theorem zz_cl_nm : (zz_cl.all fun r => (List.range r.2.2).all fun a => (List.range r.2.2).all fun b => decide (a ≠ b → (r.2.1 a).2.1 ≠ (r.2.1 b).2.1)) = true := by decide +kernel
theorem zz_clI {c : Nat} {r : vw_C} (h : zz_cl[c]? = some r) : ∀ w ∈ u_ws r.1 r.2.1 r.2.2, w ∈ zz_gw := by
  have h1 := List.all_eq_true.mp zz_cl_in r (List.mem_of_getElem? h)
  intro w hw
  exact of_decide_eq_true (List.all_eq_true.mp h1 w hw)
theorem zz_clT {c : Nat} {r : vw_C} (h : zz_cl[c]? = some r) : ∀ k, k < r.2.2 → parseFieldDescriptor (r.2.1 k).2.2.1 = some (zz_ty c k) := by
  have h1 := List.all_eq_true.mp zz_cl_ty r (List.mem_of_getElem? h)
  intro k hk
  have h2 := of_decide_eq_true (List.all_eq_true.mp h1 k (List.mem_range.mpr hk))
  obtain ⟨t, ht⟩ := Option.isSome_iff_exists.mp h2
  unfold zz_ty
  simp only [h, ht, Option.getD_some]
theorem zz_clN {c : Nat} {r : vw_C} (h : zz_cl[c]? = some r) : ∀ a, a < r.2.2 → ∀ b, b < r.2.2 → a ≠ b → (r.2.1 a).2.1 ≠ (r.2.1 b).2.1 := by
  have h1 := List.all_eq_true.mp zz_cl_nm r (List.mem_of_getElem? h)
  intro a ha b hb
  have h2 := List.all_eq_true.mp h1 a (List.mem_range.mpr ha)
  exact of_decide_eq_true (List.all_eq_true.mp h2 b (List.mem_range.mpr hb))
end
section
/-! the picture of the heap: kinds, references, ints, longs, size; everything from the law's entry on (g's heap) -/
abbrev zz_G : Type := (Nat → ClassId) × (Nat → Nat → Nat) × (Nat → ClassId) × State × (Nat → Nat)
abbrev zz_H : Type := (Nat → Nat × Nat) × (Nat → Nat → Option Nat) × (Nat → Nat → Int32) × (Nat → Nat → Int64) × Nat
abbrev zz_s0 (g : zz_G) : State := g.2.2.2.1
abbrev zz_hb (g : zz_G) : Heap := g.2.2.2.1.heap
def zz_A (g : zz_G) : Nat → Prop := fun q => (zz_hb g).size ≤ q
/-- kinds: an object of class c; an array of type t, of length n -/
abbrev zz_o (c : Nat) : Nat × Nat := (1, c)
abbrev zz_a (t n : Nat) : Nat × Nat := (t + 2, n)
/-- the array types: int, char, byte, long, telegrams, stores -/
def zz_at : Nat → FieldType := fun t => match t with
  | 0 => .int
  | 1 => .char
  | 2 => .byte
  | 3 => .long
  | 4 => .object zz_c6
  | _ => .object zz_c5
def zz_fv (c a : Nat) (R : Nat → Nat → Option Nat) (I : Nat → Nat → Int32) (k : Nat) : Value := if zz_ir c k = true then va_rf (R a k) else .int (I a k)
def zz_el (t a : Nat) (R : Nat → Nat → Option Nat) (I : Nat → Nat → Int32) (L : Nat → Nat → Int64) (j : Nat) : Value := if t < 3 then .int (I a j) else if t = 3 then .long (L a j) else va_rf (R a j)
def zz_ob (g : zz_G) (R : Nat → Nat → Option Nat) (I : Nat → Nat → Int32) (H : Heap) (a c : Nat) : Prop :=
  ∃ (r : vw_C) (cell : Cell), zz_cl[c]? = some r ∧ H[a]? = some cell ∧ cell.cls = g.1 c ∧ cell.vm.isStatics = false ∧ cell.vm ≠ .unknown ∧ (zz_A g a → cell.vm = .none) ∧ ∀ k, k < r.2.2 → cell.slots[g.2.1 c k]? = some (zz_fv c a R I k)
def zz_ar (g : zz_G) (R : Nat → Nat → Option Nat) (I : Nat → Nat → Int32) (L : Nat → Nat → Int64) (H : Heap) (a t n : Nat) : Prop :=
  ∃ cell : Cell, H[a]? = some cell ∧ (zz_s0 g).isArrayOf cell (zz_at t) ∧ cell.vm ≠ .unknown ∧ n ≤ cell.slots.size ∧ cell.slots.size.toInt32 = Int32.ofNat n ∧ (∀ j, j < n → cell.slots[j]? = some (zz_el t a R I L j)) ∧
    (zz_A g a → cell = arrV (g.2.2.1 t) n (zz_el t a R I L)) ∧ (t < 3 → ∀ j, j < n → fits (zz_at t) (.int (I a j)) = true)
def zz_hp (g : zz_G) (h : zz_H) (H : Heap) : Prop :=
  (∀ a c : Nat, h.1 a = zz_o c → zz_ob g h.2.1 h.2.2.1 H a c) ∧
  (∀ a t n : Nat, h.1 a = zz_a t n → zz_ar g h.2.1 h.2.2.1 h.2.2.2.1 H a t n) ∧
  (∀ a : Nat, a < (zz_hb g).size → H[a]? = (zz_hb g)[a]?) ∧ (zz_hb g).size ≤ H.size ∧ h.2.2.2.2 = H.size
/-- String constants: class, entry, text, number -/
def zz_sR (g : zz_G) (U : State) (r : String × Nat × String × Nat) : Prop := vk_R r.1 r.2.1 r.2.2.1 (g.2.2.2.2 r.2.2.2) U
def zz_str : List (String × Nat × String × Nat) := [("TurnipPages$Commands", 83, "root ", 0), ("TurnipPages$Commands", 85, "dry ", 1), ("TurnipPages$Commands", 87, "age ", 2), ("TurnipPages$Commands", 89, "recarve ", 3), ("TurnipPages$Commands", 91, "move ", 4), ("TurnipPages$Commands", 93, "drop ", 5), ("TurnipPagesLaw", 182, "", 6), ("TurnipPagesLaw", 188, "ab7\\0 z39", 7), ("java/util/Arrays", 337, " > ", 8), ("TurnipPagesLaw", 289, "a12", 9), ("java/lang/StringLatin1", 151, "", 10), ("java/lang/StringUTF16", 295, "", 11), ("TurnipPagesLaw", 295, "ab3\\7", 12), ("TurnipPagesLaw", 306, "age 2;drop ", 13), ("TurnipPagesLaw", 311, "recarve ", 14), ("TurnipPagesLaw", 313, ";move ", 15), ("TurnipPagesLaw", 315, " 1", 16), ("TurnipPagesLaw", 343, "q", 17), ("TurnipPagesLaw", 347, "age 3;drop 99;drop 99", 18), ("TurnipPagesLaw", 349, "age 1;move ", 19), ("TurnipPagesLaw", 351, " ", 20), ("TurnipPagesLaw", 365, "abc", 21)]
/-- classes of exceptions that aren't each other's -/
def zz_nc : List (String × String) := [("java/lang/IllegalStateException", "java/lang/IllegalArgumentException"), ("java/lang/UnsupportedOperationException", "java/lang/IllegalArgumentException"), ("java/lang/UnsupportedOperationException", "java/lang/IndexOutOfBoundsException"), ("java/lang/IllegalArgumentException", "java/lang/IndexOutOfBoundsException"), ("java/lang/IndexOutOfBoundsException", "java/util/NoSuchElementException"), ("java/lang/IllegalArgumentException", "java/util/NoSuchElementException"), ("java/lang/UnsupportedOperationException", "java/util/NoSuchElementException")]
/-- what the tables say -/
def zz_Kn (g : zz_G) (U : State) : Prop :=
  (zz_s0 g).vm.Alike U.vm ∧
  (∀ (c : Nat) (q : vw_C), zz_cl[c]? = some q → u_Kn U q.1 q.2.1 q.2.2 (g.1 c) (g.2.1 c)) ∧
  (∀ t, t < 6 → ArrOfT U (g.2.2.1 t) (zz_at t) ∧ va_RA U (g.2.2.1 t) (zz_at t)) ∧ zz_Nw U ∧ (∀ r ∈ zz_str, zz_sR g U r) ∧ (∀ q ∈ zz_nc, va_Nc q.1 q.2 U) ∧ va_AO zz_c6 U ∧ va_AO zz_c5 U
theorem zz_Kn.warm {g : zz_G} {s U : State} (hW : s.WarmedH U.vm) (h : zz_Kn g s) : zz_Kn g U :=
  ⟨h.1.trans hW.alike, fun c q hq => u_Kn_moved hW.alike (h.2.1 c q hq), fun t ht => ⟨arrOfT_moved hW.alike (h.2.2.1 t ht).1, (h.2.2.1 t ht).2.moved hW.alike⟩, h.2.2.2.1.warm hW, fun r hr => vk_R.warm hW (h.2.2.2.2.1 r hr), fun q hq => va_Nc.moved hW.alike (h.2.2.2.2.2.1 q hq), h.2.2.2.2.2.2.1.moved hW.alike, h.2.2.2.2.2.2.2.moved hW.alike⟩
/-- statics -/
def zz_St (g : zz_G) (U : State) (H : Heap) : Prop :=
  vx_Zq Bundle.tN "UNASSIGNED_STACK" Bundle.steD (zz_A g) U H ∧ vx_Zq Bundle.tN "SUPPRESSED_SENTINEL" Bundle.listD (zz_A g) U H ∧
  va_Z "java/lang/String" "COMPACT_STRINGS" "Z" (.int 1) (zz_A g) U H ∧ va_Z "java/lang/Integer" "DigitOnes" "[B" (.ref (g.2.2.2.2 30)) (zz_A g) U H ∧
  va_Zq "jdk/internal/util/Preconditions" "SIOOBE_FORMATTER" "Ljava/util/function/BiFunction;" (zz_A g) U H
theorem zz_St.moved {g : zz_G} {u U : State} {H : Heap} (hvm : u.vm.Alike U.vm) (h : zz_St g u H) : zz_St g U H :=
  ⟨h.1.moved hvm, h.2.1.moved hvm, h.2.2.1.moved hvm, h.2.2.2.1.moved hvm, h.2.2.2.2.moved hvm⟩
theorem zz_St.kept {g : zz_G} {U : State} {H H1 : Heap} (h : zz_St g U H) (hq : ∀ a : Nat, a < H.size → ¬ zz_A g a → H1[a]? = H[a]?) : zz_St g U H1 :=
  ⟨h.1.kept hq, h.2.1.kept hq, h.2.2.1.kept hq, h.2.2.2.1.kept hq, h.2.2.2.2.kept hq⟩
/-- a state whose heap has the picture h -/
def zz_W (g : zz_G) (h : zz_H) (U : State) : Prop := zz_Kn g U ∧ zz_hp g h U.heap ∧ zz_St g U U.heap
theorem zz_W.calling {g : zz_G} {h : zz_H} {U : State} (G : JFrame) (mk : MethodId) (a : Array Value) (q : zz_W g h U) : zz_W g h (U.calling G mk a) := by
  obtain ⟨⟨h0, h1, h2, h3, h4, h5, h6, h7⟩, hp, hs⟩ := q
  refine ⟨⟨h0, fun c q hq => u_Kn_moved (u := U) (Vm.Alike.refl U.vm) (h1 c q hq), fun t ht => ⟨arrOfT_moved (u := U) (Vm.Alike.refl U.vm) (h2 t ht).1, va_RA.moved (u := U) (Vm.Alike.refl U.vm) (h2 t ht).2⟩, fun w hw => ?_, fun r hr => vk_R.same (u := U) rfl (h4 r hr), fun q hq => va_Nc.moved (u := U) (Vm.Alike.refl U.vm) (h5 q hq), va_AO.moved (u := U) (Vm.Alike.refl U.vm) h6, va_AO.moved (u := U) (Vm.Alike.refl U.vm) h7⟩, hp, zz_St.moved (u := U) (Vm.Alike.refl U.vm) hs⟩
  have hk := (List.mem_filter.mp hw).2
  simp only [Bool.and_eq_true] at hk
  have hk := hk.2
  have h9 := h3 w hw
  cases w <;> first
    | exact va_Nw.same (u := U) rfl rfl h9
    | (simp [zz_nk] at hk)
/-- the old part of the heap is kept -/
theorem zz_hp.old {g : zz_G} {h h' : zz_H} {H H' : Heap} (p : zz_hp g h H) (p' : zz_hp g h' H') : ∀ a : Nat, ¬ zz_A g a → H'[a]? = H[a]? := by
  intro a ha
  have h1 : a < (zz_hb g).size := Nat.not_le.mp ha
  rw [p'.2.2.1 a h1, p.2.2.1 a h1]
/-! places of a picture -/
def zz_up {α : Type} (f : Nat → Nat → α) (a k : Nat) (x : α) : Nat → Nat → α := fun b j => if b = a ∧ j = k then x else f b j
theorem zz_up_s {α : Type} {f : Nat → Nat → α} {a k : Nat} {x : α} : zz_up f a k x a k = x := by simp [zz_up]
theorem zz_up_a {α : Type} {f : Nat → Nat → α} {a k : Nat} {x : α} {b j : Nat} (h : b ≠ a) : zz_up f a k x b j = f b j := by simp [zz_up, h]
theorem zz_up_k {α : Type} {f : Nat → Nat → α} {a k : Nat} {x : α} {b j : Nat} (h : j ≠ k) : zz_up f a k x b j = f b j := by simp [zz_up, h]
theorem zz_up_r {α : Type} {f : Nat → Nat → α} {a k : Nat} {x : α} {b : Nat} (h : b ≠ a) : zz_up f a k x b = f b := by funext j; exact zz_up_a h
/-- an object's cell lies in the heap -/
theorem zz_ob.lt {g : zz_G} {R : Nat → Nat → Option Nat} {I : Nat → Nat → Int32} {H : Heap} {a c : Nat} (h : zz_ob g R I H a c) : a < H.size := by
  obtain ⟨r, cell, hr, q1, -⟩ := h
  exact (Array.getElem?_eq_some_iff.mp q1).1
theorem zz_ar.lt {g : zz_G} {R : Nat → Nat → Option Nat} {I : Nat → Nat → Int32} {L : Nat → Nat → Int64} {H : Heap} {a t n : Nat} (h : zz_ar g R I L H a t n) : a < H.size := by
  obtain ⟨cell, q1, -⟩ := h
  exact (Array.getElem?_eq_some_iff.mp q1).1
theorem zz_ob.kept {g : zz_G} {R R' : Nat → Nat → Option Nat} {I I' : Nat → Nat → Int32} {H H' : Heap} {a c : Nat} (h : zz_ob g R I H a c) (hR : R' a = R a) (hI : I' a = I a) (hH : H'[a]? = H[a]?) : zz_ob g R' I' H' a c := by
  obtain ⟨r, cell, hr, q1, q2, q3, q4, q5, q6⟩ := h
  refine ⟨r, cell, hr, by rw [hH]; exact q1, q2, q3, q4, q5, fun k hk => ?_⟩
  rw [q6 k hk]
  unfold zz_fv
  rw [hR, hI]
theorem zz_ar.kept {g : zz_G} {R R' : Nat → Nat → Option Nat} {I I' : Nat → Nat → Int32} {L L' : Nat → Nat → Int64} {H H' : Heap} {a t n : Nat} (h : zz_ar g R I L H a t n) (hR : R' a = R a) (hI : I' a = I a) (hL : L' a = L a) (hH : H'[a]? = H[a]?) : zz_ar g R' I' L' H' a t n := by
  obtain ⟨cell, h1, h2, h3, h4, h5, h6, h7, h8⟩ := h
  have e : zz_el t a R' I' L' = zz_el t a R I L := by
    funext j
    unfold zz_el
    rw [hR, hI, hL]
  exact ⟨cell, by rw [hH]; exact h1, h2, h3, h4, h5, fun j hj => by rw [e]; exact h6 j hj, fun hA => by rw [e]; exact h7 hA, fun ht j hj => by rw [hI]; exact h8 ht j hj⟩
theorem zz_o_ne {c t n : Nat} : zz_o c ≠ zz_a t n := by
  intro h
  have := congrArg Prod.fst h
  simp at this
theorem zz_a_inj {t n t' n' : Nat} (h : zz_a t n = zz_a t' n') : t = t' ∧ n = n' := by
  have h1 := congrArg Prod.fst h
  have h2 := congrArg Prod.snd h
  simp at h1 h2
  exact ⟨h1, h2⟩
/-- one cell is written, none is made -/
theorem zz_hp.set {g : zz_G} {K : Nat → Nat × Nat} {R R' : Nat → Nat → Option Nat} {I I' : Nat → Nat → Int32} {L L' : Nat → Nat → Int64} {z : Nat} {H H' : Heap} {a : Nat} (p : zz_hp g (K, R, I, L, z) H) (ha : zz_A g a)
    (hz : H'.size = H.size) (ho : ∀ q : Nat, q ≠ a → H'[q]? = H[q]?) (hR : ∀ b, b ≠ a → R' b = R b) (hI : ∀ b, b ≠ a → I' b = I b) (hL : ∀ b, b ≠ a → L' b = L b)
    (h1 : ∀ c, K a = zz_o c → zz_ob g R' I' H' a c) (h2 : ∀ t n, K a = zz_a t n → zz_ar g R' I' L' H' a t n) : zz_hp g (K, R', I', L', z) H' := by
  obtain ⟨p1, p2, p3, p4, p5⟩ := p
  refine ⟨fun b c hb => ?_, fun b t n hb => ?_, fun b hb => ?_, by rw [hz]; exact p4, by rw [hz]; exact p5⟩
  · by_cases e : b = a
    · subst e; exact h1 c hb
    · exact (p1 b c hb).kept (hR b e) (hI b e) (ho b e)
  · by_cases e : b = a
    · subst e; exact h2 t n hb
    · exact (p2 b t n hb).kept (hR b e) (hI b e) (hL b e) (ho b e)
  · have : b ≠ a := fun e => by
      rw [e] at hb
      exact absurd ha (Nat.not_le.mpr hb)
    rw [ho b this]
    exact p3 b hb
/-- one cell is made -/
theorem zz_hp.push {g : zz_G} {K : Nat → Nat × Nat} {R R' : Nat → Nat → Option Nat} {I I' : Nat → Nat → Int32} {L L' : Nat → Nat → Int64} {z : Nat} {H H' : Heap} {kd : Nat × Nat} (p : zz_hp g (K, R, I, L, z) H)
    (hz : H'.size = H.size + 1) (ho : ∀ q : Nat, q < H.size → H'[q]? = H[q]?) (hR : ∀ b, b ≠ z → R' b = R b) (hI : ∀ b, b ≠ z → I' b = I b) (hL : ∀ b, b ≠ z → L' b = L b)
    (h1 : ∀ c, kd = zz_o c → zz_ob g R' I' H' z c) (h2 : ∀ t n, kd = zz_a t n → zz_ar g R' I' L' H' z t n) : zz_hp g ((fun b => if b = z then kd else K b), R', I', L', z + 1) H' := by
  obtain ⟨p1, p2, p3, p4, p5⟩ := p
  have p5 : z = H.size := p5
  refine ⟨fun b c hb => ?_, fun b t n hb => ?_, fun b hb => ?_, by rw [hz]; omega, by show z + 1 = _; rw [hz, p5]⟩
  · by_cases e : b = z
    · subst e
      exact h1 c (by simpa using hb)
    · have hb : K b = zz_o c := by simpa [e] using hb
      exact (p1 b c hb).kept (hR b e) (hI b e) (ho b (p1 b c hb).lt)
  · by_cases e : b = z
    · subst e
      exact h2 t n (by simpa using hb)
    · have hb : K b = zz_a t n := by simpa [e] using hb
      exact (p2 b t n hb).kept (hR b e) (hI b e) (hL b e) (ho b (p2 b t n hb).lt)
  · rw [ho b (Nat.lt_of_lt_of_le hb p4)]
    exact p3 b hb
/-- cells of which the picture says nothing are made -/
theorem zz_hp.grow {g : zz_G} {K : Nat → Nat × Nat} {R : Nat → Nat → Option Nat} {I : Nat → Nat → Int32} {L : Nat → Nat → Int64} {z : Nat} {H H' : Heap} (p : zz_hp g (K, R, I, L, z) H)
    (hz : H.size ≤ H'.size) (ho : ∀ q : Nat, q < H.size → H'[q]? = H[q]?) : zz_hp g (K, R, I, L, H'.size) H' := by
  obtain ⟨p1, p2, p3, p4, p5⟩ := p
  refine ⟨fun b c hb => ?_, fun b t n hb => ?_, fun b hb => ?_, Nat.le_trans p4 hz, rfl⟩
  · exact (p1 b c hb).kept rfl rfl (ho b (p1 b c hb).lt)
  · exact (p2 b t n hb).kept rfl rfl rfl (ho b (p2 b t n hb).lt)
  · rw [ho b (Nat.lt_of_lt_of_le hb p4)]
    exact p3 b hb
end
section
/-! THE JUDGEMENT: from here (pc, locals, stack, picture of the heap) the method comes to its end with Q, or throws with QX -/
def zz_g : List (Option Value) → Nat → Option Value
  | [], _ => none
  | x :: _, 0 => x
  | _ :: t, n + 1 => zz_g t n
def zz_lv (lv : List (Option Value)) (nL : Nat) (ls : Array Slot) : Prop := ls.size = nL ∧ lv_wf ls ∧ ∀ (i : Nat) (v : Value), zz_g lv i = some v → ls[i]? = some (.val v)
def zz_k2 : Option Value → Option Value
  | some (.long _) => none
  | some (.double _) => none
  | x => x
def zz_s : List (Option Value) → Nat → Value → List (Option Value)
  | [], 0, v => [some v]
  | [], n + 1, v => none :: zz_s [] n v
  | _ :: t, 0, v => some v :: t
  | x :: t, 1, v => zz_k2 x :: zz_s t 0 v
  | x :: t, n + 2, v => x :: zz_s t (n + 1) v
def zz_t : List (Option Value) → List (Option Value)
  | [] => []
  | _ :: t => none :: t
def zz_s2 : List (Option Value) → Nat → Value → List (Option Value)
  | [], 0, v => [some v]
  | [], n + 1, v => none :: zz_s2 [] n v
  | _ :: t, 0, v => some v :: zz_t t
  | x :: t, 1, v => zz_k2 x :: zz_s2 t 0 v
  | x :: t, n + 2, v => x :: zz_s2 t (n + 1) v
theorem zz_g_s : ∀ (lv : List (Option Value)) (i : Nat) (v w : Value) (j : Nat), zz_g (zz_s lv i v) j = some w → (j = i ∧ w = v) ∨ (j ≠ i ∧ zz_g lv j = some w ∧ (j + 1 = i → w.category ≠ 2))
  | [], 0, v, w, j, h => by
    cases j with
    | zero => left; simp [zz_s, zz_g] at h; exact ⟨rfl, h.symm⟩
    | succ j => simp [zz_s, zz_g] at h
  | [], n + 1, v, w, j, h => by
    cases j with
    | zero => simp [zz_s, zz_g] at h
    | succ j =>
      simp only [zz_s, zz_g] at h
      rcases zz_g_s [] n v w j h with ⟨h1, h2⟩ | ⟨h1, h2, h3⟩
      · exact Or.inl ⟨by omega, h2⟩
      · simp [zz_g] at h2
  | x :: t, 0, v, w, j, h => by
    cases j with
    | zero => left; simp [zz_s, zz_g] at h; exact ⟨rfl, h.symm⟩
    | succ j => right; simp only [zz_s, zz_g] at h ⊢; exact ⟨by omega, h, by omega⟩
  | x :: t, 1, v, w, j, h => by
    cases j with
    | zero =>
      right
      simp only [zz_s, zz_g] at h ⊢
      refine ⟨by omega, ?_, fun _ => ?_⟩
      · cases x with
        | none => simp [zz_k2] at h
        | some y => cases y <;> simp_all [zz_k2]
      · cases x with
        | none => simp [zz_k2] at h
        | some y => cases y <;> simp_all [zz_k2] <;> (rw [← h]; simp [Value.category])
    | succ j =>
      simp only [zz_s, zz_g] at h
      rcases zz_g_s t 0 v w j h with ⟨h1, h2⟩ | ⟨h1, h2, h3⟩
      · exact Or.inl ⟨by omega, h2⟩
      · exact Or.inr ⟨by omega, by simpa [zz_g] using h2, by omega⟩
  | x :: t, n + 2, v, w, j, h => by
    cases j with
    | zero => right; simp only [zz_s, zz_g] at h ⊢; exact ⟨by omega, h, by omega⟩
    | succ j =>
      simp only [zz_s, zz_g] at h
      rcases zz_g_s t (n + 1) v w j h with ⟨h1, h2⟩ | ⟨h1, h2, h3⟩
      · exact Or.inl ⟨by omega, h2⟩
      · exact Or.inr ⟨by omega, by simpa [zz_g] using h2, fun q => h3 (by omega)⟩
theorem zz_g_s2 : ∀ (lv : List (Option Value)) (i : Nat) (v w : Value) (j : Nat), zz_g (zz_s2 lv i v) j = some w → (j = i ∧ w = v) ∨ (j ≠ i ∧ j ≠ i + 1 ∧ zz_g lv j = some w ∧ (j + 1 = i → w.category ≠ 2))
  | [], 0, v, w, j, h => by
    cases j with
    | zero => left; simp [zz_s2, zz_g] at h; exact ⟨rfl, h.symm⟩
    | succ j => simp [zz_s2, zz_g] at h
  | [], n + 1, v, w, j, h => by
    cases j with
    | zero => simp [zz_s2, zz_g] at h
    | succ j =>
      simp only [zz_s2, zz_g] at h
      rcases zz_g_s2 [] n v w j h with ⟨h1, h2⟩ | ⟨h1, h2, h3, h4⟩
      · exact Or.inl ⟨by omega, h2⟩
      · simp [zz_g] at h3
  | x :: t, 0, v, w, j, h => by
    cases j with
    | zero => left; simp [zz_s2, zz_g] at h; exact ⟨rfl, h.symm⟩
    | succ j =>
      right
      simp only [zz_s2, zz_g] at h ⊢
      cases t with
      | nil => simp [zz_t, zz_g] at h
      | cons y t =>
        cases j with
        | zero => simp [zz_t, zz_g] at h
        | succ j => simp only [zz_t, zz_g] at h ⊢; exact ⟨by omega, by omega, h, by omega⟩
  | x :: t, 1, v, w, j, h => by
    cases j with
    | zero =>
      right
      simp only [zz_s2, zz_g] at h ⊢
      refine ⟨by omega, by omega, ?_, fun _ => ?_⟩
      · cases x with
        | none => simp [zz_k2] at h
        | some y => cases y <;> simp_all [zz_k2]
      · cases x with
        | none => simp [zz_k2] at h
        | some y => cases y <;> simp_all [zz_k2] <;> (rw [← h]; simp [Value.category])
    | succ j =>
      simp only [zz_s2, zz_g] at h
      rcases zz_g_s2 t 0 v w j h with ⟨h1, h2⟩ | ⟨h1, h2, h3, h4⟩
      · exact Or.inl ⟨by omega, h2⟩
      · exact Or.inr ⟨by omega, by omega, by simpa [zz_g] using h3, by omega⟩
  | x :: t, n + 2, v, w, j, h => by
    cases j with
    | zero => right; simp only [zz_s2, zz_g] at h ⊢; exact ⟨by omega, by omega, h, by omega⟩
    | succ j =>
      simp only [zz_s2, zz_g] at h
      rcases zz_g_s2 t (n + 1) v w j h with ⟨h1, h2⟩ | ⟨h1, h2, h3, h4⟩
      · exact Or.inl ⟨by omega, h2⟩
      · exact Or.inr ⟨by omega, by omega, by simpa [zz_g] using h3, fun q => h4 (by omega)⟩
/-- the same as the kit's list of known locals -/
def zz_L (lv : List (Option Value)) : List (Nat × Value) := (List.range lv.length).filterMap fun i => (zz_g lv i).map fun v => (i, v)
theorem zz_g_lt : ∀ (lv : List (Option Value)) (i : Nat) (v : Value), zz_g lv i = some v → i < lv.length
  | [], _, _, h => by simp [zz_g] at h
  | _ :: t, 0, _, _ => by simp
  | _ :: t, n + 1, v, h => by simp only [zz_g] at h; have := zz_g_lt t n v h; simp; omega
theorem zz_L_mem {lv : List (Option Value)} {i : Nat} {v : Value} : (i, v) ∈ zz_L lv ↔ zz_g lv i = some v := by
  constructor
  · intro h
    obtain ⟨j, -, hj⟩ := List.mem_filterMap.mp h
    cases hg : zz_g lv j with
    | none => rw [hg] at hj; cases hj
    | some w =>
      rw [hg] at hj
      simp at hj
      obtain ⟨rfl, rfl⟩ := hj
      exact hg
  · intro h
    exact List.mem_filterMap.mpr ⟨i, List.mem_range.mpr (zz_g_lt lv i v h), by rw [h]; rfl⟩
theorem zz_lv.has {lv : List (Option Value)} {nL : Nat} {ls : Array Slot} (h : zz_lv lv nL ls) : lv_has ls nL (zz_L lv) :=
  ⟨h.1, h.2.1, fun q hq => h.2.2 q.1 q.2 (zz_L_mem.mp hq)⟩
theorem zz_lv.st1 {lv : List (Option Value)} {nL i : Nat} {v : Value} {ls' : Array Slot} (h : lv_has ls' nL ((i, v) :: (zz_L lv).filter (fun q => !(q.1 == i) && !(q.1 + 1 == i && q.2.category == 2)))) : zz_lv (zz_s lv i v) nL ls' := by
  refine ⟨h.1, h.2.1, fun j w hw => ?_⟩
  rcases zz_g_s lv i v w j hw with ⟨rfl, rfl⟩ | ⟨h1, h2, h3⟩
  · exact h.2.2 (j, w) List.mem_cons_self
  · refine h.2.2 (j, w) (List.mem_cons_of_mem _ (List.mem_filter.mpr ⟨zz_L_mem.mpr h2, ?_⟩))
    by_cases e : j + 1 = i
    · simp [h1, h3 e]
    · simp [h1, e]
theorem zz_lv.st2 {lv : List (Option Value)} {nL i : Nat} {v : Value} {ls' : Array Slot} (h : lv_has ls' nL ((i, v) :: (zz_L lv).filter (fun q => !(q.1 == i) && (!(q.1 == i + 1) && !(q.1 + 1 == i && q.2.category == 2))))) : zz_lv (zz_s2 lv i v) nL ls' := by
  refine ⟨h.1, h.2.1, fun j w hw => ?_⟩
  rcases zz_g_s2 lv i v w j hw with ⟨rfl, rfl⟩ | ⟨h1, h2, h3, h4⟩
  · exact h.2.2 (j, w) List.mem_cons_self
  · refine h.2.2 (j, w) (List.mem_cons_of_mem _ (List.mem_filter.mpr ⟨zz_L_mem.mpr h3, ?_⟩))
    by_cases e : j + 1 = i
    · simp [h1, h2, h4 e]
    · simp [h1, h2, e]
def zz_Qc (g : zz_G) (Q : Option Value → zz_H → Prop) : Array Value → State → Outcome → State → Prop := fun _ _ o t => ∃ (v : Option Value) (h : zz_H), o = .returned v ∧ zz_hp g h t.heap ∧ Q v h
def zz_XC (g : zz_G) (QX : String → zz_H → Prop) : String → State → State → Prop := fun E _ t => ∃ h : zz_H, zz_hp g h t.heap ∧ QX E h
/-- what holds in the body of M -/
def zz_C (g : zz_G) (l : Launch) (M : zz_M) (p : Program) (s : State) (m : MethodId) (args : Array Value) (meth : Method) (c : Code) : Prop :=
  p.tables.exec = Jvm.exec ∧ c.code = zz_b M ∧ meth.sig.returnType = zz_r M ∧ c.maxLocals = zz_n M ∧ s.vm.findClass (zz_y M).cls = some m.cls ∧ (∀ w ∈ zz_gw, w.before args s = true) ∧ (∃ h0, zz_W g h0 s) ∧ meth.locks = false ∧ c.exceptionTable.toList = tableOf (zz_hh M) ∧ l.stackTraces = false ∧ meth.name = (zz_y M).name
def Zz (g : zz_G) (l : Launch) (M : zz_M) (mc ms : Nat) (Q : Option Value → zz_H → Prop) (QX : String → zz_H → Prop) (ce sl pc : Nat) (lv : List (Option Value)) (st : List Value) (h : zz_H) : Prop :=
  ∀ (p : Program) (e : Env) (s : State) (m : MethodId) (args : Array Value) (below : List Frame) (meth : Method) (c : Code) (H : Heap) (locs : List Loc) (ls : Array Slot),
    zz_C g l M p s m args meth c → zz_hp g h H → zz_lv lv (zz_n M) ls → (∀ q ∈ locs, zz_A g q.base) →
    W p l e (zz_rm M mc ms) s m args below meth c H locs ce sl (vx_MQ below (zz_Qc g Q) (zz_XC g QX) args s mc ms (zz_A g)) (F0 m pc ls st)
/-- THE CONTRACT of a method: from the picture h with the arguments av it comes back with Q, or throws with QX; mc cells of ms slots at most are new -/
def zz_S (g : zz_G) (l : Launch) (M : zz_M) (mc ms : Nat) (av : List Value) (h : zz_H) (Q : Option Value → zz_H → Prop) (QX : String → zz_H → Prop) : Prop :=
  vx_Met l (zz_y M) (zz_ws M) (zz_rm M mc ms) (va_Pc av (fun U => zz_W g h U)) (zz_Qc g Q) (zz_XC g QX) mc ms (zz_A g)
theorem zz_S.mono {g : zz_G} {l : Launch} {M : zz_M} {mc ms : Nat} {av : List Value} {h : zz_H} {Q Q' : Option Value → zz_H → Prop} {QX QX' : String → zz_H → Prop} (k : zz_S g l M mc ms av h Q QX) (h1 : ∀ v h', Q v h' → Q' v h') (h2 : ∀ E h', QX E h' → QX' E h') : zz_S g l M mc ms av h Q' QX' := by
  intro p e ha hc hk s m args below hf happ hP hK
  obtain ⟨n, o, q1, q2, q3, q4⟩ := k p e ha hc hk s m args below hf happ hP hK
  refine ⟨n, o, q1, q2, q3, ?_⟩
  rcases q4 with ⟨⟨v, h', e1, e2, e3⟩, e4⟩ | ⟨q, e1, E, ce, L, ⟨h', e2, e3⟩, e4⟩
  · exact Or.inl ⟨⟨v, h', e1, e2, h1 v h' e3⟩, e4⟩
  · exact Or.inr ⟨q, e1, E, ce, L, ⟨h', e2, h2 E h' e3⟩, e4⟩
/-- .. that throws nothing -/
theorem zz_S.met {g : zz_G} {l : Launch} {M : zz_M} {mc ms : Nat} {av : List Value} {h : zz_H} {Q : Option Value → zz_H → Prop} {QX : String → zz_H → Prop} (k : zz_S g l M mc ms av h Q QX) (hx : ∀ E h', ¬ QX E h') : Met l (zz_y M) (zz_ws M) (zz_rm M mc ms) (va_Pc av (fun U => zz_W g h U)) (zz_Qc g Q) mc ms (zz_A g) := by
  intro p e ha hc hk s m args below hf happ hP hK
  obtain ⟨n, o, q1, q2, q3, q4⟩ := k p e ha hc hk s m args below hf happ hP hK
  refine ⟨n, o, q1, q2, q3, ?_⟩
  rcases q4 with q4 | ⟨q, e1, E, ce, L, ⟨h', e2, e3⟩, e4⟩
  · exact q4
  · exact absurd e3 (hx E h')
/-- the first locals -/
def zz_lv0 : List Value → List (Option Value)
  | [] => []
  | v :: t => if v.category = 2 then some v :: none :: zz_lv0 t else some v :: zz_lv0 t
theorem zz_lv0_args : ∀ (vs : List Value) (b i : Nat) (v : Value), zz_g (zz_lv0 vs) i = some v → (b + i, v) ∈ lv_args b vs := by
  intro vs
  induction vs with
  | nil => intro b i v h; simp [zz_lv0, zz_g] at h
  | cons x t ih =>
    intro b i v h
    unfold lv_args
    by_cases hx : x.category = 2
    · simp only [zz_lv0, if_pos hx] at h
      cases i with
      | zero => simp only [zz_g] at h; cases h; simp
      | succ i =>
        cases i with
        | zero => simp [zz_g] at h
        | succ i =>
          simp only [zz_g] at h
          have := ih (b + 2) i v h
          rw [show b + 2 + i = b + (i + 1 + 1) by omega] at this
          simp [hx, this]
    · simp only [zz_lv0, if_neg hx] at h
      cases i with
      | zero => simp only [zz_g] at h; cases h; simp
      | succ i =>
        simp only [zz_g] at h
        have := ih (b + 1) i v h
        rw [show b + 1 + i = b + (i + 1) by omega] at this
        have h1 : x.category = 1 := (lv_cat x).resolve_right hx
        simp [h1, this]
end
section
/-! RULES: a row an instruction -/
def zz_D (M : zz_M) (pc : Nat) (i : Instr) (len nx : Nat) : Prop := decode (zz_b M) pc = .ok (i, len) ∧ pc + len = nx
section Rules
variable {g : zz_G} {l : Launch} {M : zz_M} {mc ms : Nat} {Q : Option Value → zz_H → Prop} {QX : String → zz_H → Prop} {ce sl pc nx : Nat} {lv : List (Option Value)} {st : List Value} {h : zz_H}
theorem z_wid {ce' sl' : Nat} (h1 : ce ≤ ce') (h2 : sl ≤ sl') (k : Zz g l M mc ms Q QX ce' sl' pc lv st h) : Zz g l M mc ms Q QX ce sl pc lv st h := by
  intro p e s m args below meth c H locs ls C hH hl hL
  exact W.widen h1 h2 (k p e s m args below meth c H locs ls C hH hl hL)
theorem z_iconst {n : Int} {v : Int32} (d : zz_D M pc (.iconst n) 1 nx) (hv : Int32.ofInt n = v) (k : Zz g l M mc ms Q QX ce sl nx lv (.int v :: st) h) : Zz g l M mc ms Q QX ce sl pc lv (st) h := by
  obtain ⟨d, rfl⟩ := d
  intro p e s m args below meth c H locs ls C hH hl hL
  exact lv_iconst C.1 C.2.1 d hv (k p e s m args below meth c H locs ls C hH hl hL)
theorem z_bipush {n : Int} {v : Int32} (d : zz_D M pc (.bipush n) 2 nx) (hv : (Int8.ofInt n).toInt32 = v) (k : Zz g l M mc ms Q QX ce sl nx lv (.int v :: st) h) : Zz g l M mc ms Q QX ce sl pc lv (st) h := by
  obtain ⟨d, rfl⟩ := d
  intro p e s m args below meth c H locs ls C hH hl hL
  exact lv_bipush C.1 C.2.1 d hv (k p e s m args below meth c H locs ls C hH hl hL)
theorem z_sipush {n : Int} {v : Int32} (d : zz_D M pc (.sipush n) 3 nx) (hv : (Int16.ofInt n).toInt32 = v) (k : Zz g l M mc ms Q QX ce sl nx lv (.int v :: st) h) : Zz g l M mc ms Q QX ce sl pc lv (st) h := by
  obtain ⟨d, rfl⟩ := d
  intro p e s m args below meth c H locs ls C hH hl hL
  exact lv_sipush C.1 C.2.1 d hv (k p e s m args below meth c H locs ls C hH hl hL)
theorem z_null (d : zz_D M pc .aconst_null 1 nx) (k : Zz g l M mc ms Q QX ce sl nx lv (.null :: st) h) : Zz g l M mc ms Q QX ce sl pc lv (st) h := by
  obtain ⟨d, rfl⟩ := d
  intro p e s m args below meth c H locs ls C hH hl hL
  exact lv_null C.1 C.2.1 d (k p e s m args below meth c H locs ls C hH hl hL)
theorem z_iload {i : Nat} {x : Int32} (d : zz_D M pc (.iload i) 2 nx) (hv : zz_g lv i = some (.int x)) (k : Zz g l M mc ms Q QX ce sl nx lv (.int x :: st) h) : Zz g l M mc ms Q QX ce sl pc lv (st) h := by
  obtain ⟨d, rfl⟩ := d
  intro p e s m args below meth c H locs ls C hH hl hL
  exact lv_iload C.1 C.2.1 d (hl.2.2 _ _ hv) (k p e s m args below meth c H locs ls C hH hl hL)
theorem z_iload_n {i : Fin 4} {x : Int32} (d : zz_D M pc (.iload_n i) 1 nx) (hv : zz_g lv (i : Nat) = some (.int x)) (k : Zz g l M mc ms Q QX ce sl nx lv (.int x :: st) h) : Zz g l M mc ms Q QX ce sl pc lv (st) h := by
  obtain ⟨d, rfl⟩ := d
  intro p e s m args below meth c H locs ls C hH hl hL
  exact lv_iload_n C.1 C.2.1 d rfl (hl.2.2 _ _ hv) (k p e s m args below meth c H locs ls C hH hl hL)
theorem z_lload {i : Nat} {x : Int64} (d : zz_D M pc (.lload i) 2 nx) (hv : zz_g lv i = some (.long x)) (k : Zz g l M mc ms Q QX ce sl nx lv (.long x :: st) h) : Zz g l M mc ms Q QX ce sl pc lv (st) h := by
  obtain ⟨d, rfl⟩ := d
  intro p e s m args below meth c H locs ls C hH hl hL
  exact lv_lload C.1 C.2.1 d (hl.2.2 _ _ hv) (k p e s m args below meth c H locs ls C hH hl hL)
theorem z_lload_n {i : Fin 4} {x : Int64} (d : zz_D M pc (.lload_n i) 1 nx) (hv : zz_g lv (i : Nat) = some (.long x)) (k : Zz g l M mc ms Q QX ce sl nx lv (.long x :: st) h) : Zz g l M mc ms Q QX ce sl pc lv (st) h := by
  obtain ⟨d, rfl⟩ := d
  intro p e s m args below meth c H locs ls C hH hl hL
  exact lv_lload_n C.1 C.2.1 d rfl (hl.2.2 _ _ hv) (k p e s m args below meth c H locs ls C hH hl hL)
theorem z_aload {i : Nat} {x : Nat} (d : zz_D M pc (.aload i) 2 nx) (hv : zz_g lv i = some (.ref x)) (k : Zz g l M mc ms Q QX ce sl nx lv (.ref x :: st) h) : Zz g l M mc ms Q QX ce sl pc lv (st) h := by
  obtain ⟨d, rfl⟩ := d
  intro p e s m args below meth c H locs ls C hH hl hL
  exact lv_aload C.1 C.2.1 d (hl.2.2 _ _ hv) (k p e s m args below meth c H locs ls C hH hl hL)
theorem z_aload_n {i : Fin 4} {x : Nat} (d : zz_D M pc (.aload_n i) 1 nx) (hv : zz_g lv (i : Nat) = some (.ref x)) (k : Zz g l M mc ms Q QX ce sl nx lv (.ref x :: st) h) : Zz g l M mc ms Q QX ce sl pc lv (st) h := by
  obtain ⟨d, rfl⟩ := d
  intro p e s m args below meth c H locs ls C hH hl hL
  exact lv_aload_n C.1 C.2.1 d rfl (hl.2.2 _ _ hv) (k p e s m args below meth c H locs ls C hH hl hL)
theorem z_fload {i : Nat} {x : UInt32} (d : zz_D M pc (.fload i) 2 nx) (hv : zz_g lv i = some (.float x)) (k : Zz g l M mc ms Q QX ce sl nx lv (.float x :: st) h) : Zz g l M mc ms Q QX ce sl pc lv (st) h := by
  obtain ⟨d, rfl⟩ := d
  intro p e s m args below meth c H locs ls C hH hl hL
  exact lv_fload C.1 C.2.1 d (hl.2.2 _ _ hv) (k p e s m args below meth c H locs ls C hH hl hL)
theorem z_fload_n {i : Fin 4} {x : UInt32} (d : zz_D M pc (.fload_n i) 1 nx) (hv : zz_g lv (i : Nat) = some (.float x)) (k : Zz g l M mc ms Q QX ce sl nx lv (.float x :: st) h) : Zz g l M mc ms Q QX ce sl pc lv (st) h := by
  obtain ⟨d, rfl⟩ := d
  intro p e s m args below meth c H locs ls C hH hl hL
  exact lv_fload_n C.1 C.2.1 d rfl (hl.2.2 _ _ hv) (k p e s m args below meth c H locs ls C hH hl hL)
theorem z_dload_n {i : Fin 4} {x : UInt64} (d : zz_D M pc (.dload_n i) 1 nx) (hv : zz_g lv (i : Nat) = some (.double x)) (k : Zz g l M mc ms Q QX ce sl nx lv (.double x :: st) h) : Zz g l M mc ms Q QX ce sl pc lv (st) h := by
  obtain ⟨d, rfl⟩ := d
  intro p e s m args below meth c H locs ls C hH hl hL
  exact lv_dload_n C.1 C.2.1 d rfl (hl.2.2 _ _ hv) (k p e s m args below meth c H locs ls C hH hl hL)
theorem z_aloadN {i : Nat} (d : zz_D M pc (.aload i) 2 nx) (hv : zz_g lv i = some .null) (k : Zz g l M mc ms Q QX ce sl nx lv (.null :: st) h) : Zz g l M mc ms Q QX ce sl pc lv (st) h := by
  obtain ⟨d, rfl⟩ := d
  intro p e s m args below meth c H locs ls C hH hl hL
  exact lv_aloadN C.1 C.2.1 d (hl.2.2 _ _ hv) (k p e s m args below meth c H locs ls C hH hl hL)
theorem z_aloadN_n {i : Fin 4} (d : zz_D M pc (.aload_n i) 1 nx) (hv : zz_g lv (i : Nat) = some .null) (k : Zz g l M mc ms Q QX ce sl nx lv (.null :: st) h) : Zz g l M mc ms Q QX ce sl pc lv (st) h := by
  obtain ⟨d, rfl⟩ := d
  intro p e s m args below meth c H locs ls C hH hl hL
  exact lv_aload_nN C.1 C.2.1 d rfl (hl.2.2 _ _ hv) (k p e s m args below meth c H locs ls C hH hl hL)
theorem z_istore {i : Nat} {x : Int32} (d : zz_D M pc (.istore i) 2 nx) (hi : i < zz_n M) (k : Zz g l M mc ms Q QX ce sl nx (zz_s lv i (.int x)) st h) : Zz g l M mc ms Q QX ce sl pc lv (.int x :: st) h := by
  obtain ⟨d, rfl⟩ := d
  intro p e s m args below meth c H locs ls C hH hl hL
  exact lv_istore C.1 C.2.1 d hl.has hi rfl (fun ls2 hl2 => k p e s m args below meth c H locs ls2 C hH (zz_lv.st1 hl2) hL)
theorem z_istore_n {i : Fin 4} {x : Int32} (d : zz_D M pc (.istore_n i) 1 nx) (hi : (i : Nat) < zz_n M) (k : Zz g l M mc ms Q QX ce sl nx (zz_s lv (i : Nat) (.int x)) st h) : Zz g l M mc ms Q QX ce sl pc lv (.int x :: st) h := by
  obtain ⟨d, rfl⟩ := d
  intro p e s m args below meth c H locs ls C hH hl hL
  exact lv_istore_n C.1 C.2.1 d rfl hl.has hi rfl (fun ls2 hl2 => k p e s m args below meth c H locs ls2 C hH (zz_lv.st1 hl2) hL)
theorem z_astore {i : Nat} {x : Nat} (d : zz_D M pc (.astore i) 2 nx) (hi : i < zz_n M) (k : Zz g l M mc ms Q QX ce sl nx (zz_s lv i (.ref x)) st h) : Zz g l M mc ms Q QX ce sl pc lv (.ref x :: st) h := by
  obtain ⟨d, rfl⟩ := d
  intro p e s m args below meth c H locs ls C hH hl hL
  exact lv_astore C.1 C.2.1 d hl.has hi rfl (fun ls2 hl2 => k p e s m args below meth c H locs ls2 C hH (zz_lv.st1 hl2) hL)
theorem z_astore_n {i : Fin 4} {x : Nat} (d : zz_D M pc (.astore_n i) 1 nx) (hi : (i : Nat) < zz_n M) (k : Zz g l M mc ms Q QX ce sl nx (zz_s lv (i : Nat) (.ref x)) st h) : Zz g l M mc ms Q QX ce sl pc lv (.ref x :: st) h := by
  obtain ⟨d, rfl⟩ := d
  intro p e s m args below meth c H locs ls C hH hl hL
  exact lv_astore_n C.1 C.2.1 d rfl hl.has hi rfl (fun ls2 hl2 => k p e s m args below meth c H locs ls2 C hH (zz_lv.st1 hl2) hL)
theorem z_lstore {i : Nat} {x : Int64} (d : zz_D M pc (.lstore i) 2 nx) (hi : i + 1 < zz_n M) (k : Zz g l M mc ms Q QX ce sl nx (zz_s2 lv i (.long x)) st h) : Zz g l M mc ms Q QX ce sl pc lv (.long x :: st) h := by
  obtain ⟨d, rfl⟩ := d
  intro p e s m args below meth c H locs ls C hH hl hL
  exact lv_lstore C.1 C.2.1 d hl.has hi rfl (fun ls2 hl2 => k p e s m args below meth c H locs ls2 C hH (zz_lv.st2 hl2) hL)
theorem z_lstore_n {i : Fin 4} {x : Int64} (d : zz_D M pc (.lstore_n i) 1 nx) (hi : (i : Nat) + 1 < zz_n M) (k : Zz g l M mc ms Q QX ce sl nx (zz_s2 lv (i : Nat) (.long x)) st h) : Zz g l M mc ms Q QX ce sl pc lv (.long x :: st) h := by
  obtain ⟨d, rfl⟩ := d
  intro p e s m args below meth c H locs ls C hH hl hL
  exact lv_lstore_n C.1 C.2.1 d rfl hl.has hi rfl (fun ls2 hl2 => k p e s m args below meth c H locs ls2 C hH (zz_lv.st2 hl2) hL)
theorem z_astoreN {i : Nat} (d : zz_D M pc (.astore i) 2 nx) (hi : i < zz_n M) (k : Zz g l M mc ms Q QX ce sl nx (zz_s lv i (.null)) st h) : Zz g l M mc ms Q QX ce sl pc lv (.null :: st) h := by
  obtain ⟨d, rfl⟩ := d
  intro p e s m args below meth c H locs ls C hH hl hL
  exact lv_astoreN C.1 C.2.1 d hl.has hi rfl (fun ls2 hl2 => k p e s m args below meth c H locs ls2 C hH (zz_lv.st1 hl2) hL)
theorem z_astoreN_n {i : Fin 4} (d : zz_D M pc (.astore_n i) 1 nx) (hi : (i : Nat) < zz_n M) (k : Zz g l M mc ms Q QX ce sl nx (zz_s lv (i : Nat) (.null)) st h) : Zz g l M mc ms Q QX ce sl pc lv (.null :: st) h := by
  obtain ⟨d, rfl⟩ := d
  intro p e s m args below meth c H locs ls C hH hl hL
  exact lv_astore_nN C.1 C.2.1 d rfl hl.has hi rfl (fun ls2 hl2 => k p e s m args below meth c H locs ls2 C hH (zz_lv.st1 hl2) hL)
theorem z_iinc {i : Nat} {n : Int} {x v : Int32} (d : zz_D M pc (.iinc i n) 3 nx) (hx : zz_g lv i = some (.int x)) (hv : x + Int32.ofInt n = v) (hi : i < zz_n M) (k : Zz g l M mc ms Q QX ce sl nx (zz_s lv i (.int v)) st h) : Zz g l M mc ms Q QX ce sl pc lv st h := by
  obtain ⟨d, rfl⟩ := d
  intro p e s m args below meth c H locs ls C hH hl hL
  obtain ⟨j, hj⟩ := List.getElem?_of_mem (zz_L_mem.mpr hx)
  exact lv_iinc C.1 C.2.1 d hl.has hj hv hi rfl (fun ls2 hl2 => k p e s m args below meth c H locs ls2 C hH (zz_lv.st1 hl2) hL)
theorem z_iadd {x y : Int32} (d : zz_D M pc .iadd 1 nx) (k : Zz g l M mc ms Q QX ce sl nx lv (.int (x + y) :: st) h) : Zz g l M mc ms Q QX ce sl pc lv (.int y :: .int x :: st) h := by
  obtain ⟨d, rfl⟩ := d
  intro p e s m args below meth c H locs ls C hH hl hL
  exact lv_iadd C.1 C.2.1 d (k p e s m args below meth c H locs ls C hH hl hL)
theorem z_isub {x y : Int32} (d : zz_D M pc .isub 1 nx) (k : Zz g l M mc ms Q QX ce sl nx lv (.int (x - y) :: st) h) : Zz g l M mc ms Q QX ce sl pc lv (.int y :: .int x :: st) h := by
  obtain ⟨d, rfl⟩ := d
  intro p e s m args below meth c H locs ls C hH hl hL
  exact lv_isub C.1 C.2.1 d (k p e s m args below meth c H locs ls C hH hl hL)
theorem z_imul {x y : Int32} (d : zz_D M pc .imul 1 nx) (k : Zz g l M mc ms Q QX ce sl nx lv (.int (x * y) :: st) h) : Zz g l M mc ms Q QX ce sl pc lv (.int y :: .int x :: st) h := by
  obtain ⟨d, rfl⟩ := d
  intro p e s m args below meth c H locs ls C hH hl hL
  exact lv_imul C.1 C.2.1 d (k p e s m args below meth c H locs ls C hH hl hL)
theorem z_iand {x y : Int32} (d : zz_D M pc .iand 1 nx) (k : Zz g l M mc ms Q QX ce sl nx lv (.int (x &&& y) :: st) h) : Zz g l M mc ms Q QX ce sl pc lv (.int y :: .int x :: st) h := by
  obtain ⟨d, rfl⟩ := d
  intro p e s m args below meth c H locs ls C hH hl hL
  exact lv_iand C.1 C.2.1 d (k p e s m args below meth c H locs ls C hH hl hL)
theorem z_ior {x y : Int32} (d : zz_D M pc .ior 1 nx) (k : Zz g l M mc ms Q QX ce sl nx lv (.int (x ||| y) :: st) h) : Zz g l M mc ms Q QX ce sl pc lv (.int y :: .int x :: st) h := by
  obtain ⟨d, rfl⟩ := d
  intro p e s m args below meth c H locs ls C hH hl hL
  exact lv_ior C.1 C.2.1 d (k p e s m args below meth c H locs ls C hH hl hL)
theorem z_ixor {x y : Int32} (d : zz_D M pc .ixor 1 nx) (k : Zz g l M mc ms Q QX ce sl nx lv (.int (x ^^^ y) :: st) h) : Zz g l M mc ms Q QX ce sl pc lv (.int y :: .int x :: st) h := by
  obtain ⟨d, rfl⟩ := d
  intro p e s m args below meth c H locs ls C hH hl hL
  exact lv_ixor C.1 C.2.1 d (k p e s m args below meth c H locs ls C hH hl hL)
theorem z_ishr {x y : Int32} (d : zz_D M pc .ishr 1 nx) (k : Zz g l M mc ms Q QX ce sl nx lv (.int (x >>> (y &&& 31)) :: st) h) : Zz g l M mc ms Q QX ce sl pc lv (.int y :: .int x :: st) h := by
  obtain ⟨d, rfl⟩ := d
  intro p e s m args below meth c H locs ls C hH hl hL
  exact lv_ishr C.1 C.2.1 d (k p e s m args below meth c H locs ls C hH hl hL)
theorem z_ishl {x y : Int32} (d : zz_D M pc .ishl 1 nx) (k : Zz g l M mc ms Q QX ce sl nx lv (.int (x <<< (y &&& 31)) :: st) h) : Zz g l M mc ms Q QX ce sl pc lv (.int y :: .int x :: st) h := by
  obtain ⟨d, rfl⟩ := d
  intro p e s m args below meth c H locs ls C hH hl hL
  exact lv_ishl C.1 C.2.1 d (k p e s m args below meth c H locs ls C hH hl hL)
theorem z_idiv {x y : Int32} (d : zz_D M pc .idiv 1 nx) (hn : ¬ y = 0) (k : Zz g l M mc ms Q QX ce sl nx lv (.int (x / y) :: st) h) : Zz g l M mc ms Q QX ce sl pc lv (.int y :: .int x :: st) h := by
  obtain ⟨d, rfl⟩ := d
  intro p e s m args below meth c H locs ls C hH hl hL
  exact lv_idiv C.1 C.2.1 d hn (k p e s m args below meth c H locs ls C hH hl hL)
theorem z_irem {x y : Int32} (d : zz_D M pc .irem 1 nx) (hn : ¬ y = 0) (k : Zz g l M mc ms Q QX ce sl nx lv (.int (x - x / y * y) :: st) h) : Zz g l M mc ms Q QX ce sl pc lv (.int y :: .int x :: st) h := by
  obtain ⟨d, rfl⟩ := d
  intro p e s m args below meth c H locs ls C hH hl hL
  exact lv_irem C.1 C.2.1 d hn (k p e s m args below meth c H locs ls C hH hl hL)
theorem z_ineg {x : Int32} (d : zz_D M pc .ineg 1 nx) (k : Zz g l M mc ms Q QX ce sl nx lv (.int (-x) :: st) h) : Zz g l M mc ms Q QX ce sl pc lv (.int x :: st) h := by
  obtain ⟨d, rfl⟩ := d
  intro p e s m args below meth c H locs ls C hH hl hL
  exact lv_ineg C.1 C.2.1 d (k p e s m args below meth c H locs ls C hH hl hL)
theorem z_ladd {x y : Int64} (d : zz_D M pc .ladd 1 nx) (k : Zz g l M mc ms Q QX ce sl nx lv (.long (x + y) :: st) h) : Zz g l M mc ms Q QX ce sl pc lv (.long y :: .long x :: st) h := by
  obtain ⟨d, rfl⟩ := d
  intro p e s m args below meth c H locs ls C hH hl hL
  exact lv_ladd C.1 C.2.1 d (k p e s m args below meth c H locs ls C hH hl hL)
theorem z_lmul {x y : Int64} (d : zz_D M pc .lmul 1 nx) (k : Zz g l M mc ms Q QX ce sl nx lv (.long (x * y) :: st) h) : Zz g l M mc ms Q QX ce sl pc lv (.long y :: .long x :: st) h := by
  obtain ⟨d, rfl⟩ := d
  intro p e s m args below meth c H locs ls C hH hl hL
  exact lv_lmul C.1 C.2.1 d (k p e s m args below meth c H locs ls C hH hl hL)
theorem z_i2l {x : Int32} (d : zz_D M pc .i2l 1 nx) (k : Zz g l M mc ms Q QX ce sl nx lv (.long x.toInt64 :: st) h) : Zz g l M mc ms Q QX ce sl pc lv (.int x :: st) h := by
  obtain ⟨d, rfl⟩ := d
  intro p e s m args below meth c H locs ls C hH hl hL
  exact lv_i2l C.1 C.2.1 d rfl (k p e s m args below meth c H locs ls C hH hl hL)
theorem z_i2c {x v : Int32} (d : zz_D M pc .i2c 1 nx) (hv : (x.toUInt32 % 65536).toInt32 = v) (k : Zz g l M mc ms Q QX ce sl nx lv (.int v :: st) h) : Zz g l M mc ms Q QX ce sl pc lv (.int x :: st) h := by
  obtain ⟨d, rfl⟩ := d
  intro p e s m args below meth c H locs ls C hH hl hL
  exact lv_i2c C.1 C.2.1 d hv (k p e s m args below meth c H locs ls C hH hl hL)
theorem z_i2b {x v : Int32} (d : zz_D M pc .i2b 1 nx) (hv : x.toInt8.toInt32 = v) (k : Zz g l M mc ms Q QX ce sl nx lv (.int v :: st) h) : Zz g l M mc ms Q QX ce sl pc lv (.int x :: st) h := by
  obtain ⟨d, rfl⟩ := d
  intro p e s m args below meth c H locs ls C hH hl hL
  exact lv_i2b C.1 C.2.1 d hv (k p e s m args below meth c H locs ls C hH hl hL)
theorem z_i2f {x : Int32} (d : zz_D M pc .i2f 1 nx) (k : Zz g l M mc ms Q QX ce sl nx lv (.float (FP.i2f x) :: st) h) : Zz g l M mc ms Q QX ce sl pc lv (.int x :: st) h := by
  obtain ⟨d, rfl⟩ := d
  intro p e s m args below meth c H locs ls C hH hl hL
  exact lv_i2f C.1 C.2.1 d (k p e s m args below meth c H locs ls C hH hl hL)
theorem z_i2d {x : Int32} (d : zz_D M pc .i2d 1 nx) (k : Zz g l M mc ms Q QX ce sl nx lv (.double (FP.i2d x) :: st) h) : Zz g l M mc ms Q QX ce sl pc lv (.int x :: st) h := by
  obtain ⟨d, rfl⟩ := d
  intro p e s m args below meth c H locs ls C hH hl hL
  exact lv_i2d C.1 C.2.1 d (k p e s m args below meth c H locs ls C hH hl hL)
theorem z_fdiv {x y : UInt32} (d : zz_D M pc .fdiv 1 nx) (hn : vf_n32 (FP.fdiv x y)) (k : Zz g l M mc ms Q QX ce sl nx lv (.float (FP.fdiv x y) :: st) h) : Zz g l M mc ms Q QX ce sl pc lv (.float y :: .float x :: st) h := by
  obtain ⟨d, rfl⟩ := d
  intro p e s m args below meth c H locs ls C hH hl hL
  exact lv_fdiv C.1 C.2.1 d hn (k p e s m args below meth c H locs ls C hH hl hL)
theorem z_ddiv {x y : UInt64} (d : zz_D M pc .ddiv 1 nx) (hn : vf_n64 (FP.ddiv x y)) (k : Zz g l M mc ms Q QX ce sl nx lv (.double (FP.ddiv x y) :: st) h) : Zz g l M mc ms Q QX ce sl pc lv (.double y :: .double x :: st) h := by
  obtain ⟨d, rfl⟩ := d
  intro p e s m args below meth c H locs ls C hH hl hL
  exact lv_ddiv C.1 C.2.1 d hn (k p e s m args below meth c H locs ls C hH hl hL)
theorem z_dup {v : Value} (d : zz_D M pc .dup 1 nx) (hv : v.category = 1) (k : Zz g l M mc ms Q QX ce sl nx lv (v :: v :: st) h) : Zz g l M mc ms Q QX ce sl pc lv (v :: st) h := by
  obtain ⟨d, rfl⟩ := d
  intro p e s m args below meth c H locs ls C hH hl hL
  exact lv_dup C.1 C.2.1 d hv (k p e s m args below meth c H locs ls C hH hl hL)
theorem z_pop {v : Value} (d : zz_D M pc .pop 1 nx) (hv : v.category = 1) (k : Zz g l M mc ms Q QX ce sl nx lv (st) h) : Zz g l M mc ms Q QX ce sl pc lv (v :: st) h := by
  obtain ⟨d, rfl⟩ := d
  intro p e s m args below meth c H locs ls C hH hl hL
  exact lv_pop C.1 C.2.1 d hv (k p e s m args below meth c H locs ls C hH hl hL)
theorem z_dup_x1 {v w : Value} (d : zz_D M pc .dup_x1 1 nx) (hv : v.category = 1) (hw : w.category = 1) (k : Zz g l M mc ms Q QX ce sl nx lv (v :: w :: v :: st) h) : Zz g l M mc ms Q QX ce sl pc lv (v :: w :: st) h := by
  obtain ⟨d, rfl⟩ := d
  intro p e s m args below meth c H locs ls C hH hl hL
  exact lv_dup_x1 C.1 C.2.1 d hv hw (k p e s m args below meth c H locs ls C hH hl hL)
theorem z_if_eq {x : Int32} {off : Int} {tgt : Nat} (d : zz_D M pc (.ifCond .eq off) 3 nx) (ht : (pc : Int) + off = (tgt : Int)) (kt : x = 0 → Zz g l M mc ms Q QX ce sl tgt lv st h) (kf : ¬ x = 0 → Zz g l M mc ms Q QX ce sl nx lv st h) : Zz g l M mc ms Q QX ce sl pc lv (.int x :: st) h := by
  obtain ⟨d, rfl⟩ := d
  intro p e s m args below meth c H locs ls C hH hl hL
  exact lv_if_eq C.1 C.2.1 d ht (fun q => kt q p e s m args below meth c H locs ls C hH hl hL) (fun q => kf q p e s m args below meth c H locs ls C hH hl hL)
theorem z_icmp_eq {x y : Int32} {off : Int} {tgt : Nat} (d : zz_D M pc (.if_icmp .eq off) 3 nx) (ht : (pc : Int) + off = (tgt : Int)) (kt : x = y → Zz g l M mc ms Q QX ce sl tgt lv st h) (kf : ¬ x = y → Zz g l M mc ms Q QX ce sl nx lv st h) : Zz g l M mc ms Q QX ce sl pc lv (.int y :: .int x :: st) h := by
  obtain ⟨d, rfl⟩ := d
  intro p e s m args below meth c H locs ls C hH hl hL
  exact lv_icmp_eq C.1 C.2.1 d ht (fun q => kt q p e s m args below meth c H locs ls C hH hl hL) (fun q => kf q p e s m args below meth c H locs ls C hH hl hL)
theorem z_if_ne {x : Int32} {off : Int} {tgt : Nat} (d : zz_D M pc (.ifCond .ne off) 3 nx) (ht : (pc : Int) + off = (tgt : Int)) (kt : ¬ x = 0 → Zz g l M mc ms Q QX ce sl tgt lv st h) (kf : x = 0 → Zz g l M mc ms Q QX ce sl nx lv st h) : Zz g l M mc ms Q QX ce sl pc lv (.int x :: st) h := by
  obtain ⟨d, rfl⟩ := d
  intro p e s m args below meth c H locs ls C hH hl hL
  exact lv_if_ne C.1 C.2.1 d ht (fun q => kt q p e s m args below meth c H locs ls C hH hl hL) (fun q => kf q p e s m args below meth c H locs ls C hH hl hL)
theorem z_icmp_ne {x y : Int32} {off : Int} {tgt : Nat} (d : zz_D M pc (.if_icmp .ne off) 3 nx) (ht : (pc : Int) + off = (tgt : Int)) (kt : ¬ x = y → Zz g l M mc ms Q QX ce sl tgt lv st h) (kf : x = y → Zz g l M mc ms Q QX ce sl nx lv st h) : Zz g l M mc ms Q QX ce sl pc lv (.int y :: .int x :: st) h := by
  obtain ⟨d, rfl⟩ := d
  intro p e s m args below meth c H locs ls C hH hl hL
  exact lv_icmp_ne C.1 C.2.1 d ht (fun q => kt q p e s m args below meth c H locs ls C hH hl hL) (fun q => kf q p e s m args below meth c H locs ls C hH hl hL)
theorem z_if_lt {x : Int32} {off : Int} {tgt : Nat} (d : zz_D M pc (.ifCond .lt off) 3 nx) (ht : (pc : Int) + off = (tgt : Int)) (kt : x < 0 → Zz g l M mc ms Q QX ce sl tgt lv st h) (kf : ¬ x < 0 → Zz g l M mc ms Q QX ce sl nx lv st h) : Zz g l M mc ms Q QX ce sl pc lv (.int x :: st) h := by
  obtain ⟨d, rfl⟩ := d
  intro p e s m args below meth c H locs ls C hH hl hL
  exact lv_if_lt C.1 C.2.1 d ht (fun q => kt q p e s m args below meth c H locs ls C hH hl hL) (fun q => kf q p e s m args below meth c H locs ls C hH hl hL)
theorem z_icmp_lt {x y : Int32} {off : Int} {tgt : Nat} (d : zz_D M pc (.if_icmp .lt off) 3 nx) (ht : (pc : Int) + off = (tgt : Int)) (kt : x < y → Zz g l M mc ms Q QX ce sl tgt lv st h) (kf : ¬ x < y → Zz g l M mc ms Q QX ce sl nx lv st h) : Zz g l M mc ms Q QX ce sl pc lv (.int y :: .int x :: st) h := by
  obtain ⟨d, rfl⟩ := d
  intro p e s m args below meth c H locs ls C hH hl hL
  exact lv_icmp_lt C.1 C.2.1 d ht (fun q => kt q p e s m args below meth c H locs ls C hH hl hL) (fun q => kf q p e s m args below meth c H locs ls C hH hl hL)
theorem z_if_ge {x : Int32} {off : Int} {tgt : Nat} (d : zz_D M pc (.ifCond .ge off) 3 nx) (ht : (pc : Int) + off = (tgt : Int)) (kt : 0 ≤ x → Zz g l M mc ms Q QX ce sl tgt lv st h) (kf : ¬ 0 ≤ x → Zz g l M mc ms Q QX ce sl nx lv st h) : Zz g l M mc ms Q QX ce sl pc lv (.int x :: st) h := by
  obtain ⟨d, rfl⟩ := d
  intro p e s m args below meth c H locs ls C hH hl hL
  exact lv_if_ge C.1 C.2.1 d ht (fun q => kt q p e s m args below meth c H locs ls C hH hl hL) (fun q => kf q p e s m args below meth c H locs ls C hH hl hL)
theorem z_icmp_ge {x y : Int32} {off : Int} {tgt : Nat} (d : zz_D M pc (.if_icmp .ge off) 3 nx) (ht : (pc : Int) + off = (tgt : Int)) (kt : y ≤ x → Zz g l M mc ms Q QX ce sl tgt lv st h) (kf : ¬ y ≤ x → Zz g l M mc ms Q QX ce sl nx lv st h) : Zz g l M mc ms Q QX ce sl pc lv (.int y :: .int x :: st) h := by
  obtain ⟨d, rfl⟩ := d
  intro p e s m args below meth c H locs ls C hH hl hL
  exact lv_icmp_ge C.1 C.2.1 d ht (fun q => kt q p e s m args below meth c H locs ls C hH hl hL) (fun q => kf q p e s m args below meth c H locs ls C hH hl hL)
theorem z_if_gt {x : Int32} {off : Int} {tgt : Nat} (d : zz_D M pc (.ifCond .gt off) 3 nx) (ht : (pc : Int) + off = (tgt : Int)) (kt : 0 < x → Zz g l M mc ms Q QX ce sl tgt lv st h) (kf : ¬ 0 < x → Zz g l M mc ms Q QX ce sl nx lv st h) : Zz g l M mc ms Q QX ce sl pc lv (.int x :: st) h := by
  obtain ⟨d, rfl⟩ := d
  intro p e s m args below meth c H locs ls C hH hl hL
  exact lv_if_gt C.1 C.2.1 d ht (fun q => kt q p e s m args below meth c H locs ls C hH hl hL) (fun q => kf q p e s m args below meth c H locs ls C hH hl hL)
theorem z_icmp_gt {x y : Int32} {off : Int} {tgt : Nat} (d : zz_D M pc (.if_icmp .gt off) 3 nx) (ht : (pc : Int) + off = (tgt : Int)) (kt : y < x → Zz g l M mc ms Q QX ce sl tgt lv st h) (kf : ¬ y < x → Zz g l M mc ms Q QX ce sl nx lv st h) : Zz g l M mc ms Q QX ce sl pc lv (.int y :: .int x :: st) h := by
  obtain ⟨d, rfl⟩ := d
  intro p e s m args below meth c H locs ls C hH hl hL
  exact lv_icmp_gt C.1 C.2.1 d ht (fun q => kt q p e s m args below meth c H locs ls C hH hl hL) (fun q => kf q p e s m args below meth c H locs ls C hH hl hL)
theorem z_if_le {x : Int32} {off : Int} {tgt : Nat} (d : zz_D M pc (.ifCond .le off) 3 nx) (ht : (pc : Int) + off = (tgt : Int)) (kt : x ≤ 0 → Zz g l M mc ms Q QX ce sl tgt lv st h) (kf : ¬ x ≤ 0 → Zz g l M mc ms Q QX ce sl nx lv st h) : Zz g l M mc ms Q QX ce sl pc lv (.int x :: st) h := by
  obtain ⟨d, rfl⟩ := d
  intro p e s m args below meth c H locs ls C hH hl hL
  exact lv_if_le C.1 C.2.1 d ht (fun q => kt q p e s m args below meth c H locs ls C hH hl hL) (fun q => kf q p e s m args below meth c H locs ls C hH hl hL)
theorem z_icmp_le {x y : Int32} {off : Int} {tgt : Nat} (d : zz_D M pc (.if_icmp .le off) 3 nx) (ht : (pc : Int) + off = (tgt : Int)) (kt : x ≤ y → Zz g l M mc ms Q QX ce sl tgt lv st h) (kf : ¬ x ≤ y → Zz g l M mc ms Q QX ce sl nx lv st h) : Zz g l M mc ms Q QX ce sl pc lv (.int y :: .int x :: st) h := by
  obtain ⟨d, rfl⟩ := d
  intro p e s m args below meth c H locs ls C hH hl hL
  exact lv_icmp_le C.1 C.2.1 d ht (fun q => kt q p e s m args below meth c H locs ls C hH hl hL) (fun q => kf q p e s m args below meth c H locs ls C hH hl hL)
theorem z_goto {off : Int} {tgt : Nat} (d : zz_D M pc (.goto off) 3 nx) (ht : (pc : Int) + off = (tgt : Int)) (k : Zz g l M mc ms Q QX ce sl tgt lv st h) : Zz g l M mc ms Q QX ce sl pc lv st h := by
  obtain ⟨d, rfl⟩ := d
  intro p e s m args below meth c H locs ls C hH hl hL
  exact lv_goto C.1 C.2.1 d ht (k p e s m args below meth c H locs ls C hH hl hL)
theorem z_ifnull {x : Nat} {off : Int} (d : zz_D M pc (.ifnull off) 3 nx) (k : Zz g l M mc ms Q QX ce sl nx lv st h) : Zz g l M mc ms Q QX ce sl pc lv (.ref x :: st) h := by
  obtain ⟨d, rfl⟩ := d
  intro p e s m args below meth c H locs ls C hH hl hL
  exact lv_ifnull C.1 C.2.1 d (k p e s m args below meth c H locs ls C hH hl hL)
theorem z_ifnullN {off : Int} {tgt : Nat} (d : zz_D M pc (.ifnull off) 3 nx) (ht : (pc : Int) + off = (tgt : Int)) (k : Zz g l M mc ms Q QX ce sl tgt lv st h) : Zz g l M mc ms Q QX ce sl pc lv (.null :: st) h := by
  obtain ⟨d, rfl⟩ := d
  intro p e s m args below meth c H locs ls C hH hl hL
  exact lv_ifnullN C.1 C.2.1 d ht (k p e s m args below meth c H locs ls C hH hl hL)
theorem z_ifnonnull {x : Nat} {off : Int} {tgt : Nat} (d : zz_D M pc (.ifnonnull off) 3 nx) (ht : (pc : Int) + off = (tgt : Int)) (k : Zz g l M mc ms Q QX ce sl tgt lv st h) : Zz g l M mc ms Q QX ce sl pc lv (.ref x :: st) h := by
  obtain ⟨d, rfl⟩ := d
  intro p e s m args below meth c H locs ls C hH hl hL
  exact lv_ifnonnull C.1 C.2.1 d ht (k p e s m args below meth c H locs ls C hH hl hL)
theorem z_ifnonnullN {off : Int} (d : zz_D M pc (.ifnonnull off) 3 nx) (k : Zz g l M mc ms Q QX ce sl nx lv st h) : Zz g l M mc ms Q QX ce sl pc lv (.null :: st) h := by
  obtain ⟨d, rfl⟩ := d
  intro p e s m args below meth c H locs ls C hH hl hL
  exact lv_ifnonnullN C.1 C.2.1 d (k p e s m args below meth c H locs ls C hH hl hL)
theorem z_tin {dflt lo hi : Int} {offs : Array Int} {len : Nat} {x : Int32} {off : Int} {tgt : Nat} (d : zz_D M pc (.tableswitch dflt lo hi offs) len nx) (h1 : ¬ x.toInt < lo) (h2 : ¬ hi < x.toInt) (ho : offs[(x.toInt - lo).toNat]? = some off) (ht : (pc : Int) + off = (tgt : Int)) (k : Zz g l M mc ms Q QX ce sl tgt lv st h) : Zz g l M mc ms Q QX ce sl pc lv (.int x :: st) h := by
  obtain ⟨d, rfl⟩ := d
  intro p e s m args below meth c H locs ls C hH hl hL
  exact lv_tableIn C.1 C.2.1 d h1 h2 ho ht (k p e s m args below meth c H locs ls C hH hl hL)
theorem z_tout {dflt lo hi : Int} {offs : Array Int} {len : Nat} {x : Int32} {tgt : Nat} (d : zz_D M pc (.tableswitch dflt lo hi offs) len nx) (h1 : x.toInt < lo ∨ hi < x.toInt) (ht : (pc : Int) + dflt = (tgt : Int)) (k : Zz g l M mc ms Q QX ce sl tgt lv st h) : Zz g l M mc ms Q QX ce sl pc lv (.int x :: st) h := by
  obtain ⟨d, rfl⟩ := d
  intro p e s m args below meth c H locs ls C hH hl hL
  exact lv_tableOut C.1 C.2.1 d h1 ht (k p e s m args below meth c H locs ls C hH hl hL)
theorem z_lcmp {x y : Int64} (d : zz_D M pc .lcmp 1 nx) (k : Zz g l M mc ms Q QX ce sl nx lv (.int (lg_cmp x y) :: st) h) : Zz g l M mc ms Q QX ce sl pc lv (.long y :: .long x :: st) h := by
  obtain ⟨d, rfl⟩ := d
  intro p e s m args below meth c H locs ls C hH hl hL
  exact W.lcmp C.1 C.2.1 d (k p e s m args below meth c H locs ls C hH hl hL)
theorem z_iret {x : Int32} (d : zz_D M pc .ireturn 1 nx) (hr : zz_r M = some .int) (hc : ce ≤ mc) (hs : sl ≤ ms) (q : Q (some (.int x)) h) : Zz g l M mc ms Q QX ce sl pc lv [.int x] h := by
  obtain ⟨d, rfl⟩ := d
  intro p e s m args below meth c H locs ls C hH hl hL
  exact W.widen hc hs (vx_ret (W.iret C.1 C.2.1 (C.2.2.1.trans hr) (fun t ht _ => ⟨_, h, rfl, by rw [ht]; exact hH, q⟩) hL d (hlocks := C.2.2.2.2.2.2.2.1)))
theorem z_zret {x : Int32} {ty : FieldType} (d : zz_D M pc .ireturn 1 nx) (hr : zz_r M = some ty) (hn : narrow ty (.int x) = .int x) (hc : ce ≤ mc) (hs : sl ≤ ms) (q : Q (some (.int x)) h) : Zz g l M mc ms Q QX ce sl pc lv [.int x] h := by
  obtain ⟨d, rfl⟩ := d
  intro p e s m args below meth c H locs ls C hH hl hL
  exact W.widen hc hs (vx_ret (W.zret C.1 C.2.1 (C.2.2.1.trans hr) hn (fun t ht _ => ⟨_, h, rfl, by rw [ht]; exact hH, q⟩) hL d (hlocks := C.2.2.2.2.2.2.2.1)))
theorem z_lret {x : Int64} (d : zz_D M pc .lreturn 1 nx) (hr : zz_r M = some .long) (hc : ce ≤ mc) (hs : sl ≤ ms) (q : Q (some (.long x)) h) : Zz g l M mc ms Q QX ce sl pc lv [.long x] h := by
  obtain ⟨d, rfl⟩ := d
  intro p e s m args below meth c H locs ls C hH hl hL
  exact W.widen hc hs (vx_ret (W.lret C.1 C.2.1 (C.2.2.1.trans hr) (fun t ht _ => ⟨_, h, rfl, by rw [ht]; exact hH, q⟩) hL d (hlocks := C.2.2.2.2.2.2.2.1)))
theorem z_fret {x : UInt32} (d : zz_D M pc .freturn 1 nx) (hr : zz_r M = some .float) (hc : ce ≤ mc) (hs : sl ≤ ms) (q : Q (some (.float x)) h) : Zz g l M mc ms Q QX ce sl pc lv [.float x] h := by
  obtain ⟨d, rfl⟩ := d
  intro p e s m args below meth c H locs ls C hH hl hL
  exact W.widen hc hs (vx_ret (W.fret C.1 C.2.1 (C.2.2.1.trans hr) (fun t ht _ => ⟨_, h, rfl, by rw [ht]; exact hH, q⟩) hL d (hlocks := C.2.2.2.2.2.2.2.1)))
theorem z_dret {x : UInt64} (d : zz_D M pc .dreturn 1 nx) (hr : zz_r M = some .double) (hc : ce ≤ mc) (hs : sl ≤ ms) (q : Q (some (.double x)) h) : Zz g l M mc ms Q QX ce sl pc lv [.double x] h := by
  obtain ⟨d, rfl⟩ := d
  intro p e s m args below meth c H locs ls C hH hl hL
  exact W.widen hc hs (vx_ret (W.dret C.1 C.2.1 (C.2.2.1.trans hr) (fun t ht _ => ⟨_, h, rfl, by rw [ht]; exact hH, q⟩) hL d (hlocks := C.2.2.2.2.2.2.2.1)))
theorem z_vret (d : zz_D M pc .return_ 1 nx) (hr : zz_r M = none) (hc : ce ≤ mc) (hs : sl ≤ ms) (q : Q none h) : Zz g l M mc ms Q QX ce sl pc lv [] h := by
  obtain ⟨d, rfl⟩ := d
  intro p e s m args below meth c H locs ls C hH hl hL
  exact W.widen hc hs (vx_ret (W.vret C.1 C.2.1 (C.2.2.1.trans hr) (fun t ht _ => ⟨_, h, rfl, by rw [ht]; exact hH, q⟩) hL d (hlocks := C.2.2.2.2.2.2.2.1)))
theorem z_aret {x : Nat} {ty : FieldType} (d : zz_D M pc .areturn 1 nx) (hr : zz_r M = some ty) (hn : (∃ n, ty = .object n) ∨ ∃ t, ty = .array t) (hc : ce ≤ mc) (hs : sl ≤ ms) (q : Q (some (.ref x)) h) : Zz g l M mc ms Q QX ce sl pc lv [.ref x] h := by
  obtain ⟨d, rfl⟩ := d
  intro p e s m args below meth c H locs ls C hH hl hL
  exact W.widen hc hs (vx_ret (W.aret C.1 C.2.1 (C.2.2.1.trans hr) hn (Or.inr ⟨x, rfl⟩) (fun t ht _ => ⟨_, h, rfl, by rw [ht]; exact hH, q⟩) hL d (hlocks := C.2.2.2.2.2.2.2.1)))
theorem z_aretN {ty : FieldType} (d : zz_D M pc .areturn 1 nx) (hr : zz_r M = some ty) (hn : (∃ n, ty = .object n) ∨ ∃ t, ty = .array t) (hc : ce ≤ mc) (hs : sl ≤ ms) (q : Q (some .null) h) : Zz g l M mc ms Q QX ce sl pc lv [.null] h := by
  obtain ⟨d, rfl⟩ := d
  intro p e s m args below meth c H locs ls C hH hl hL
  exact W.widen hc hs (vx_ret (W.aret C.1 C.2.1 (C.2.2.1.trans hr) hn (Or.inl rfl) (fun t ht _ => ⟨_, h, rfl, by rw [ht]; exact hH, q⟩) hL d (hlocks := C.2.2.2.2.2.2.2.1)))
theorem z_ldc {ix : Nat} {v : Int32} (d : zz_D M pc (.ldc ix) 2 nx) (hw : Cond.constant (zz_y M).cls ix v ∈ zz_gw) (k : Zz g l M mc ms Q QX ce sl nx lv (.int v :: st) h) : Zz g l M mc ms Q QX ce sl pc lv (st) h := by
  obtain ⟨d, rfl⟩ := d
  intro p e s m args below meth c H locs ls C hH hl hL
  exact lv_ldc C.1 C.2.1 C.2.2.2.2.1 (C.2.2.2.2.2.1 _ hw) d (k p e s m args below meth c H locs ls C hH hl hL)
theorem z_ldcw {ix : Nat} {v : Int32} (d : zz_D M pc (.ldc_w ix) 3 nx) (hw : Cond.constant (zz_y M).cls ix v ∈ zz_gw) (k : Zz g l M mc ms Q QX ce sl nx lv (.int v :: st) h) : Zz g l M mc ms Q QX ce sl pc lv (st) h := by
  obtain ⟨d, rfl⟩ := d
  intro p e s m args below meth c H locs ls C hH hl hL
  exact lv_ldcw C.1 C.2.1 C.2.2.2.2.1 (C.2.2.2.2.2.1 _ hw) d (k p e s m args below meth c H locs ls C hH hl hL)
theorem z_ldc2 {ix : Nat} {v : Int64} (d : zz_D M pc (.ldc2_w ix) 3 nx) (hw : Cond.constantLong (zz_y M).cls ix v ∈ zz_gw) (k : Zz g l M mc ms Q QX ce sl nx lv (.long v :: st) h) : Zz g l M mc ms Q QX ce sl pc lv (st) h := by
  obtain ⟨d, rfl⟩ := d
  intro p e s m args below meth c H locs ls C hH hl hL
  exact lv_ldc2 C.1 C.2.1 C.2.2.2.2.1 (C.2.2.2.2.2.1 _ hw) d (k p e s m args below meth c H locs ls C hH hl hL)
theorem z_ldc2d {ix : Nat} {v : UInt64} (d : zz_D M pc (.ldc2_w ix) 3 nx) (hw : Cond.constantDouble (zz_y M).cls ix v ∈ zz_gw) (k : Zz g l M mc ms Q QX ce sl nx lv (.double v :: st) h) : Zz g l M mc ms Q QX ce sl pc lv (st) h := by
  obtain ⟨d, rfl⟩ := d
  intro p e s m args below meth c H locs ls C hH hl hL
  exact lv_ldc2d C.1 C.2.1 C.2.2.2.2.1 (C.2.2.2.2.2.1 _ hw) d (k p e s m args below meth c H locs ls C hH hl hL)
theorem z_ldcf {ix : Nat} {v : UInt32} (d : zz_D M pc (.ldc ix) 2 nx) (hw : Cond.constantFloat (zz_y M).cls ix v ∈ zz_gw) (k : Zz g l M mc ms Q QX ce sl nx lv (.float v :: st) h) : Zz g l M mc ms Q QX ce sl pc lv (st) h := by
  obtain ⟨d, rfl⟩ := d
  intro p e s m args below meth c H locs ls C hH hl hL
  exact lv_ldcf C.1 C.2.1 C.2.2.2.2.1 (C.2.2.2.2.2.1 _ hw) d (k p e s m args below meth c H locs ls C hH hl hL)
end Rules
end
section
/-! RULES of the heap: fields, arrays, new -/
def zz_cn (c : Nat) : String := match zz_cl[c]? with
  | some r => r.1
  | none => ""
/-- entry ix of M's class is field k of class c -/
def zz_F (M : zz_M) (ix c k : Nat) : Prop := match zz_cl[c]? with
  | some r => k < r.2.2 ∧ Cond.fieldLink (zz_y M).cls ix (r.2.1 k).1 (r.2.1 k).2.1 (r.2.1 k).2.2.1 ∈ zz_gw
  | none => False
theorem zz_F.of {M : zz_M} {ix c k : Nat} (h : zz_F M ix c k) {r : vw_C} (hr : zz_cl[c]? = some r) : k < r.2.2 ∧ Cond.fieldLink (zz_y M).cls ix (r.2.1 k).1 (r.2.1 k).2.1 (r.2.1 k).2.2.1 ∈ zz_gw := by
  unfold zz_F at h
  rw [hr] at h
  exact h
/-- is field k of class c final -/
def zz_fin (c k : Nat) : Bool := match zz_cl[c]? with
  | some r => (r.2.1 k).2.2.2
  | none => true
/-- the class that declares it -/
def zz_dc (c k : Nat) : String := match zz_cl[c]? with
  | some r => (r.2.1 k).1
  | none => ""
theorem zz_apart {g : zz_G} {s : State} {args : Array Value} {c : Nat} {r : vw_C} (hts : ∀ w ∈ zz_gw, w.before args s = true) (hK : zz_Kn g s) (hr : zz_cl[c]? = some r) : ∀ a b, a < r.2.2 → b < r.2.2 → a ≠ b → g.2.1 c a ≠ g.2.1 c b :=
  va_apart (D := (g.1, g.2.1)) (cl := zz_cl) (tys := []) (own := r.1) hts (zz_clI hr) (zz_ty c) (zz_clT hr) (zz_clN hr) ⟨hK.2.1, fun k q h => by simp at h⟩ hr
section HRules
variable {g : zz_G} {l : Launch} {M : zz_M} {mc ms : Nat} {Q : Option Value → zz_H → Prop} {QX : String → zz_H → Prop} {ce sl pc nx : Nat} {lv : List (Option Value)} {st : List Value}
variable {K : Nat → Nat × Nat} {R : Nat → Nat → Option Nat} {I : Nat → Nat → Int32} {L : Nat → Nat → Int64} {z : Nat}
theorem zz_C.kn {p : Program} {s : State} {m : MethodId} {args : Array Value} {meth : Method} {c : Code} (C : zz_C g l M p s m args meth c) : zz_Kn g s := C.2.2.2.2.2.2.1.choose_spec.1
theorem zz_C.ws {p : Program} {s : State} {m : MethodId} {args : Array Value} {meth : Method} {c : Code} (C : zz_C g l M p s m args meth c) : ∀ w ∈ zz_gw, w.before args s = true := C.2.2.2.2.2.1
theorem zz_C.own {p : Program} {s : State} {m : MethodId} {args : Array Value} {meth : Method} {c : Code} (C : zz_C g l M p s m args meth c) : s.vm.findClass (zz_y M).cls = some m.cls := C.2.2.2.2.1
theorem z_get {ix c k a : Nat} (d : zz_D M pc (.getfield ix) 3 nx) (f : zz_F M ix c k) (hK : K a = zz_o c)
    (kk : Zz g l M mc ms Q QX ce sl nx lv (zz_fv c a R I k :: st) (K, R, I, L, z)) : Zz g l M mc ms Q QX ce sl pc lv (.ref a :: st) (K, R, I, L, z) := by
  obtain ⟨d, rfl⟩ := d
  intro p e s m args below meth cd H locs ls C hH hl hL
  obtain ⟨r, cell, hr, q1, q2, q3, q4, q5, q6⟩ := hH.1 a c hK
  obtain ⟨hk, hw⟩ := f.of hr
  obtain ⟨hS, hfc, kC, hkC, hkind⟩ := C.kn.2.1 c r hr
  obtain ⟨cf, kf, fi, fd, hi, hsl⟩ := hS k hk
  refine W.getf C.1 C.2.1 C.own (C.ws _ hw) hi (u_facts hfc hkC (u_lays C.ws (zz_clI hr) hk) hi).1 q1 q4 (v := zz_fv c a R I k) ?_ rfl rfl d (kk p e s m args below meth cd H locs ls C hH hl hL)
  rw [hsl, q6 k hk]
theorem z_getI {ix c k a : Nat} (d : zz_D M pc (.getfield ix) 3 nx) (f : zz_F M ix c k) (hK : K a = zz_o c) (hi : zz_ir c k = false)
    (kk : Zz g l M mc ms Q QX ce sl nx lv (.int (I a k) :: st) (K, R, I, L, z)) : Zz g l M mc ms Q QX ce sl pc lv (.ref a :: st) (K, R, I, L, z) :=
  z_get d f hK (by unfold zz_fv; rw [hi]; exact kk)
theorem z_getR {ix c k a b : Nat} (d : zz_D M pc (.getfield ix) 3 nx) (f : zz_F M ix c k) (hK : K a = zz_o c) (hi : zz_ir c k = true) (hb : R a k = some b)
    (kk : Zz g l M mc ms Q QX ce sl nx lv (.ref b :: st) (K, R, I, L, z)) : Zz g l M mc ms Q QX ce sl pc lv (.ref a :: st) (K, R, I, L, z) :=
  z_get d f hK (by unfold zz_fv; rw [hi, hb]; exact kk)
/-- the cell of an object after a store -/
theorem zz_put_ob {H1 : Heap} {a c k : Nat} {r : vw_C} {cell : Cell} {v : Value} {R' : Nat → Nat → Option Nat} {I' : Nat → Nat → Int32} (hr : zz_cl[c]? = some r) (hk : k < r.2.2) (q2 : cell.cls = g.1 c) (q3 : cell.vm = .none) (q6 : ∀ k, k < r.2.2 → cell.slots[g.2.1 c k]? = some (zz_fv c a R I k)) (hap : ∀ a b, a < r.2.2 → b < r.2.2 → a ≠ b → g.2.1 c a ≠ g.2.1 c b)
    (e1 : H1[a]? = some (cell.setSlot (g.2.1 c k) v)) (hv : ∀ j, j < r.2.2 → zz_fv c a R' I' j = if j = k then v else zz_fv c a R I j) : zz_ob g R' I' H1 a c := by
  refine ⟨r, _, hr, e1, q2, by show cell.vm.isStatics = false; rw [q3]; rfl, by show cell.vm ≠ .unknown; rw [q3]; exact fun h => (by cases h), fun _ => q3, fun j hj => ?_⟩
  rw [t_set q6 hap hk v j hj, hv j hj]
  unfold updV
  rfl
theorem z_put {ix c k a : Nat} {v : Value} {R' : Nat → Nat → Option Nat} {I' : Nat → Nat → Int32} (d : zz_D M pc (.putfield ix) 3 nx) (f : zz_F M ix c k) (hK : K a = zz_o c) (ha : zz_A g a)
    (hfin : zz_fin c k = false ∨ ((zz_y M).name = "<init>" ∧ zz_dc c k = (zz_y M).cls)) (hn : narrow (zz_ty c k) v = v) (hfit : fits (zz_ty c k) v = true)
    (hR : ∀ b, b ≠ a → R' b = R b) (hI : ∀ b, b ≠ a → I' b = I b) (hv : ∀ j, zz_fv c a R' I' j = if j = k then v else zz_fv c a R I j)
    (kk : Zz g l M mc ms Q QX ce sl nx lv st (K, R', I', L, z)) : Zz g l M mc ms Q QX ce sl pc lv (v :: .ref a :: st) (K, R, I, L, z) := by
  obtain ⟨d, rfl⟩ := d
  intro p e s m args below meth cd H locs ls C hH hl hL
  obtain ⟨r, cell, hr, q1, q2, q3, q4, q5, q6⟩ := hH.1 a c hK
  have q5 := q5 ha
  obtain ⟨hk, hw⟩ := f.of hr
  have hKn := C.kn
  obtain ⟨hS, hfc, kC, hkC, hkind⟩ := hKn.2.1 c r hr
  obtain ⟨cf, kf, fi, fd, hi, hsl⟩ := hS k hk
  have hap := zz_apart C.ws hKn hr
  have hty := zz_clT hr k hk
  have hst := (u_facts hfc hkC (u_lays C.ws (zz_clI hr) hk) hi).1
  have hlay := C.ws _ (zz_clI hr _ (u_in_lay hk))
  have hlt : fd.slot < cell.slots.size := by rw [hsl]; exact k2_hasslot (q6 k hk)
  have fin : ∀ H' : Heap, H'[a]? = some (cell.setSlot fd.slot v) → H'.size = H.size → (∀ q, q ≠ a → H'[q]? = H[q]?) → W p l e (zz_rm M mc ms) s m args below meth cd H' (locs ++ [⟨a, fd.slot⟩]) ce sl (vx_MQ below (zz_Qc g Q) (zz_XC g QX) args s mc ms (zz_A g)) (F0 m (pc + 3) ls st) := by
    intro H' e1 e2 e3
    rw [hsl] at e1
    refine kk p e s m args below meth cd H' _ ls C (hH.set ha e2 e3 hR hI (fun b _ => rfl) (fun c' hc' => ?_) (fun t n hc' => ?_)) hl (fun q hq => ?_)
    · have : c' = c := by
        have := hc'.symm.trans hK
        simpa using this
      subst this
      exact zz_put_ob hr hk q2 q5 q6 hap e1 (fun j _ => hv j)
    · exact absurd (hK.symm.trans hc') zz_o_ne
    · rcases List.mem_append.mp hq with h | h
      · exact hL q h
      · simp at h
        subst h
        exact ha
  by_cases hf : (r.2.1 k).2.2.2 = true
  · have hf2 : (zz_y M).name = "<init>" ∧ zz_dc c k = (zz_y M).cls := by
      rcases hfin with h | h
      · unfold zz_fin at h; rw [hr] at h; exact absurd (hf.symm.trans h) (by decide)
      · exact h
    have hdecl : (r.2.1 k).1 = (zz_y M).cls := by
      have := hf2.2; unfold zz_dc at this; rw [hr] at this; exact this
    unfold u_lay at hlay
    rw [if_pos hf] at hlay
    have hcf : m.cls = cf := by
      obtain ⟨_, _, c', _, _, _, -, -, hf', -, -, -, hown2, -⟩ := Cond.laysFinal_spec hlay
      have e1 : c' = cf := by have := hi.symm.trans hf'; simp at this; exact this.1.symm
      rw [hdecl] at hown2
      rw [← e1]; exact Option.some.inj (C.own.symm.trans hown2)
    have h6 := u_fits hfc hkC hkind (Or.inr hlay) hi hty hn hfit
    exact W.putFinK C.1 C.2.1 C.own (C.ws _ hw) hi hst hcf (C.2.2.2.2.2.2.2.2.2.2.trans hf2.1) (by rw [q2]; exact h6) q1 q5 hlt rfl rfl d fin
  · unfold u_lay at hlay
    rw [if_neg hf] at hlay
    have h6 := u_store hfc hkC hkind hlay hi hty hn hfit
    exact W.putK C.1 C.2.1 (f := fd) ⟨C.own, C.ws _ hw, ⟨_, _, _, hi⟩, hst⟩ (by rw [q2]; exact h6) q1 q5 hlt rfl rfl d fin
theorem zz_fv_I {c a k : Nat} {x : Int32} (hi : zz_ir c k = false) (j : Nat) : zz_fv c a R (zz_up I a k x) j = if j = k then .int x else zz_fv c a R I j := by
  unfold zz_fv
  by_cases e : j = k
  · subst e
    rw [if_pos rfl, hi, zz_up_s]; rfl
  · rw [if_neg e, zz_up_k e]
theorem zz_fv_R {c a k : Nat} {x : Option Nat} (hi : zz_ir c k = true) (j : Nat) : zz_fv c a (zz_up R a k x) I j = if j = k then va_rf x else zz_fv c a R I j := by
  unfold zz_fv
  by_cases e : j = k
  · subst e
    rw [if_pos rfl, hi, zz_up_s]; rfl
  · rw [if_neg e, zz_up_k e]
theorem z_putI {ix c k a : Nat} {x : Int32} (d : zz_D M pc (.putfield ix) 3 nx) (f : zz_F M ix c k) (hK : K a = zz_o c) (ha : zz_A g a) (hi : zz_ty c k = .int) (hfin : zz_fin c k = false)
    (kk : Zz g l M mc ms Q QX ce sl nx lv st (K, R, zz_up I a k x, L, z)) : Zz g l M mc ms Q QX ce sl pc lv (.int x :: .ref a :: st) (K, R, I, L, z) :=
  z_put d f hK ha (Or.inl hfin) (by rw [hi]; rfl) (by rw [hi]; rfl) (fun _ _ => rfl) (fun _ hb => zz_up_r hb) (zz_fv_I (by unfold zz_ir; rw [hi]; rfl)) kk
theorem z_putS {ix c k a : Nat} {x : Int32} {ty : FieldType} (d : zz_D M pc (.putfield ix) 3 nx) (f : zz_F M ix c k) (hK : K a = zz_o c) (ha : zz_A g a) (hi : zz_ty c k = ty) (hr : ty.isReference = false) (hfin : zz_fin c k = false ∨ ((zz_y M).name = "<init>" ∧ zz_dc c k = (zz_y M).cls)) (hn : narrow ty (.int x) = .int x) (hf : fits ty (.int x) = true)
    (kk : Zz g l M mc ms Q QX ce sl nx lv st (K, R, zz_up I a k x, L, z)) : Zz g l M mc ms Q QX ce sl pc lv (.int x :: .ref a :: st) (K, R, I, L, z) :=
  z_put d f hK ha hfin (by rw [hi]; exact hn) (by rw [hi]; exact hf) (fun _ _ => rfl) (fun _ hb => zz_up_r hb) (zz_fv_I (by unfold zz_ir; rw [hi]; exact hr)) kk
theorem z_putR {ix c k a b : Nat} (d : zz_D M pc (.putfield ix) 3 nx) (f : zz_F M ix c k) (hK : K a = zz_o c) (ha : zz_A g a) (hi : zz_ir c k = true) (hfin : zz_fin c k = false ∨ ((zz_y M).name = "<init>" ∧ zz_dc c k = (zz_y M).cls)) (hn : narrow (zz_ty c k) (.ref b) = .ref b) (hf : fits (zz_ty c k) (.ref b) = true)
    (kk : Zz g l M mc ms Q QX ce sl nx lv st (K, zz_up R a k (some b), I, L, z)) : Zz g l M mc ms Q QX ce sl pc lv (.ref b :: .ref a :: st) (K, R, I, L, z) :=
  z_put d f hK ha hfin hn hf (fun _ hb => zz_up_r hb) (fun _ _ => rfl) (zz_fv_R hi) kk
/-! arrays -/
theorem z_alen {a t n : Nat} (d : zz_D M pc .arraylength 1 nx) (hK : K a = zz_a t n) (kk : Zz g l M mc ms Q QX ce sl nx lv (.int (nI n) :: st) (K, R, I, L, z)) : Zz g l M mc ms Q QX ce sl pc lv (.ref a :: st) (K, R, I, L, z) := by
  obtain ⟨d, rfl⟩ := d
  intro p e s m args below meth cd H locs ls C hH hl hL
  obtain ⟨cell, h1, h2, h3, h4, h5, h6, h7, h8⟩ := hH.2.1 a t n hK
  exact W.alen C.1 C.2.1 h1 (State.isArrayOf_alike C.kn.1 h2) h5 rfl rfl d (kk p e s m args below meth cd H locs ls C hH hl hL)
theorem zz_inb {cell : Cell} {i : Int32} {n j : Nat} (hi : i = nI j) (hj : j < n) (hn : n ≤ cell.slots.size) (hm : n < 2 ^ 31) : ¬ (i < 0 ∨ cell.slots.size ≤ i.toNatClampNeg) := by
  subst hi
  rw [nI_clamp (by omega)]
  intro h
  rcases h with h | h
  · exact nI_pos (show j < 2 ^ 31 by omega) h
  · omega
theorem zz_el_I {t a j : Nat} (ht : t < 3) : zz_el t a R I L j = .int (I a j) := by unfold zz_el; rw [if_pos ht]
theorem zz_el_L {a j : Nat} : zz_el 3 a R I L j = .long (L a j) := rfl
theorem zz_el_R {t a j : Nat} (ht : 3 < t) : zz_el t a R I L j = va_rf (R a j) := by unfold zz_el; rw [if_neg (by omega), if_neg (by omega)]
/-- .. an index that is a number below the length -/
theorem z_iald {a n j : Nat} {i : Int32} (d : zz_D M pc .iaload 1 nx) (hK : K a = zz_a 0 n) (hi : i = nI j) (hj : j < n) (hm : n < 2 ^ 31) (kk : Zz g l M mc ms Q QX ce sl nx lv (.int (I a j) :: st) (K, R, I, L, z)) : Zz g l M mc ms Q QX ce sl pc lv (.int i :: .ref a :: st) (K, R, I, L, z) := by
  obtain ⟨d, rfl⟩ := d
  intro p e s m args below meth cd H locs ls C hH hl hL
  obtain ⟨cell, h1, h2, h3, h4, h5, h6, h7, h8⟩ := hH.2.1 a 0 n hK
  refine W.iald C.1 C.2.1 h1 (State.isArrayOf_alike C.kn.1 h2) h3 (zz_inb hi hj h4 hm) (v := .int (I a j)) ?_ rfl rfl d (kk p e s m args below meth cd H locs ls C hH hl hL)
  rw [hi, nI_clamp (by omega), h6 j hj, zz_el_I (by omega)]
theorem z_cald {a n j : Nat} {i : Int32} (d : zz_D M pc .caload 1 nx) (hK : K a = zz_a 1 n) (hi : i = nI j) (hj : j < n) (hm : n < 2 ^ 31) (kk : fits .char (.int (I a j)) = true → Zz g l M mc ms Q QX ce sl nx lv (.int (I a j) :: st) (K, R, I, L, z)) : Zz g l M mc ms Q QX ce sl pc lv (.int i :: .ref a :: st) (K, R, I, L, z) := by
  obtain ⟨d, rfl⟩ := d
  intro p e s m args below meth cd H locs ls C hH hl hL
  obtain ⟨cell, h1, h2, h3, h4, h5, h6, h7, h8⟩ := hH.2.1 a 1 n hK
  refine W.cald C.1 C.2.1 h1 (State.isArrayOf_alike C.kn.1 h2) h3 (zz_inb hi hj h4 hm) (v := .int (I a j)) ?_ rfl rfl d (kk (h8 (by omega) j hj) p e s m args below meth cd H locs ls C hH hl hL)
  rw [hi, nI_clamp (by omega), h6 j hj, zz_el_I (by omega)]
theorem z_bald {a n j : Nat} {i : Int32} (d : zz_D M pc .baload 1 nx) (hK : K a = zz_a 2 n) (hi : i = nI j) (hj : j < n) (hm : n < 2 ^ 31) (kk : fits .byte (.int (I a j)) = true → Zz g l M mc ms Q QX ce sl nx lv (.int (I a j) :: st) (K, R, I, L, z)) : Zz g l M mc ms Q QX ce sl pc lv (.int i :: .ref a :: st) (K, R, I, L, z) := by
  obtain ⟨d, rfl⟩ := d
  intro p e s m args below meth cd H locs ls C hH hl hL
  obtain ⟨cell, h1, h2, h3, h4, h5, h6, h7, h8⟩ := hH.2.1 a 2 n hK
  refine W.bald C.1 C.2.1 h1 (State.isArrayOf_alike C.kn.1 h2) h3 (zz_inb hi hj h4 hm) (v := .int (I a j)) ?_ rfl rfl d (kk (h8 (by omega) j hj) p e s m args below meth cd H locs ls C hH hl hL)
  rw [hi, nI_clamp (by omega), h6 j hj, zz_el_I (by omega)]
theorem z_lald {a n j : Nat} {i : Int32} (d : zz_D M pc .laload 1 nx) (hK : K a = zz_a 3 n) (hi : i = nI j) (hj : j < n) (hm : n < 2 ^ 31) (kk : Zz g l M mc ms Q QX ce sl nx lv (.long (L a j) :: st) (K, R, I, L, z)) : Zz g l M mc ms Q QX ce sl pc lv (.int i :: .ref a :: st) (K, R, I, L, z) := by
  obtain ⟨d, rfl⟩ := d
  intro p e s m args below meth cd H locs ls C hH hl hL
  obtain ⟨cell, h1, h2, h3, h4, h5, h6, h7, h8⟩ := hH.2.1 a 3 n hK
  refine W.lald C.1 C.2.1 h1 (State.isArrayOf_alike C.kn.1 h2) h3 (zz_inb hi hj h4 hm) (v := .long (L a j)) ?_ rfl rfl d (kk p e s m args below meth cd H locs ls C hH hl hL)
  rw [hi, nI_clamp (by omega), h6 j hj, zz_el_L]
theorem z_aald {a t n j b : Nat} {i : Int32} (d : zz_D M pc .aaload 1 nx) (hK : K a = zz_a t n) (ht : 3 < t) (hi : i = nI j) (hj : j < n) (hm : n < 2 ^ 31) (hb : R a j = some b) (kk : Zz g l M mc ms Q QX ce sl nx lv (.ref b :: st) (K, R, I, L, z)) : Zz g l M mc ms Q QX ce sl pc lv (.int i :: .ref a :: st) (K, R, I, L, z) := by
  obtain ⟨d, rfl⟩ := d
  intro p e s m args below meth cd H locs ls C hH hl hL
  obtain ⟨cell, h1, h2, h3, h4, h5, h6, h7, h8⟩ := hH.2.1 a t n hK
  have hty : (zz_at t).isReference = true := by
    unfold zz_at
    split <;> first | omega | rfl
  refine W.aald C.1 C.2.1 h1 (State.isArrayOf_alike C.kn.1 h2) hty h3 (zz_inb hi hj h4 hm) (v := .ref b) ?_ rfl rfl d (kk p e s m args below meth cd H locs ls C hH hl hL)
  rw [hi, nI_clamp (by omega), h6 j hj, zz_el_R ht]
  show some (va_rf (R a j)) = _
  rw [hb]
  rfl
/-- a cell of an array after a store -/
theorem zz_ast_ar {H1 : Heap} {a t n j : Nat} {v : Value} {R' : Nat → Nat → Option Nat} {I' : Nat → Nat → Int32} {L' : Nat → Nat → Int64} (ht6 : t < 6) {s : State} (hK : zz_Kn g s) (hn : n < 2 ^ 31) (e : H1[a]? = some ((arrV (g.2.2.1 t) n (zz_el t a R I L)).setSlot j v)) (hv : zz_el t a R' I' L' = updV (zz_el t a R I L) j v) (hf : t < 3 → ∀ i, i < n → fits (zz_at t) (.int (I' a i)) = true) : zz_ar g R' I' L' H1 a t n := by
  rw [arrV_store, ← hv] at e
  refine ⟨_, e, State.isArrayOf_alike hK.1.symm ((hK.2.2.1 t ht6).1 n _), (fun q => by cases q), by rw [arrV_size]; exact Nat.le_refl n, by rw [arrV_size], fun i hi => arrV_read _ _ hi, fun _ => rfl, hf⟩
theorem zz_oneLoc {locs : List Loc} {a i : Nat} (hL : ∀ q ∈ locs, zz_A g q.base) (ha : zz_A g a) : ∀ q ∈ locs ++ [⟨a, i⟩], zz_A g q.base := fun q hq => by
  rcases List.mem_append.mp hq with h | h
  · exact hL q h
  · simp at h
    subst h
    exact ha
theorem zz_el_upI {t a j : Nat} {x : Int32} (ht : t < 3) : zz_el t a R (zz_up I a j x) L = updV (zz_el t a R I L) j (.int x) := by
  funext i
  unfold updV zz_el
  rw [if_pos ht, if_pos ht]
  by_cases e : i = j
  · subst e
    rw [if_pos rfl, zz_up_s]
  · rw [if_neg e, zz_up_k e]
theorem zz_fit_up {t a j n : Nat} {x : Int32} (h : ∀ i, i < n → fits (zz_at t) (.int (I a i)) = true) (hx : fits (zz_at t) (.int x) = true) : ∀ i, i < n → fits (zz_at t) (.int (zz_up I a j x a i)) = true := by
  intro i hi
  by_cases e : i = j
  · subst e
    rw [zz_up_s]; exact hx
  · rw [zz_up_k e]; exact h i hi
theorem z_iast {a n j : Nat} {i x : Int32} (d : zz_D M pc .iastore 1 nx) (hK : K a = zz_a 0 n) (ha : zz_A g a) (hi : i = nI j) (hj : j < n) (hm : n < 2 ^ 31) (kk : Zz g l M mc ms Q QX ce sl nx lv st (K, R, zz_up I a j x, L, z)) : Zz g l M mc ms Q QX ce sl pc lv (.int x :: .int i :: .ref a :: st) (K, R, I, L, z) := by
  obtain ⟨d, rfl⟩ := d
  intro p e s m args below meth cd H locs ls C hH hl hL
  obtain ⟨cell, h1, h2, h3, h4, h5, h6, h7, h8⟩ := hH.2.1 a 0 n hK
  refine W.iast C.1 C.2.1 h1 (State.isArrayOf_alike C.kn.1 h2) h3 (zz_inb hi hj h4 hm) rfl rfl d fun H1 e1 e2 e3 => ?_
  rw [hi, nI_clamp (by omega), h7 ha] at e1
  refine kk p e s m args below meth cd H1 _ ls C (hH.set ha e2 e3 (fun _ _ => rfl) (fun _ hb => zz_up_r hb) (fun _ _ => rfl) (fun c' hc' => absurd (hc'.symm.trans hK) zz_o_ne) (fun t' n' hc' => ?_)) hl (zz_oneLoc hL ha)
  obtain ⟨rfl, rfl⟩ := zz_a_inj (hc'.symm.trans hK)
  exact zz_ast_ar (by omega) C.kn hm e1 (zz_el_upI (by omega)) (fun ht => zz_fit_up (h8 ht) rfl)
theorem z_cast {a n j : Nat} {i x : Int32} (d : zz_D M pc .castore 1 nx) (hK : K a = zz_a 1 n) (ha : zz_A g a) (hi : i = nI j) (hj : j < n) (hm : n < 2 ^ 31) (hx : fits .char (.int x) = true) (hn : narrow .char (.int x) = .int x) (kk : Zz g l M mc ms Q QX ce sl nx lv st (K, R, zz_up I a j x, L, z)) : Zz g l M mc ms Q QX ce sl pc lv (.int x :: .int i :: .ref a :: st) (K, R, I, L, z) := by
  obtain ⟨d, rfl⟩ := d
  intro p e s m args below meth cd H locs ls C hH hl hL
  obtain ⟨cell, h1, h2, h3, h4, h5, h6, h7, h8⟩ := hH.2.1 a 1 n hK
  refine W.cast C.1 C.2.1 h1 (State.isArrayOf_alike C.kn.1 h2) h3 (zz_inb hi hj h4 hm) rfl rfl d fun H1 e1 e2 e3 => ?_
  rw [hi, nI_clamp (by omega), h7 ha, hn] at e1
  refine kk p e s m args below meth cd H1 _ ls C (hH.set ha e2 e3 (fun _ _ => rfl) (fun _ hb => zz_up_r hb) (fun _ _ => rfl) (fun c' hc' => absurd (hc'.symm.trans hK) zz_o_ne) (fun t' n' hc' => ?_)) hl (zz_oneLoc hL ha)
  obtain ⟨rfl, rfl⟩ := zz_a_inj (hc'.symm.trans hK)
  exact zz_ast_ar (by omega) C.kn hm e1 (zz_el_upI (by omega)) (fun ht => zz_fit_up (h8 ht) hx)
theorem z_bast {a n j : Nat} {i x : Int32} (d : zz_D M pc .bastore 1 nx) (hK : K a = zz_a 2 n) (ha : zz_A g a) (hi : i = nI j) (hj : j < n) (hm : n < 2 ^ 31) (hx : fits .byte (.int x) = true) (hn : narrow .byte (.int x) = .int x) (kk : Zz g l M mc ms Q QX ce sl nx lv st (K, R, zz_up I a j x, L, z)) : Zz g l M mc ms Q QX ce sl pc lv (.int x :: .int i :: .ref a :: st) (K, R, I, L, z) := by
  obtain ⟨d, rfl⟩ := d
  intro p e s m args below meth cd H locs ls C hH hl hL
  obtain ⟨cell, h1, h2, h3, h4, h5, h6, h7, h8⟩ := hH.2.1 a 2 n hK
  refine W.bast C.1 C.2.1 h1 (State.isArrayOf_alike C.kn.1 h2) h3 (zz_inb hi hj h4 hm) rfl rfl d fun H1 e1 e2 e3 => ?_
  rw [hi, nI_clamp (by omega), h7 ha, hn] at e1
  refine kk p e s m args below meth cd H1 _ ls C (hH.set ha e2 e3 (fun _ _ => rfl) (fun _ hb => zz_up_r hb) (fun _ _ => rfl) (fun c' hc' => absurd (hc'.symm.trans hK) zz_o_ne) (fun t' n' hc' => ?_)) hl (zz_oneLoc hL ha)
  obtain ⟨rfl, rfl⟩ := zz_a_inj (hc'.symm.trans hK)
  exact zz_ast_ar (by omega) C.kn hm e1 (zz_el_upI (by omega)) (fun ht => zz_fit_up (h8 ht) hx)
theorem z_last {a n j : Nat} {i : Int32} {x : Int64} (d : zz_D M pc .lastore 1 nx) (hK : K a = zz_a 3 n) (ha : zz_A g a) (hi : i = nI j) (hj : j < n) (hm : n < 2 ^ 31) (kk : Zz g l M mc ms Q QX ce sl nx lv st (K, R, I, zz_up L a j x, z)) : Zz g l M mc ms Q QX ce sl pc lv (.long x :: .int i :: .ref a :: st) (K, R, I, L, z) := by
  obtain ⟨d, rfl⟩ := d
  intro p e s m args below meth cd H locs ls C hH hl hL
  obtain ⟨cell, h1, h2, h3, h4, h5, h6, h7, h8⟩ := hH.2.1 a 3 n hK
  refine W.last C.1 C.2.1 h1 (State.isArrayOf_alike C.kn.1 h2) h3 (zz_inb hi hj h4 hm) rfl rfl d fun H1 e1 e2 e3 => ?_
  rw [hi, nI_clamp (by omega), h7 ha] at e1
  refine kk p e s m args below meth cd H1 _ ls C (hH.set ha e2 e3 (fun _ _ => rfl) (fun _ _ => rfl) (fun _ hb => zz_up_r hb) (fun c' hc' => absurd (hc'.symm.trans hK) zz_o_ne) (fun t' n' hc' => ?_)) hl (zz_oneLoc hL ha)
  obtain ⟨rfl, rfl⟩ := zz_a_inj (hc'.symm.trans hK)
  refine zz_ast_ar (by omega) C.kn hm e1 ?_ (fun ht => absurd ht (by omega))
  funext i
  unfold updV
  rw [zz_el_L, zz_el_L]
  by_cases q : i = j
  · subst q
    rw [if_pos rfl, zz_up_s]
  · rw [if_neg q, zz_up_k q]
/-- a reference into an array of telegrams (t = 4) or stores (t = 5) -/
theorem z_aast {a t n j v : Nat} {i : Int32} (d : zz_D M pc .aastore 1 nx) (hK : K a = zz_a t n) (ha : zz_A g a) (ht : (t = 4 ∧ K v = zz_o 6) ∨ (t = 5 ∧ K v = zz_o 5)) (hv : zz_A g v) (hi : i = nI j) (hj : j < n) (hm : n < 2 ^ 31) (kk : Zz g l M mc ms Q QX ce sl nx lv st (K, zz_up R a j (some v), I, L, z)) : Zz g l M mc ms Q QX ce sl pc lv (.ref v :: .int i :: .ref a :: st) (K, R, I, L, z) := by
  obtain ⟨d, rfl⟩ := d
  intro p e s m args below meth cd H locs ls C hH hl hL
  obtain ⟨cell, h1, h2, h3, h4, h5, h6, h7, h8⟩ := hH.2.1 a t n hK
  have h7 := h7 ha
  obtain ⟨c, r, hr, hrn, hKv, ht6, hta⟩ : ∃ (c : Nat) (r : vw_C), zz_cl[c]? = some r ∧ zz_at t = .object r.1 ∧ K v = zz_o c ∧ t < 6 ∧ 3 < t := by
    rcases ht with ⟨rfl, h⟩ | ⟨rfl, h⟩
    · exact ⟨6, _, rfl, rfl, h, by omega, by omega⟩
    · exact ⟨5, _, rfl, rfl, h, by omega, by omega⟩
  obtain ⟨r', cellV, hr', g1, g2, g3, g4, g5, -⟩ := hH.1 v c hKv
  cases hr.symm.trans hr'
  have hKn := C.kn
  have hcls := (hKn.2.1 c r hr).2
  have hRA := (hKn.2.2.1 t ht6).2
  rw [hrn] at hRA
  obtain ⟨kA, comp, k1, k2, k3, -⟩ := hRA
  have hcomp : comp = g.1 c := Option.some.inj (k3.symm.trans hcls.1)
  subst hcomp
  obtain ⟨kC, hkC, -⟩ := hcls.2
  rw [h7] at h1
  refine W.aast C.1 C.2.1 h1 (fun q h => by cases h) (fun h => by cases h) k1 k2 rfl hkC ⟨by rw [hi]; exact nI_pos (by omega), by rw [hi, nI_clamp (by omega), arrV_size]; exact hj⟩ g1 (fun q h => by rw [g5 hv] at h; cases h) (by rw [g2]; exact hkC) (by rw [g2]; exact va_assign hcls) rfl rfl d fun H1 e1 e2 e3 => ?_
  rw [hi, nI_clamp (by omega)] at e1
  refine kk p e s m args below meth cd H1 _ ls C (hH.set ha e2 e3 (fun _ hb => zz_up_r hb) (fun _ _ => rfl) (fun _ _ => rfl) (fun c' hc' => absurd (hc'.symm.trans hK) zz_o_ne) (fun t' n' hc' => ?_)) hl (zz_oneLoc hL ha)
  obtain ⟨rfl, rfl⟩ := zz_a_inj (hc'.symm.trans hK)
  refine zz_ast_ar ht6 hKn hm e1 ?_ (fun ht => absurd ht (by omega))
  funext i
  unfold updV
  rw [zz_el_R hta, zz_el_R hta]
  by_cases q : i = j
  · subst q
    rw [if_pos rfl, zz_up_s]; rfl
  · rw [if_neg q, zz_up_k q]
end HRules
end
section
/-! RULES: new, calls, throws, a method's start -/
section CRules
variable {g : zz_G} {l : Launch} {M : zz_M} {mc ms : Nat} {Q : Option Value → zz_H → Prop} {QX : String → zz_H → Prop} {ce sl pc nx : Nat} {lv : List (Option Value)} {st : List Value} {h : zz_H}
variable {K : Nat → Nat × Nat} {R : Nat → Nat → Option Nat} {I : Nat → Nat → Int32} {L : Nat → Nat → Int64} {z : Nat}
def zz_K (K : Nat → Nat × Nat) (a : Nat) (kd : Nat × Nat) : Nat → Nat × Nat := fun b => if b = a then kd else K b
theorem zz_K_s {a : Nat} {kd : Nat × Nat} : zz_K K a kd a = kd := by simp [zz_K]
theorem zz_K_n {a b : Nat} {kd : Nat × Nat} (h : b ≠ a) : zz_K K a kd b = K b := by simp [zz_K, h]
def zz_0 {α : Type} (f : Nat → Nat → α) (a : Nat) (x : α) : Nat → Nat → α := fun b j => if b = a then x else f b j
theorem zz_0_s {α : Type} {f : Nat → Nat → α} {a j : Nat} {x : α} : zz_0 f a x a j = x := by simp [zz_0]
theorem zz_0_n {α : Type} {f : Nat → Nat → α} {a b : Nat} {x : α} (h : b ≠ a) : zz_0 f a x b = f b := by funext j; simp [zz_0, h]
/-- entry ix of M's class is the class c of the picture, of n slots -/
def zz_Nw2 (M : zz_M) (ix c n : Nat) : Prop := Cond.classLink (zz_y M).cls ix (zz_cn c) ∈ zz_gw ∧ Cond.instantiable (zz_cn c) n ∈ zz_gw ∧ Cond.initialized (zz_cn c) ∈ zz_gw ∧ c < zz_cl.length
theorem zz_cn_of {c : Nat} {r : vw_C} (hr : zz_cl[c]? = some r) : zz_cn c = r.1 := by unfold zz_cn; rw [hr]
/-- all the defaults -/
theorem zz_dflt {c k : Nat} {r : vw_C} (hr : zz_cl[c]? = some r) (h : zz_ir c k = true → (zz_0 R z none) z k = none) (hk : k < r.2.2) (hp : (zz_ty c k).isReference = true ∨ defaultValue (zz_ty c k) = .int 0) : defaultValue (zz_ty c k) = zz_fv c z (zz_0 R z none) (zz_0 I z 0) k := by
  unfold zz_fv
  rw [zz_0_s, zz_0_s]
  unfold zz_ir
  rcases hp with hp | hp
  · rw [if_pos hp]
    cases ht : zz_ty c k <;> rw [ht] at hp <;> first | rfl | (cases hp)
  · by_cases hq : (zz_ty c k).isReference = true
    · rw [if_pos hq]
      cases ht : zz_ty c k <;> rw [ht] at hq <;> first | rfl | (cases hq)
    · rw [if_neg hq]
      exact hp
theorem zz_cl_df : (zz_cl.zipIdx.all fun r => (List.range r.1.2.2).all fun k => decide ((zz_ty r.2 k).isReference = true ∨ defaultValue (zz_ty r.2 k) = .int 0)) = true := by decide +kernel
theorem zz_clD {c : Nat} {r : vw_C} (h : zz_cl[c]? = some r) {k : Nat} (hk : k < r.2.2) : (zz_ty c k).isReference = true ∨ defaultValue (zz_ty c k) = .int 0 := by
  have h1 := List.all_eq_true.mp zz_cl_df (r, c) (List.mem_zipIdx_iff_getElem?.mpr h)
  exact of_decide_eq_true (List.all_eq_true.mp h1 k (List.mem_range.mpr hk))
theorem z_new {ix c n : Nat} (d : zz_D M pc (.new ix) 3 nx) (w : zz_Nw2 M ix c n) (hc : ce + 1 ≤ mc) (hs : sl + n ≤ ms)
    (kk : zz_A g z → Zz g l M mc ms Q QX (ce + 1) (sl + n) nx lv (.ref z :: st) (zz_K K z (zz_o c), zz_0 R z none, zz_0 I z 0, L, z + 1)) : Zz g l M mc ms Q QX ce sl pc lv st (K, R, I, L, z) := by
  obtain ⟨d, rfl⟩ := d
  intro p e s m args below meth cd H locs ls C hH hl hL
  obtain ⟨w1, w2, w3, w4⟩ := w
  obtain ⟨r, hr⟩ : ∃ r, zz_cl[c]? = some r := ⟨_, List.getElem?_eq_getElem w4⟩
  rw [zz_cn_of hr] at w1 w2 w3
  have hKn := C.kn
  have hKc := hKn.2.1 c r hr
  have hz : z = H.size := hH.2.2.2.2
  have hA : zz_A g z := by show (zz_hb g).size ≤ z; rw [hz]; exact hH.2.2.2.1
  refine W.newcK C.1 C.2.1 C.own (C.ws _ w1) (C.ws _ w2) (C.ws _ w3) rfl d hc hs hKc.2.1 rfl fun H1 kC hkC e1 z1 o1 => ?_
  have hb := u_born (zz_ty c) C.ws (zz_clI hr) hKc hkC e1 (zz_clT hr)
  obtain ⟨cell, b1, b2, b3, b4⟩ := hb
  have key := kk hA p e s m args below meth cd H1 locs ls C (hH.push (kd := zz_o c) z1 o1 (fun b hb => zz_0_n hb) (fun b hb => zz_0_n hb) (fun _ _ => rfl) (fun c' hc' => ?_) (fun t' n' hc' => absurd hc' zz_o_ne)) hl hL
  · rw [hz] at key
    rw [← hz] at key ⊢
    exact key
  · have : c' = c := by simpa using hc'.symm
    subst this
    rw [hz]
    refine ⟨r, cell, hr, b1, b2, by rw [b3]; rfl, by rw [b3]; exact fun h => (by cases h), fun _ => b3, fun k hk => ?_⟩
    rw [b4 k hk]
    exact congrArg some (zz_dflt (z := H.size) hr (fun _ => zz_0_s) hk (zz_clD hr hk))
def zz_an : Nat → ArrayType := fun t => match t with
  | 0 => .int
  | 1 => .char
  | 2 => .byte
  | _ => .long
theorem zz_an_ty {t : Nat} (h : t < 4) : newarray.typeOf (zz_an t) = zz_at t := by
  match t, h with
  | 0, _ => rfl
  | 1, _ => rfl
  | 2, _ => rfl
  | 3, _ => rfl
theorem z_newa {t n : Nat} {x : Int32} (d : zz_D M pc (.newarray (zz_an t)) 2 nx) (ht : t < 4) (hw : Cond.arrayClass (zz_at t) ∈ zz_gw) (hx : x = nI n) (hn : n < 2 ^ 20) (hc : ce + 1 ≤ mc) (hs : sl + n ≤ ms)
    (kk : zz_A g z → Zz g l M mc ms Q QX (ce + 1) (sl + n) nx lv (.ref z :: st) (zz_K K z (zz_a t n), R, zz_0 I z 0, zz_0 L z 0, z + 1)) : Zz g l M mc ms Q QX ce sl pc lv (.int x :: st) (K, R, I, L, z) := by
  obtain ⟨d, rfl⟩ := d
  intro p e s m args below meth cd H locs ls C hH hl hL
  have hKn := C.kn
  have hz : z = H.size := hH.2.2.2.2
  have hA : zz_A g z := by show (zz_hb g).size ≤ z; rw [hz]; exact hH.2.2.2.1
  have hcb : n * componentBytes (newarray.typeOf (zz_an t)) ≤ 536870912 := by
    have : componentBytes (newarray.typeOf (zz_an t)) ≤ 8 := by
      rw [zz_an_ty ht]
      match t, ht with
      | 0, _ => decide
      | 1, _ => decide
      | 2, _ => decide
      | 3, _ => decide
    calc n * componentBytes (newarray.typeOf (zz_an t)) ≤ n * 8 := Nat.mul_le_mul_left _ this
      _ ≤ 536870912 := by omega
  refine va_newaK C.1 C.2.1 (by rw [zz_an_ty ht]; exact C.ws _ hw) rfl d rfl (by rw [hx]; exact nI_pos (by omega)) (by rw [hx, nI_clamp (by omega)]) hcb hc hs rfl fun H1 cA e1 z1 o1 hAr hNm => ?_
  have hcA : cA = g.2.2.1 t := by
    have h2 := (hKn.2.2.1 t (by omega)).2
    rw [zz_an_ty ht] at hNm
    have h3 : s.vm.findClass ("[" ++ (zz_at t).toString) = some (g.2.2.1 t) := by
      match t, ht with
      | 0, _ => exact h2
      | 1, _ => exact h2
      | 2, _ => exact h2
      | 3, _ => exact h2
    exact Option.some.inj (hNm.symm.trans h3)
  subst hcA
  have key := kk hA p e s m args below meth cd H1 locs ls C (hH.push (kd := zz_a t n) z1 o1 (fun _ _ => rfl) (fun b hb => zz_0_n hb) (fun b hb => zz_0_n hb) (fun c' hc' => absurd hc'.symm zz_o_ne) (fun t' n' hc' => ?_)) hl hL
  · rw [hz] at key
    rw [← hz] at key ⊢
    exact key
  · obtain ⟨rfl, rfl⟩ := zz_a_inj hc'.symm
    rw [hz]
    have e2 : zz_el t' H.size R (zz_0 I H.size 0) (zz_0 L H.size 0) = fun _ => defaultValue (newarray.typeOf (zz_an t')) := by
      funext j
      rw [zz_an_ty ht]
      match t', ht with
      | 0, _ => unfold zz_el; rw [zz_0_s]; rfl
      | 1, _ => unfold zz_el; rw [zz_0_s]; rfl
      | 2, _ => unfold zz_el; rw [zz_0_s]; rfl
      | 3, _ => rw [zz_el_L, zz_0_s]; rfl
    refine ⟨_, e1, State.isArrayOf_alike hKn.1.symm ((hKn.2.2.1 t' (by omega)).1 n' _), (fun q => by cases q), by rw [arrV_size]; exact Nat.le_refl _, by rw [arrV_size], fun i hi => by rw [arrV_read _ _ hi, e2], fun _ => by rw [e2], fun h3 j hj => ?_⟩
    rw [zz_0_s]
    match t', h3 with
    | 0, _ => rfl
    | 1, _ => rfl
    | 2, _ => rfl
theorem z_anew {ix t c n : Nat} {x : Int32} (d : zz_D M pc (.anewarray ix) 3 nx) (ht : (t = 4 ∧ c = 6) ∨ (t = 5 ∧ c = 5)) (hw : Cond.classLink (zz_y M).cls ix (zz_cn c) ∈ zz_gw) (hx : x = nI n) (hn : n < 2 ^ 20) (hc : ce + 1 ≤ mc) (hs : sl + n ≤ ms)
    (kk : zz_A g z → Zz g l M mc ms Q QX (ce + 1) (sl + n) nx lv (.ref z :: st) (zz_K K z (zz_a t n), zz_0 R z none, I, L, z + 1)) : Zz g l M mc ms Q QX ce sl pc lv (.int x :: st) (K, R, I, L, z) := by
  obtain ⟨d, rfl⟩ := d
  intro p e s m args below meth cd H locs ls C hH hl hL
  have hKn := C.kn
  have hz : z = H.size := hH.2.2.2.2
  have hA : zz_A g z := by show (zz_hb g).size ≤ z; rw [hz]; exact hH.2.2.2.1
  have hat : zz_at t = .object (zz_cn c) ∧ t < 6 ∧ 3 < t := by
    rcases ht with ⟨rfl, rfl⟩ | ⟨rfl, rfl⟩
    · exact ⟨rfl, by omega, by omega⟩
    · exact ⟨rfl, by omega, by omega⟩
  have hcl : x.toNatClampNeg = n := by rw [hx, nI_clamp (by omega)]
  have ho : va_AO (zz_cn c) s := by
    rcases ht with ⟨-, rfl⟩ | ⟨-, rfl⟩
    · exact hKn.2.2.2.2.2.2.1
    · exact hKn.2.2.2.2.2.2.2
  refine W.anew C.1 C.2.1 C.own (C.ws _ hw) (va_AO.use ho) rfl d rfl (by rw [hx]; exact nI_pos (by omega)) (by rw [hcl]; omega) hc (by rw [hcl]; exact hs) fun cA kA comp f1 f2 f3 f4 => ?_
  rw [hcl]
  have hcA : cA = g.2.2.1 t := by
    have h2 := (hKn.2.2.1 t hat.2.1).2
    rw [hat.1] at h2
    obtain ⟨_, _, -, -, -, h3⟩ := h2
    exact Option.some.inj (f1.symm.trans h3)
  subst hcA
  generalize hH1 : H.push ({ cls := g.2.2.1 t, slots := Array.replicate n .null, vm := .none } : Cell) = H1
  have z1 : H1.size = H.size + 1 := by rw [← hH1, Array.size_push]
  have e1 : H1[H.size]? = some (arrV (g.2.2.1 t) n (fun _ => .null)) := by rw [← hH1, Array.getElem?_push_size, ← arrV_new]
  have o1 : ∀ q : Nat, q < H.size → H1[q]? = H[q]? := fun q hq => by rw [← hH1, Array.getElem?_push, if_neg (Nat.ne_of_lt hq)]
  have key := kk hA p e s m args below meth cd H1 locs ls C (hH.push (kd := zz_a t n) z1 o1 (fun b hb => zz_0_n hb) (fun _ _ => rfl) (fun _ _ => rfl) (fun c' hc' => absurd hc'.symm zz_o_ne) (fun t' n' hc' => ?_)) hl hL
  · rw [hz] at key
    rw [← hz] at key ⊢
    exact key
  · obtain ⟨rfl, rfl⟩ := zz_a_inj hc'.symm
    rw [hz]
    have e2 : zz_el t' H.size (zz_0 R H.size none) I L = fun _ => .null := by
      funext j
      rw [zz_el_R hat.2.2, zz_0_s]
      rfl
    exact ⟨_, e1, State.isArrayOf_alike hKn.1.symm ((hKn.2.2.1 t' hat.2.1).1 n' _), (fun q => by cases q), by rw [arrV_size]; exact Nat.le_refl _, by rw [arrV_size], fun i hi => by rw [arrV_read _ _ hi, e2], fun _ => by rw [e2], fun h3 j hj => absurd h3 (by omega)⟩
/-- Object.<init>() -/
theorem z_obj {ix a : Nat} (d : zz_D M pc (.invokespecial ix) 3 nx) (w1 : Cond.methodLink (zz_y M).cls ix Lib.objectInit ∈ zz_gw) (w2 : Cond.instanceMethod Lib.objectInit ∈ zz_gw) (w3 : Cond.code Lib.objectInit ⟨#[0xb1]⟩ 1 none ∈ zz_gw) (hd : 1 ≤ zz_d M) (hW : (st.map fun v => v.category).sum + 12 ≤ 40 * zz_d M)
    (kk : Zz g l M mc ms Q QX ce sl nx lv st h) : Zz g l M mc ms Q QX ce sl pc lv (.ref a :: st) h := by
  obtain ⟨d, rfl⟩ := d
  intro p e s m args below meth cd H locs ls C hH hl hL
  exact W.objInit C.1 C.2.1 C.own (C.ws _ w1) (C.ws _ w2) (C.ws _ w3) rfl (by rw [C.2.2.2.1]; exact hl.1) rfl d hd (by show 2 * 0 + _ + 12 ≤ 40 * zz_d M; omega) (kk p e s m args below meth cd H locs ls C hH hl hL)
/-! the state at a call -/
theorem zz_C.W {p : Program} {s : State} {m : MethodId} {args : Array Value} {meth : Method} {c : Code} (C : zz_C g l M p s m args meth c) {H : Heap} (hH : zz_hp g h H) {U : State} (hU : U.heap = H) (hW : s.WarmedH U.vm) : zz_W g h U := by
  obtain ⟨h0, k1, k2, k3⟩ := C.2.2.2.2.2.2.1
  refine ⟨k1.warm hW, by rw [hU]; exact hH, ?_⟩
  rw [hU]
  exact (k3.kept (fun a _ ha => zz_hp.old k2 hH a ha)).moved hW.alike
theorem zz_blind {av : List Value} : FrameBlind (va_Pc av (fun U => zz_W g h U)) := fun _ _ G mk q => ⟨q.1, q.2.calling G mk _⟩
/-- behind a call -/
theorem zz_after {p : Program} {e : Env} {Rm : Room} {s : State} {m : MethodId} {args : Array Value} {below : List Frame} {meth : Method} {c : Code} {H : Heap} {locs : List Loc} {mc' ms' : Nat} {ls : Array Slot} {st0 rest : List Value} {a : Array Value} {Q' : Option Value → zz_H → Prop} {QX' : String → zz_H → Prop} {Qf : State → Prop}
    (hr : vx_Run p l e Rm s m args below meth c H locs ce sl mc' ms' (F0 m pc ls st0) rest (zz_Qc g Q' a) (zz_XC g QX') (zz_A g)) (hL : ∀ q ∈ locs, zz_A g q.base)
    (kx : ∀ (E : String) (h' : zz_H) (H1 : Heap) (locs1 : List Loc) (x : Cell) (q : Addr), zz_hp g h' H1 → QX' E h' → (∀ q ∈ locs1, zz_A g q.base) → H1[q]? = some x → x.vm = .none → s.vm.findClass E = some x.cls → vx_W p l e Rm s m args below meth c H1 locs1 (ce + mc') (sl + ms') Qf (F0 m pc ls rest) q)
    (kk : ∀ (v : Option Value) (h' : zz_H) (H1 : Heap) (locs1 : List Loc), zz_hp g h' H1 → Q' v h' → (∀ q ∈ locs1, zz_A g q.base) → W p l e Rm s m args below meth c H1 locs1 (ce + mc') (sl + ms') Qf (F0 m (pc + 3) ls (v.toList ++ rest))) : W p l e Rm s m args below meth c H locs ce sl Qf (F0 m pc ls st0) := by
  intro T hT X
  rcases hr T hT X with ⟨v, st₀, t, T', Ls, h0, X', hL', e1, e2, ⟨v', h', ev, hp, hq⟩, stp⟩ | ⟨q, st₀, t, T', Ls, E, x, h0, X', hL', e1, e2, ⟨h', hp, hq⟩, hce, hcv, hcl, stp⟩
  · cases ev
    obtain ⟨t2, a1, b1⟩ := kk v h' T'.heap (locs ++ Ls) (by rw [e1]; exact hp) hq (fun q hq => (List.mem_append.mp hq).elim (hL q) (hL' q)) T' rfl X'
    exact ⟨t2, stp t2 a1, b1⟩
  · obtain ⟨t2, a1, b1⟩ := kx E h' T'.heap (locs ++ Ls) x q (by rw [e1]; exact hp) hq (fun q hq => (List.mem_append.mp hq).elim (hL q) (hL' q)) (by rw [e1]; exact hce) hcv hcl T' rfl X'
    exact ⟨t2, stp.trans a1, b1⟩
/-- what holds of every callee -/
def zz_cal (M M' : zz_M) (n : Nat) : Prop := zz_cw M' ∈ zz_gw ∧ Cond.initialized (zz_y M').cls ∈ zz_gw ∧ ((zz_y M').cls ≠ "java/lang/invoke/MethodHandle" ∧ (zz_y M').cls ≠ "java/lang/invoke/VarHandle" ∧ (parseMethodDescriptor (zz_y M').desc).map (fun d => d.parameters.length) = some n) ∧ zz_d M' + 1 ≤ zz_d M ∧ zz_n M' ≤ 21
theorem zz_good {w : Cond} (h : w ∈ zz_gw) : w ∈ zz_gw ∧ ((w.onTables && w.keeps) = true ∨ ∃ ty, w = .arrayClass ty) := ⟨h, good_of_word (zz_gw_good w h)⟩
theorem zz_goodIn {M' : zz_M} (h : zz_cw M' ∈ zz_gw) : GoodIn zz_gw (zz_ws M') := fun w hw => by
  rcases List.mem_cons.mp hw with rfl | hw
  · exact zz_good h
  · exact zz_good hw
theorem zz_cal.room {M' : zz_M} {n mc' ms' : Nat} (k : zz_cal M M' n) : (zz_rm M' mc' ms').frames + 1 ≤ (zz_rm M mc ms).frames ∧ 8 + (zz_n M' + 11) + (zz_rm M' mc' ms').locals ≤ (zz_rm M mc ms).locals := by
  obtain ⟨-, -, -, h1, h2⟩ := k
  refine ⟨h1, ?_⟩
  show 8 + (zz_n M' + 11) + 40 * zz_d M' ≤ 40 * zz_d M
  omega
theorem zz_cw_code {M' : zz_M} (h : zz_hh M' = []) : zz_ws M' = Cond.code (zz_y M') (zz_b M') (zz_n M') (zz_r M') :: zz_gw := by
  unfold zz_ws zz_cw
  rw [h]
/-- where a throw goes: out of a method without handlers -/
theorem zz_out {p : Program} {e : Env} {s : State} {m : MethodId} {args : Array Value} {below : List Frame} {meth : Method} {c : Code} {H1 : Heap} {locs1 : List Loc} {x : Cell} {q : Addr} {E : String} {ls : Array Slot} {rest : List Value} {h' : zz_H} (C : zz_C g l M p s m args meth c) (hh : zz_hh M = []) (hp : zz_hp g h' H1) (hq : QX E h') (hL : ∀ q ∈ locs1, zz_A g q.base) (h1 : H1[q]? = some x) (h2 : x.vm = .none) (h3 : s.vm.findClass E = some x.cls) (hc : ce ≤ mc) (hs : sl ≤ ms) :
    vx_W p l e (zz_rm M mc ms) s m args below meth c H1 locs1 ce sl (vx_MQ below (zz_Qc g Q) (zz_XC g QX) args s mc ms (zz_A g)) (F0 m pc ls rest) q := by
  refine vx_out (fun y hy => ?_) C.2.2.2.2.2.2.2.1 h1 h2 h3 (fun t ht _ => ⟨h', by rw [ht]; exact hp, hq⟩) hL hc hs
  rw [C.2.2.2.2.2.2.2.2.1, hh] at hy
  simp [tableOf] at hy
/-! kinds of calls: what the tables must say -/
def zz_kV (M M' : zz_M) (ix n : Nat) : Prop := zz_cal M M' n ∧ zz_hh M' = [] ∧ Cond.methodLink (zz_y M).cls ix (zz_y M') ∈ zz_gw ∧ Cond.instanceMethod (zz_y M') ∈ zz_gw ∧ Cond.selects (zz_y M').cls (zz_y M') (zz_y M') ∈ zz_gw
def zz_kS (M M' : zz_M) (ix n : Nat) : Prop := zz_cal M M' n ∧ zz_hh M' = [] ∧ Cond.methodLink (zz_y M).cls ix (zz_y M') ∈ zz_gw ∧ Cond.static (zz_y M') ∈ zz_gw
def zz_kX (M M' : zz_M) (ix n : Nat) : Prop := zz_cal M M' n ∧ zz_cw M' = .codeWith (zz_y M') (zz_b M') (zz_n M') (zz_r M') (zz_hh M') ∧ Cond.methodLink (zz_y M).cls ix (zz_y M') ∈ zz_gw ∧ Cond.static (zz_y M') ∈ zz_gw
def zz_kI (M M' : zz_M) (ix n : Nat) : Prop := zz_cal M M' n ∧ zz_hh M' = [] ∧ zz_r M' = none ∧ (zz_y M').name = "<init>" ∧ Cond.methodLink (zz_y M).cls ix (zz_y M') ∈ zz_gw ∧ Cond.instanceMethod (zz_y M') ∈ zz_gw
def zz_kSN (M M' : zz_M) (ix n : Nat) : Prop := zz_cal M M' n ∧ zz_hh M' = [] ∧ (∃ host, Cond.methodLinkNest (zz_y M).cls ix (zz_y M') host ∈ zz_nw) ∧ Cond.static (zz_y M') ∈ zz_gw
def zz_kIN (M M' : zz_M) (ix n : Nat) : Prop := zz_cal M M' n ∧ zz_hh M' = [] ∧ zz_r M' = none ∧ (zz_y M').name = "<init>" ∧ (∃ host, Cond.methodLinkNest (zz_y M).cls ix (zz_y M') host ∈ zz_nw) ∧ Cond.instanceMethod (zz_y M') ∈ zz_gw
theorem zz_fix {p : Program} {s : State} {m : MethodId} {args : Array Value} {meth : Method} {c : Code} (C : zz_C g l M p s m args meth c) : CallFix p m c (zz_b M) (zz_n M) s args zz_gw (zz_y M).cls := ⟨C.1, C.2.1, C.2.2.2.1, C.own, C.ws⟩
theorem zz_recv {p : Program} {s : State} {m : MethodId} {args : Array Value} {meth : Method} {cd : Code} (C : zz_C g l M p s m args meth cd) {H : Heap} (hH : zz_hp g h H) {b c : Nat} (hK : h.1 b = zz_o c) : ∃ cellB : Cell, H[b]? = some cellB ∧ cellB.vm.isStatics = false ∧ s.vm.findClass (zz_cn c) = some cellB.cls := by
  obtain ⟨r, cell, hr, q1, q2, q3, q4, q5, q6⟩ := hH.1 b c hK
  obtain ⟨-, hfc, -⟩ := C.kn.2.1 c r hr
  exact ⟨cell, q1, q3, by rw [zz_cn_of hr, q2]; exact hfc⟩
theorem zz_run {M' : zz_M} {mc' ms' : Nat} {av : List Value} {Q' : Option Value → zz_H → Prop} {QX' : String → zz_H → Prop} (S : zz_S g l M' mc' ms' av h Q' QX') : vx_Met l (zz_y M') (zz_ws M') (zz_rm M' mc' ms') (va_Pc av (fun U => zz_W g h U)) (zz_Qc g Q') (zz_XC g QX') mc' ms' (zz_A g) := S
theorem zz_gl {l4 ws : List Cond} (h : ∀ w ∈ l4, w ∈ zz_gw) (h2 : GoodIn zz_gw ws) : GoodIn zz_gw (l4 ++ ws) := fun w hw => (List.mem_append.mp hw).elim (fun q => zz_good (h w q)) (h2 w)
theorem zz_all3 {a b c : Cond} (h1 : a ∈ zz_gw) (h2 : b ∈ zz_gw) (h3 : c ∈ zz_gw) : ∀ w ∈ [a, b, c], w ∈ zz_gw := by
  intro w hw
  simp at hw
  rcases hw with rfl | rfl | rfl <;> assumption
theorem zz_all4 {a b c d : Cond} (h1 : a ∈ zz_gw) (h2 : b ∈ zz_gw) (h3 : c ∈ zz_gw) (h4 : d ∈ zz_gw) : ∀ w ∈ [a, b, c, d], w ∈ zz_gw := by
  intro w hw
  simp at hw
  rcases hw with rfl | rfl | rfl | rfl <;> assumption
theorem zz_all5 {a b c d e : Cond} (h1 : a ∈ zz_gw) (h2 : b ∈ zz_gw) (h3 : c ∈ zz_gw) (h4 : d ∈ zz_gw) (h5 : e ∈ zz_gw) : ∀ w ∈ [a, b, c, d, e], w ∈ zz_gw := by
  intro w hw
  simp at hw
  rcases hw with rfl | rfl | rfl | rfl | rfl <;> assumption
/-- the run of a plain virtual call -/
theorem zz_runV {p : Program} {e : Env} {s : State} {m : MethodId} {args : Array Value} {below : List Frame} {meth : Method} {cd : Code} {H : Heap} {locs : List Loc} {ls : Array Slot} {M' : zz_M} {ix n b c mc' ms' : Nat} {As : List Value} {Q' : Option Value → zz_H → Prop} {QX' : String → zz_H → Prop} (C : zz_C g l M p s m args meth cd) (hH : zz_hp g h H) (hl : zz_lv lv (zz_n M) ls) (d : decode (zz_b M) pc = .ok (.invokevirtual ix, 3)) (w : zz_kV M M' ix n) (hK : h.1 b = zz_o c) (hcn : zz_cn c = (zz_y M').cls) (hn : As.length = n) (hW : (st.map fun v => v.category).sum ≤ 8) (hf : ce + mc' ≤ mc ∧ sl + ms' ≤ ms)
    (S : zz_S g l M' mc' ms' (.ref b :: As) h Q' QX') : vx_Run p l e (zz_rm M mc ms) s m args below meth cd H locs ce sl mc' ms' (F0 m pc ls (As.reverse ++ .ref b :: st)) st (zz_Qc g Q' (Value.ref b :: As).toArray) (zz_XC g QX') (zz_A g) := by
  obtain ⟨k, hh', w1, w2, w3⟩ := w
  exact vx_runV (C := (zz_y M').cls) (zz_fix C) S (cwV n C.ws (zz_gl (zz_all4 w1 w2 w3 k.2.1) (zz_goodIn k.1)) (zz_cw_code hh') rfl rfl ⟨rfl, k.2.2.1⟩ k.room) ⟨zz_blind, by rw [← hcn]; exact zz_recv C hH hK, fun U hU hW => ⟨rfl, C.W hH hU hW⟩⟩ rfl hn hl.1 rfl (lv_room hW) d hf
theorem z_callV {M' : zz_M} {ix n b c mc' ms' : Nat} {As : List Value} {Q' : Option Value → zz_H → Prop} {QX' : String → zz_H → Prop} (d : zz_D M pc (.invokevirtual ix) 3 nx) (w : zz_kV M M' ix n) (hh : zz_hh M = []) (hK : h.1 b = zz_o c) (hcn : zz_cn c = (zz_y M').cls) (hn : As.length = n) (hW : (st.map fun v => v.category).sum ≤ 8) (hf : ce + mc' ≤ mc ∧ sl + ms' ≤ ms)
    (S : zz_S g l M' mc' ms' (.ref b :: As) h Q' QX') (hx : ∀ E h', QX' E h' → QX E h') (kk : ∀ v h', Q' v h' → Zz g l M mc ms Q QX (ce + mc') (sl + ms') nx lv (v.toList ++ st) h') : Zz g l M mc ms Q QX ce sl pc lv (As.reverse ++ .ref b :: st) h := by
  obtain ⟨d, rfl⟩ := d
  intro p e s m args below meth cd H locs ls C hH hl hL
  exact zz_after (zz_runV C hH hl d w hK hcn hn hW hf S) hL (fun E h' H1 locs1 x q hp hq hL1 h1 h2 h3 => zz_out C hh hp (hx E h' hq) hL1 h1 h2 h3 hf.1 hf.2) (fun v h' H1 locs1 hp hq hL1 => kk v h' hq p e s m args below meth cd H1 locs1 ls C hp hl hL1)
theorem z_callS {M' : zz_M} {ix n mc' ms' : Nat} {As : List Value} {Q' : Option Value → zz_H → Prop} {QX' : String → zz_H → Prop} (d : zz_D M pc (.invokestatic ix) 3 nx) (w : zz_kS M M' ix n) (hh : zz_hh M = []) (hn : As.length = n) (hW : (st.map fun v => v.category).sum ≤ 8) (hf : ce + mc' ≤ mc ∧ sl + ms' ≤ ms)
    (S : zz_S g l M' mc' ms' As h Q' QX') (hx : ∀ E h', QX' E h' → QX E h') (kk : ∀ v h', Q' v h' → Zz g l M mc ms Q QX (ce + mc') (sl + ms') nx lv (v.toList ++ st) h') : Zz g l M mc ms Q QX ce sl pc lv (As.reverse ++ st) h := by
  obtain ⟨d, rfl⟩ := d
  intro p e s m args below meth cd H locs ls C hH hl hL
  obtain ⟨k, hh', w1, w2⟩ := w
  exact zz_after (vx_runS (zz_fix C) S (va_cwS n C.ws (zz_gl (zz_all3 w1 w2 k.2.1) (zz_goodIn k.1)) (zz_cw_code hh') rfl rfl k.2.2.1 k.room) ⟨zz_blind, fun U hU hW => ⟨rfl, C.W hH hU hW⟩⟩ rfl hn hl.1 rfl (lv_room hW) d hf) hL (fun E h' H1 locs1 x q hp hq hL1 h1 h2 h3 => zz_out C hh hp (hx E h' hq) hL1 h1 h2 h3 hf.1 hf.2) (fun v h' H1 locs1 hp hq hL1 => kk v h' hq p e s m args below meth cd H1 locs1 ls C hp hl hL1)
theorem z_callX {M' : zz_M} {ix n mc' ms' : Nat} {As : List Value} {Q' : Option Value → zz_H → Prop} {QX' : String → zz_H → Prop} (d : zz_D M pc (.invokestatic ix) 3 nx) (w : zz_kX M M' ix n) (hh : zz_hh M = []) (hn : As.length = n) (hW : (st.map fun v => v.category).sum ≤ 8) (hf : ce + mc' ≤ mc ∧ sl + ms' ≤ ms)
    (S : zz_S g l M' mc' ms' As h Q' QX') (hx : ∀ E h', QX' E h' → QX E h') (kk : ∀ v h', Q' v h' → Zz g l M mc ms Q QX (ce + mc') (sl + ms') nx lv (v.toList ++ st) h') : Zz g l M mc ms Q QX ce sl pc lv (As.reverse ++ st) h := by
  obtain ⟨d, rfl⟩ := d
  intro p e s m args below meth cd H locs ls C hH hl hL
  obtain ⟨k, hcw, w1, w2⟩ := w
  exact zz_after (vx_runSX (zz_fix C) S (vx_cwSW n C.ws (zz_gl (zz_all3 w1 w2 k.2.1) (zz_goodIn k.1)) (by unfold zz_ws; rw [hcw]) rfl rfl k.2.2.1 k.room) ⟨zz_blind, fun U hU hW => ⟨rfl, C.W hH hU hW⟩⟩ rfl hn hl.1 rfl (lv_room hW) d hf) hL (fun E h' H1 locs1 x q hp hq hL1 h1 h2 h3 => zz_out C hh hp (hx E h' hq) hL1 h1 h2 h3 hf.1 hf.2) (fun v h' H1 locs1 hp hq hL1 => kk v h' hq p e s m args below meth cd H1 locs1 ls C hp hl hL1)
theorem z_callI {M' : zz_M} {ix n b mc' ms' : Nat} {As : List Value} {Q' : Option Value → zz_H → Prop} {QX' : String → zz_H → Prop} (d : zz_D M pc (.invokespecial ix) 3 nx) (w : zz_kI M M' ix n) (hh : zz_hh M = []) (hn : As.length = n) (hW : (st.map fun v => v.category).sum ≤ 8) (hf : ce + mc' ≤ mc ∧ sl + ms' ≤ ms)
    (S : zz_S g l M' mc' ms' (.ref b :: As) h Q' QX') (hx : ∀ E h', QX' E h' → QX E h') (kk : ∀ v h', Q' v h' → Zz g l M mc ms Q QX (ce + mc') (sl + ms') nx lv (v.toList ++ st) h') : Zz g l M mc ms Q QX ce sl pc lv (As.reverse ++ .ref b :: st) h := by
  obtain ⟨d, rfl⟩ := d
  intro p e s m args below meth cd H locs ls C hH hl hL
  obtain ⟨k, hh', hr', hy, w1, w2⟩ := w
  exact zz_after (vx_runI (zz_fix C) S (cwI n C.ws (zz_goodIn k.1) (by rw [zz_cw_code hh', hr']) rfl rfl (C.ws _ k.2.1) (C.ws _ w1) (C.ws _ w2) hy k.2.2.1 k.room) ⟨zz_blind, fun U hU hW => ⟨rfl, C.W hH hU hW⟩⟩ rfl hn hl.1 rfl (lv_room hW) d hf) hL (fun E h' H1 locs1 x q hp hq hL1 h1 h2 h3 => zz_out C hh hp (hx E h' hq) hL1 h1 h2 h3 hf.1 hf.2) (fun v h' H1 locs1 hp hq hL1 => kk v h' hq p e s m args below meth cd H1 locs1 ls C hp hl hL1)
theorem z_callSN {M' : zz_M} {ix n mc' ms' : Nat} {As : List Value} {Q' : Option Value → zz_H → Prop} {QX' : String → zz_H → Prop} (d : zz_D M pc (.invokestatic ix) 3 nx) (w : zz_kSN M M' ix n) (hh : zz_hh M = []) (hn : As.length = n) (hW : (st.map fun v => v.category).sum ≤ 8) (hf : ce + mc' ≤ mc ∧ sl + ms' ≤ ms)
    (S : zz_S g l M' mc' ms' As h Q' QX') (hx : ∀ E h', QX' E h' → QX E h') (kk : ∀ v h', Q' v h' → Zz g l M mc ms Q QX (ce + mc') (sl + ms') nx lv (v.toList ++ st) h') : Zz g l M mc ms Q QX ce sl pc lv (As.reverse ++ st) h := by
  obtain ⟨d, rfl⟩ := d
  intro p e s m args below meth cd H locs ls C hH hl hL
  obtain ⟨k, hh', ⟨host, w1⟩, w2⟩ := w
  exact zz_after (vx_runSN (zz_fix C) S ⟨va_cnB n C.ws (zz_goodIn k.1) (zz_cw_code hh') rfl rfl (C.kn.2.2.2.1 _ w1) (C.ws _ k.2.1) k.2.2.1 k.room, C.ws _ w2, trivial⟩ ⟨zz_blind, fun U hU hW => ⟨rfl, C.W hH hU hW⟩⟩ rfl hn hl.1 rfl (lv_room hW) d hf) hL (fun E h' H1 locs1 x q hp hq hL1 h1 h2 h3 => zz_out C hh hp (hx E h' hq) hL1 h1 h2 h3 hf.1 hf.2) (fun v h' H1 locs1 hp hq hL1 => kk v h' hq p e s m args below meth cd H1 locs1 ls C hp hl hL1)
theorem z_callIN {M' : zz_M} {ix n b mc' ms' : Nat} {As : List Value} {Q' : Option Value → zz_H → Prop} {QX' : String → zz_H → Prop} (d : zz_D M pc (.invokespecial ix) 3 nx) (w : zz_kIN M M' ix n) (hh : zz_hh M = []) (hn : As.length = n) (hW : (st.map fun v => v.category).sum ≤ 8) (hf : ce + mc' ≤ mc ∧ sl + ms' ≤ ms)
    (S : zz_S g l M' mc' ms' (.ref b :: As) h Q' QX') (hx : ∀ E h', QX' E h' → QX E h') (kk : ∀ v h', Q' v h' → Zz g l M mc ms Q QX (ce + mc') (sl + ms') nx lv (v.toList ++ st) h') : Zz g l M mc ms Q QX ce sl pc lv (As.reverse ++ .ref b :: st) h := by
  obtain ⟨d, rfl⟩ := d
  intro p e s m args below meth cd H locs ls C hH hl hL
  obtain ⟨k, hh', hr', hy, ⟨host, w1⟩, w2⟩ := w
  exact zz_after (vx_runIN (zz_fix C) S ⟨va_cnB n C.ws (zz_goodIn k.1) (by rw [zz_cw_code hh', hr']) rfl rfl (C.kn.2.2.2.1 _ w1) (C.ws _ k.2.1) k.2.2.1 k.room, hy, C.ws _ w2⟩ ⟨zz_blind, fun U hU hW => ⟨rfl, C.W hH hU hW⟩⟩ rfl hn hl.1 rfl (lv_room hW) d hf) hL (fun E h' H1 locs1 x q hp hq hL1 h1 h2 h3 => zz_out C hh hp (hx E h' hq) hL1 h1 h2 h3 hf.1 hf.2) (fun v h' H1 locs1 hp hq hL1 => kk v h' hq p e s m args below meth cd H1 locs1 ls C hp hl hL1)
end CRules
end
section
/-! RULES: a method's start, throws, handlers, statics, Strings, copies -/
section DRules
variable {g : zz_G} {l : Launch} {M : zz_M} {mc ms : Nat} {Q : Option Value → zz_H → Prop} {QX : String → zz_H → Prop} {ce sl pc nx : Nat} {lv : List (Option Value)} {st : List Value} {h : zz_H}
variable {K : Nat → Nat × Nat} {R : Nat → Nat → Option Nat} {I : Nat → Nat → Int32} {L : Nat → Nat → Int64} {z : Nat}
theorem zz_lv_start {av : List Value} {n : Nat} (hn : (lg_sl av).length ≤ n) : zz_lv (zz_lv0 av) n ((lg_sl av ++ List.replicate (n - (lg_sl av).length) Slot.unset).toArray) := by
  have h0 := lv_entry av hn
  refine ⟨h0.1, h0.2.1, fun i v hv => ?_⟩
  have := zz_lv0_args av 0 i v hv
  rw [Nat.zero_add] at this
  exact h0.2.2 (i, v) this
theorem zz_body {av : List Value} {p : Program} {e : Env} {s : State} {m : MethodId} {args : Array Value} {below : List Frame} {meth : Method} {c : Code} {s₁ : State} (hf : l.stackTraces = false) (hn : (lg_sl av).length ≤ zz_n M)
    (B : BodyLoose p l (zz_y M) (headSpec (zz_ws M) (zz_rm M mc ms)) (zz_b M) (zz_n M) (zz_r M) e s m args below meth c s₁) (hml : c.maxLocals = zz_n M) (ht : c.exceptionTable.toList = tableOf (zz_hh M)) (hP : va_Pc av (fun U => zz_W g h U) args s)
    (k : Zz g l M mc ms Q QX 0 0 0 (zz_lv0 av) [] h) : W p l e (headSpec (zz_ws M) (zz_rm M mc ms)).room s m args below meth c s.heap [] 0 0 (vx_MQ below (zz_Qc g Q) (zz_XC g QX) args s mc ms (zz_A g)) (entryFrame m args (zz_n M)) := by
  obtain ⟨rfl, hW⟩ := hP
  have hts := atoms_spec (ws := zz_ws M) B.pre
  rw [lg_entry_eq]
  exact k p e s m _ below meth c s.heap [] _ ⟨B.exec, B.bytes, B.returns, hml, findClass_of_methodNamed B.named, fun w hw => hts w (List.mem_cons_of_mem _ hw), ⟨h, hW⟩, B.notSynchronized, ht, hf, (name_of_methodNamed B.named B.method).1⟩ hW.2.1 (zz_lv_start hn) (fun q hq => nomatch hq)
/-- a method without handlers -/
theorem z_start {av : List Value} (hf : l.stackTraces = false) (hh : zz_hh M = []) (hp : plainName (zz_y M).cls = true) (hn : (lg_sl av).length ≤ zz_n M) (k : Zz g l M mc ms Q QX 0 0 0 (zz_lv0 av) [] h) : zz_S g l M mc ms av h Q QX := by
  refine vx_ofW hp (zz_cw_code hh) fun p e s m args below meth c s₁ B hml ht hP => ?_
  refine zz_body hf hn B hml ?_ hP k
  rw [hh]
  cases hc : c.exceptionTable.toList with
  | nil => rfl
  | cons x t => exact absurd (by rw [hc]; exact List.mem_cons_self) (fun q => ht x q)
/-- a method with handlers -/
theorem z_startW {av : List Value} (hf : l.stackTraces = false) (hh : zz_cw M = .codeWith (zz_y M) (zz_b M) (zz_n M) (zz_r M) (zz_hh M)) (hp : plainName (zz_y M).cls = true) (hn : (lg_sl av).length ≤ zz_n M) (k : Zz g l M mc ms Q QX 0 0 0 (zz_lv0 av) [] h) : zz_S g l M mc ms av h Q QX := by
  have hw : zz_ws M = Cond.codeWith (zz_y M) (zz_b M) (zz_n M) (zz_r M) (zz_hh M) :: zz_gw := by unfold zz_ws; rw [hh]
  refine vx_ofWH hp hw fun p e s m args below meth c s₁ B hml hP => ?_
  exact zz_body hf hn B hml (vx_table (x := zz_y M) B (atoms_spec (ws := zz_ws M) B.pre _ (by rw [hw]; exact List.mem_cons_self))) hP k
/-- 'throw new E()' at pc -/
def zz_T (M : zz_M) (pc ik ic : Nat) (E : String) (names : List String) : Prop :=
  (decode (zz_b M) pc = .ok (.new ik, 3) ∧ decode (zz_b M) (pc + 3) = .ok (.dup, 1) ∧ decode (zz_b M) (pc + 4) = .ok (.invokespecial ic, 3) ∧ decode (zz_b M) (pc + 7) = .ok (.athrow, 1)) ∧
  Bundle.fit E = true ∧ (∀ n ∈ names, Bundle.fit n = true) ∧ Cond.classLink (zz_y M).cls ik E ∈ zz_gw ∧ Cond.initialized E ∈ zz_gw ∧
  (∀ w ∈ vx_at0 (zz_y M).cls ic E names, w ∈ zz_gw ∨ w ∈ zz_nw) ∧ (∀ w ∈ Cond.classLink (zz_y M).cls ik E :: Cond.initialized E :: vx_at0 (zz_y M).cls ic E names, vx_ot w = true) ∧
  names.length + 3 < zz_d M ∧ 8 + (13 * (names.length + 1) + 42) ≤ 40 * zz_d M
theorem zz_Nw.use {args : Array Value} {s : State} (k : zz_Nw s) {w : Cond} (hw : w ∈ zz_nw) : w.before args s = true := by
  have h0 := k w hw
  have hk := (List.mem_filter.mp hw).2
  simp only [Bool.and_eq_true] at hk
  have hk := hk.2
  cases w <;> first
    | exact va_Nw.use rfl h0
    | (simp [zz_nk] at hk)
theorem z_throw {ik ic : Nat} {E : String} {names : List String} (T : zz_T M pc ik ic E names) (hh : zz_hh M = []) (hW : (st.map fun v => v.category).sum ≤ 8) (hc : ce + 1 ≤ mc) (hs : sl + 6 ≤ ms)
    (hq : ∀ z', z ≤ z' → QX E (K, R, I, L, z')) : Zz g l M mc ms Q QX ce sl pc lv st (K, R, I, L, z) := by
  obtain ⟨⟨d0, d3, d4, d7⟩, t1, t2, t3, t4, t5, t6, t7, t8⟩ := T
  intro p e s m args below meth cd H locs ls C hH hl hL
  obtain ⟨h0, k1, k2, k3⟩ := C.2.2.2.2.2.2.1
  intro T hT X
  have hS : va_S (zz_A g) s.heap H locs := ⟨by rw [← hT]; exact X.same.2.1, fun q _ hq => zz_hp.old k2 hH q hq, hL⟩
  refine vx_throw0 (own := (zz_y M).cls) (cls := E) (names := names) (ik := ik) (ic := ic) (A := zz_A g) (mc := mc) (ms := ms) (free := zz_A g) C.1 C.2.1 C.2.2.2.2.2.2.2.2.2.1 C.own t1 t2 (C.ws _ t3) (C.ws _ t4) (fun w hw => ?_) t6 k3.1 k3.2.1 hS (hl.1.trans C.2.2.2.1.symm) d0 d3 d4 d7 (fun y hy => ?_) t7 (by show _ ≤ 40 * zz_d M; omega) hc hs C.2.2.2.2.2.2.2.1 (fun t _ h1 h2 => ⟨_, zz_hp.grow hH h1 h2, hq _ (by rw [show z = H.size from hH.2.2.2.2]; exact h1)⟩) hL hc hs T hT X
  · rcases t5 w hw with q | q
    · exact C.ws _ q
    · exact C.kn.2.2.2.1.use q
  · rw [C.2.2.2.2.2.2.2.2.1, hh] at hy
    simp [tableOf] at hy
/-- at pc an exception of class E goes to tgt -/
def zz_Hd (M : zz_M) (pc : Nat) (E : String) (tgt : Nat) : Prop := ∃ (pre : List ExceptionTableEntry) (x : ExceptionTableEntry) (suf : List ExceptionTableEntry), tableOf (zz_hh M) = pre ++ x :: suf ∧
  (∀ y ∈ pre, covers y pc = false ∨ (y.catchType ≠ 0 ∧ ∃ nm : String, Cond.classLink (zz_y M).cls y.catchType nm ∈ zz_gw ∧ (E, nm) ∈ zz_nc)) ∧ covers x pc = true ∧ x.catchType ≠ 0 ∧ Cond.classLink (zz_y M).cls x.catchType E ∈ zz_gw ∧ Cond.castable E E ∈ zz_nw ∧ x.handlerPc = tgt
theorem z_callVh {M' : zz_M} {ix n b c mc' ms' : Nat} {As : List Value} {Q' : Option Value → zz_H → Prop} {QX' : String → zz_H → Prop} (d : zz_D M pc (.invokevirtual ix) 3 nx) (w : zz_kV M M' ix n) (hK : h.1 b = zz_o c) (hcn : zz_cn c = (zz_y M').cls) (hn : As.length = n) (hW : (st.map fun v => v.category).sum ≤ 8) (hf : ce + mc' ≤ mc ∧ sl + ms' ≤ ms)
    (S : zz_S g l M' mc' ms' (.ref b :: As) h Q' QX') (hx : ∀ E h', QX' E h' → ∃ tgt, zz_Hd M pc E tgt ∧ ∀ q : Nat, Zz g l M mc ms Q QX (ce + mc') (sl + ms') tgt lv [.ref q] h') (kk : ∀ v h', Q' v h' → Zz g l M mc ms Q QX (ce + mc') (sl + ms') nx lv (v.toList ++ st) h') : Zz g l M mc ms Q QX ce sl pc lv (As.reverse ++ .ref b :: st) h := by
  obtain ⟨d, rfl⟩ := d
  intro p e s m args below meth cd H locs ls C hH hl hL
  refine zz_after (zz_runV C hH hl d w hK hcn hn hW hf S) hL (fun E h' H1 locs1 x q hp hq hL1 h1 h2 h3 => ?_) (fun v h' H1 locs1 hp hq hL1 => kk v h' hq p e s m args below meth cd H1 locs1 ls C hp hl hL1)
  obtain ⟨tgt, ⟨pre, y, suf, e1, e2, e3, e4, e5, e6, rfl⟩, kh⟩ := hx E h' hq
  refine vx_catch C.own pre y suf (by rw [C.2.2.2.2.2.2.2.2.1]; exact e1) (fun y hy => ?_) e3 e4 (C.ws _ e5) (C.kn.2.2.2.1.use e6) h1 h2 h3 (kh q p e s m args below meth cd H1 locs1 ls C hp hl hL1)
  rcases e2 y hy with q | ⟨q1, nm, q2, q3⟩
  · exact Or.inl q
  · exact Or.inr ⟨q1, nm, C.ws _ q2, C.kn.2.2.2.2.2.1 _ q3⟩
/-! statics -/
theorem zz_C.stt {p : Program} {s : State} {m : MethodId} {args : Array Value} {meth : Method} {c : Code} (C : zz_C g l M p s m args meth c) : zz_St g s s.heap := C.2.2.2.2.2.2.1.choose_spec.2.2
theorem zz_sS {p : Program} {e : Env} {Rm : Room} {s : State} {m : MethodId} {args : Array Value} {below : List Frame} {meth : Method} {c : Code} {H : Heap} {locs : List Loc} {T : State} (C : zz_C g l M p s m args meth c) (hH : zz_hp g h H) (hL : ∀ q ∈ locs, zz_A g q.base) (hT : T.heap = H) (X : Stand p l e Rm s m args below meth c T locs ce sl) : va_S (zz_A g) s.heap H locs :=
  ⟨by rw [← hT]; exact X.same.2.1, fun q _ hq => zz_hp.old C.2.2.2.2.2.2.1.choose_spec.2.1 hH q hq, hL⟩
theorem z_gets {ix : Nat} {C0 n dd : String} {v : Value} (d : zz_D M pc (.getstatic ix) 3 nx) (hZ : ∀ s, zz_St g s s.heap → va_Z C0 n dd v (zz_A g) s s.heap) (hw : Cond.fieldLink (zz_y M).cls ix C0 n dd ∈ zz_gw)
    (kk : Zz g l M mc ms Q QX ce sl nx lv (v :: st) h) : Zz g l M mc ms Q QX ce sl pc lv st h := by
  obtain ⟨d, rfl⟩ := d
  intro p e s m args below meth cd H locs ls C hH hl hL T hT X
  exact va_gets C.1 C.2.1 (hZ s C.stt) (zz_sS C hH hL hT X) C.own (C.ws _ hw) (fun _ h => h) d (kk p e s m args below meth cd H locs ls C hH hl hL) T hT X
theorem z_getsq {ix : Nat} {C0 n dd : String} (d : zz_D M pc (.getstatic ix) 3 nx) (hZ : ∀ s, zz_St g s s.heap → va_Zq C0 n dd (zz_A g) s s.heap) (hw : Cond.fieldLink (zz_y M).cls ix C0 n dd ∈ zz_gw)
    (kk : ∀ v : Value, (v = .null ∨ ∃ a, v = .ref a) → Zz g l M mc ms Q QX ce sl nx lv (v :: st) h) : Zz g l M mc ms Q QX ce sl pc lv st h := by
  obtain ⟨d, rfl⟩ := d
  intro p e s m args below meth cd H locs ls C hH hl hL T hT X
  rcases hZ s C.stt with hz | ⟨a, hz⟩
  · exact va_gets C.1 C.2.1 hz (zz_sS C hH hL hT X) C.own (C.ws _ hw) (fun _ h => h) d (kk .null (Or.inl rfl) p e s m args below meth cd H locs ls C hH hl hL) T hT X
  · exact va_gets C.1 C.2.1 hz (zz_sS C hH hL hT X) C.own (C.ws _ hw) (fun _ h => h) d (kk (.ref a) (Or.inr ⟨a, rfl⟩) p e s m args below meth cd H locs ls C hH hl hL) T hT X
/-- a String constant -/
theorem z_ldcS {ix i : Nat} {tx : String} (d : zz_D M pc (.ldc ix) 2 nx) (hw : ((zz_y M).cls, ix, tx, i) ∈ zz_str) (kk : Zz g l M mc ms Q QX ce sl nx lv (.ref (g.2.2.2.2 i) :: st) h) : Zz g l M mc ms Q QX ce sl pc lv st h := by
  obtain ⟨d, rfl⟩ := d
  intro p e s m args below meth cd H locs ls C hH hl hL
  exact va_ldcS C.1 C.2.1 C.own (C.kn.2.2.2.2.1 _ hw) d (kk p e s m args below meth cd H locs ls C hH hl hL)
theorem zz_prim {t : Nat} (ht : t < 3) : refKind (zz_at t) = false := by
  match t, ht with
  | 0, _ => rfl
  | 1, _ => rfl
  | 2, _ => rfl
def zz_cp (I : Nat → Nat → Int32) (a0 a1 sp dp n : Nat) : Nat → Nat → Int32 := fun b => if b = a1 then va_cpy (I a0) (I a1) sp dp n else I b
theorem zz_cp_s {a0 a1 sp dp n : Nat} : zz_cp I a0 a1 sp dp n a1 = va_cpy (I a0) (I a1) sp dp n := by simp [zz_cp]
theorem zz_cp_n {a0 a1 sp dp n b : Nat} (h : b ≠ a1) : zz_cp I a0 a1 sp dp n b = I b := by simp [zz_cp, h]
/-- a whole row of chars or bytes is written -/
theorem zz_hp_wr {s : State} {H : Heap} {t n1 a1 : Nat} {f : Nat → Int32} {I' : Nat → Nat → Int32} (hKn : zz_Kn g s) (ht : t < 3) (hH : zz_hp g (K, R, I, L, z) H) (h1 : K a1 = zz_a t n1) (ha : zz_A g a1) (hf : ∀ j, j < n1 → fits (zz_at t) (.int (f j)) = true) (hI : ∀ b, b ≠ a1 → I' b = I b) (hI1 : I' a1 = f) :
    zz_hp g (K, R, I', L, z) (H.setIfInBounds a1 (arrV (g.2.2.1 t) n1 (fun j => .int (f j)))) := by
  have hlt : a1 < H.size := (hH.2.1 a1 t n1 h1).lt
  refine hH.set ha (by simp) (fun q hq => by simp [Array.getElem?_setIfInBounds, Ne.symm hq]) (fun _ _ => rfl) hI (fun _ _ => rfl) (fun c' hc' => absurd (hc'.symm.trans h1) zz_o_ne) (fun t' n' hc' => ?_)
  obtain ⟨rfl, rfl⟩ := zz_a_inj (hc'.symm.trans h1)
  have e4 : zz_el t' a1 R I' L = fun j => .int (f j) := by
    funext j
    rw [zz_el_I ht, hI1]
  refine ⟨_, by rw [Array.getElem?_setIfInBounds_self_of_lt hlt], State.isArrayOf_alike hKn.1.symm ((hKn.2.2.1 t' (by omega)).1 n' _), (fun q => by cases q), by rw [arrV_size]; exact Nat.le_refl _, by rw [arrV_size], fun i hi => by rw [arrV_read _ _ hi, e4], fun _ => by rw [e4], fun _ j hj => by rw [hI1]; exact hf j hj⟩
/-- System.arraycopy of chars (t = 1) or bytes (t = 2) into an array of our own -/
theorem z_copy {ix t n0 n1 a0 a1 sp dp n : Nat} {x0 x1 x2 : Int32} (d : zz_D M pc (.invokestatic ix) 3 nx) (ht : t < 3) (w1 : Cond.methodLink (zz_y M).cls ix arraycopyName ∈ zz_gw) (w2 : Cond.native arraycopyName ∈ zz_gw) (w3 : Cond.static arraycopyName ∈ zz_gw) (w4 : Cond.initialized "java/lang/System" ∈ zz_gw)
    (h0 : K a0 = zz_a t n0) (h1 : K a1 = zz_a t n1) (ha : zz_A g a1) (e0 : x0 = nI sp) (e1 : x1 = nI dp) (e2 : x2 = nI n) (b0 : sp + n ≤ n0) (b1 : dp + n ≤ n1) (m0 : n0 < 2 ^ 31) (m1 : n1 < 2 ^ 31) (hd : 1 ≤ zz_d M) (hW : (st.map fun v => v.category).sum + (nativeFrameWords "java/lang/System" "arraycopy" 5 + 11) ≤ 40 * zz_d M)
    (kk : Zz g l M mc ms Q QX ce sl nx lv st (K, R, zz_cp I a0 a1 sp dp n, L, z)) : Zz g l M mc ms Q QX ce sl pc lv (.int x2 :: .int x1 :: .ref a1 :: .int x0 :: .ref a0 :: st) (K, R, I, L, z) := by
  obtain ⟨d, rfl⟩ := d
  intro p e s m args below meth cd H locs ls C hH hl hL
  have kK := kk p e s m args below meth cd
  obtain ⟨cs, s1, s2, s3, s4, s5, s6, s7, s8⟩ := hH.2.1 a0 t n0 h0
  obtain ⟨c1, r1, r2, r3, r4, r5, r6, r7, r8⟩ := hH.2.1 a1 t n1 h1
  have r7 := r7 ha
  subst e0; subst e1; subst e2
  intro T hT X
  have hal := C.kn.1
  obtain ⟨i0, k0, hk0, cm0, hkk0⟩ := State.isArrayOf_alike hal s2
  obtain ⟨i1, k1, hk1, cm1, hkk1⟩ := State.isArrayOf_alike hal r2
  have nn : ∀ k : Nat, k < 2 ^ 31 → (nI k).toInt = (k : Int) := fun k hk => nI_toInt hk
  have hsz1 : c1.slots.size = n1 := by rw [r7, arrV_size]
  have hprim : refKind (zz_at t) = false := zz_prim ht
  have q1 : ¬ (nI sp).toInt + (nI n).toInt > (cs.slots.size : Int) := by rw [nn sp (by omega), nn n (by omega)]; omega
  have q2 : ¬ (nI dp).toInt + (nI n).toInt > (c1.slots.size : Int) := by rw [nn dp (by omega), nn n (by omega), hsz1]; omega
  have q3 : ∀ vm', s.vm.Alike vm' → ∀ i, i < (nI n).toNatClampNeg → fits (zz_at t) (cs.slots.getD ((nI sp).toNatClampNeg + i) .null) = true ∧ (T.setVm vm').takes cm1 (cs.slots.getD ((nI sp).toNatClampNeg + i) .null) := by
    intro vm₁ _ i hi
    rw [nI_clamp (by omega)] at hi
    rw [nI_clamp (by omega)]
    have e : cs.slots.getD (sp + i) .null = .int (I a0 (sp + i)) := by
      rw [Array.getD_eq_getD_getElem?, s6 _ (by omega), zz_el_I ht]
      rfl
    rw [e]
    exact ⟨s8 ht _ (by omega), trivial⟩
  have q4 : ((refKind (zz_at t) != refKind (zz_at t)) || (!refKind (zz_at t) && zz_at t != zz_at t)) = false := by simp [hprim]
  have p1 : ¬ nI sp < 0 := nI_pos (by omega)
  have p2 : ¬ nI dp < 0 := nI_pos (by omega)
  have p3 : ¬ nI n < 0 := nI_pos (by omega)
  have hlo : 2 * (F0 m pc ls (.int (nI n) :: .int (nI dp) :: .ref a1 :: .int (nI sp) :: .ref a0 :: st)).monitorRoom + (st.map fun v => v.category).sum + (nativeFrameWords "java/lang/System" "arraycopy" 5 + 11) ≤ (zz_rm M mc ms).locals := by
    show 2 * 0 + _ + _ ≤ 40 * zz_d M
    omega
  have hT0 : T.heap[a0]? = some cs := by rw [hT]; exact s1
  have hT1 : T.heap[a1]? = some c1 := by rw [hT]; exact r1
  have hdd : decode cd.code pc = .ok (.invokestatic ix, 3) := by rw [C.2.1]; exact d
  have hsz : ls.size = cd.maxLocals := by rw [C.2.2.2.1]; exact hl.1
  obtain ⟨vm', X', step⟩ := X.arraycopy C.1 C.own (C.ws _ w1) (C.ws _ w2) (C.ws _ w3) (C.ws _ w4) (src := a0) (dst := a1) (cs := cs) (cd := c1) (srcPos := nI sp) (destPos := nI dp) (n := nI n) (sType := zz_at t) (dType := zz_at t) hT0 hT1
    i0 i1 s3 r3 hk0 hk1 hkk0 hkk1 q4 p1 p2 p3 q1 q2 q3
    (g := F0 m pc ls (.int (nI n) :: .int (nI dp) :: .ref a1 :: .int (nI sp) :: .ref a0 :: st)) rfl hsz (rest := st) rfl hdd hd hlo
  have e1 : copied cs c1 (nI sp) (nI dp) (nI n) = arrV (g.2.2.1 t) n1 (fun j => .int (va_cpy (I a0) (I a1) sp dp n j)) := by
    have e3 : c1 = arrV (g.2.2.1 t) n1 (fun j => .int (I a1 j)) := by
      rw [r7]
      congr 1
      funext j
      exact zz_el_I ht
    have e5 := va_copiedX (fun x => Value.int x) cs (g.2.2.1 t) (n0 := n0) (n1 := n1) (sp := sp) (dp := dp) (n := n) (I a0) (I a1) (fun j hj => by rw [s6 j hj, zz_el_I ht]) b0
    rw [← e5, ← e3]
    show c1.storeRun (nI dp).toNatClampNeg (cs.stretch (nI sp).toNatClampNeg (nI n).toNatClampNeg) = _
    rw [nI_clamp (by omega), nI_clamp (by omega), nI_clamp (by omega)]
  rw [e1] at X' step
  have hheap : ((T.setVm vm').setCell a1 (arrV (g.2.2.1 t) n1 (fun j => .int (va_cpy (I a0) (I a1) sp dp n j)))).heap = H.setIfInBounds a1 (arrV (g.2.2.1 t) n1 (fun j => .int (va_cpy (I a0) (I a1) sp dp n j))) := by rw [← hT]; rfl
  have hfit : ∀ j, j < n1 → fits (zz_at t) (.int (va_cpy (I a0) (I a1) sp dp n j)) = true := by
    intro j hj
    unfold va_cpy
    split
    · exact s8 ht _ (by omega)
    · exact r8 ht _ hj
  have hp2 := zz_hp_wr (I' := zz_cp I a0 a1 sp dp n) C.kn ht hH h1 ha hfit (fun b hb => zz_cp_n hb) zz_cp_s
  obtain ⟨t2, a2, b2⟩ := kK _ _ ls C hp2 hl (fun q hq => by
      rcases List.mem_append.mp hq with h | h
      · exact hL q h
      · obtain ⟨z, -, hz⟩ := List.mem_map.mp h
        rw [← hz]
        exact ha) _ hheap X'
  exact ⟨t2, step t2 a2, b2⟩
end DRules
end
section
/-! METHODS (printed by wip/p54/gen.py out of the Statement) -/
def mm_P_init : zz_M := (⟨"TurnipPages", "<init>", "()V"⟩, prog_1_method_1_code, 1, (none : Option Jvm.ClassFile.FieldType), [], 15)
def mm_T_init : zz_M := (⟨"TurnipPages$Text", "<init>", "(I)V"⟩, prog_9_method_1_code, 2, (none : Option Jvm.ClassFile.FieldType), [], 11)
def mm_JM_max : zz_M := (⟨"java/lang/Math", "max", "(II)I"⟩, prog_27_method_65_code, 2, (some .int), [], 10)
def mm_V_init : zz_M := (⟨"TurnipPages$Carver", "<init>", "()V"⟩, prog_2_method_1_code, 1, (none : Option Jvm.ClassFile.FieldType), [], 14)
def mm_S_init : zz_M := (⟨"TurnipPages$Store", "<init>", "()V"⟩, prog_7_method_1_code, 2, (none : Option Jvm.ClassFile.FieldType), [], 13)
def mm_G_init : zz_M := (⟨"TurnipPages$Telegram", "<init>", "()V"⟩, prog_8_method_1_code, 1, (none : Option Jvm.ClassFile.FieldType), [], 12)
def mm_H_init : zz_M := (⟨"TurnipPages$History", "<init>", "()V"⟩, prog_6_method_1_code, 2, (none : Option Jvm.ClassFile.FieldType), [], 14)
def mm_C_init : zz_M := (⟨"TurnipPages$Commands", "<init>", "()V"⟩, prog_4_method_1_code, 1, (none : Option Jvm.ClassFile.FieldType), [], 10)
def mm_D_init : zz_M := (⟨"TurnipPages$Denial", "<init>", "()V"⟩, prog_5_method_1_code, 1, (none : Option Jvm.ClassFile.FieldType), [], 10)
def mm_P_clearMessage : zz_M := (⟨"TurnipPages", "clearMessage", "()I"⟩, prog_1_method_3_code, 2, (some .int), [], 11)
def mm_T_clear : zz_M := (⟨"TurnipPages$Text", "clear", "()V"⟩, prog_9_method_2_code, 1, (none : Option Jvm.ClassFile.FieldType), [], 10)
def mm_P_encodedLength : zz_M := (⟨"TurnipPages", "encodedLength", "()I"⟩, prog_1_method_4_code, 1, (some .int), [], 14)
def mm_O_fold : zz_M := (⟨"TurnipPages$Code", "fold", "(LTurnipPages$Text;LTurnipPages$Text;)V"⟩, prog_3_method_2_code, 4, (none : Option Jvm.ClassFile.FieldType), [], 13)
def mm_O_endsRun : zz_M := (⟨"TurnipPages$Code", "endsRun", "(LTurnipPages$Text;II)Z"⟩, prog_3_method_4_code, 3, (some .boolean), [], 12)
def mm_T_at : zz_M := (⟨"TurnipPages$Text", "at", "(I)C"⟩, prog_9_method_5_code, 2, (some .char), [], 11)
def mm_T_has : zz_M := (⟨"TurnipPages$Text", "has", "(I)Z"⟩, prog_9_method_4_code, 2, (some .boolean), [], 10)
def mm_O_writeRun : zz_M := (⟨"TurnipPages$Code", "writeRun", "(CILTurnipPages$Text;)V"⟩, prog_3_method_5_code, 7, (none : Option Jvm.ClassFile.FieldType), [], 12)
def mm_O_needsEscape : zz_M := (⟨"TurnipPages$Code", "needsEscape", "(C)Z"⟩, prog_3_method_6_code, 1, (some .boolean), [], 11)
def mm_P_isDigit : zz_M := (⟨"TurnipPages", "isDigit", "(C)Z"⟩, prog_1_method_62_code, 1, (some .boolean), [], 10)
def mm_T_add : zz_M := (⟨"TurnipPages$Text", "add", "(C)V"⟩, prog_9_method_7_code, 2, (none : Option Jvm.ClassFile.FieldType), [], 11)
def mm_T_isFull : zz_M := (⟨"TurnipPages$Text", "isFull", "()Z"⟩, prog_9_method_3_code, 1, (some .boolean), [], 10)
def mm_P_rootCount : zz_M := (⟨"TurnipPages", "rootCount", "()I"⟩, prog_1_method_11_code, 1, (some .int), [], 10)
def mm_P_telegramCount : zz_M := (⟨"TurnipPages", "telegramCount", "()I"⟩, prog_1_method_21_code, 1, (some .int), [], 10)
def mm_P_rottenPages : zz_M := (⟨"TurnipPages", "rottenPages", "()I"⟩, prog_1_method_36_code, 1, (some .int), [], 12)
def mm_S_countRottenPages : zz_M := (⟨"TurnipPages$Store", "countRottenPages", "()I"⟩, prog_7_method_17_code, 3, (some .int), [], 11)
def mm_G_countRottenPages : zz_M := (⟨"TurnipPages$Telegram", "countRottenPages", "()I"⟩, prog_8_method_8_code, 3, (some .int), [], 10)
def mm_P_day : zz_M := (⟨"TurnipPages", "day", "()I"⟩, prog_1_method_37_code, 1, (some .int), [], 10)
def mm_P_carvedCharacters : zz_M := (⟨"TurnipPages", "carvedCharacters", "()I"⟩, prog_1_method_38_code, 1, (some .int), [], 10)
def mm_P_undoCount : zz_M := (⟨"TurnipPages", "undoCount", "()I"⟩, prog_1_method_50_code, 1, (some .int), [], 10)
def mm_P_saveSnapshot : zz_M := (⟨"TurnipPages", "saveSnapshot", "()I"⟩, prog_1_method_51_code, 1, (some .int), [], 14)
def mm_S_copyFrom : zz_M := (⟨"TurnipPages$Store", "copyFrom", "(LTurnipPages$Store;)V"⟩, prog_7_method_2_code, 4, (none : Option Jvm.ClassFile.FieldType), [], 13)
def mm_S_dampnessAt : zz_M := (⟨"TurnipPages$Store", "dampnessAt", "(I)I"⟩, prog_7_method_4_code, 2, (some .int), [], 11)
def mm_S_hasRoot : zz_M := (⟨"TurnipPages$Store", "hasRoot", "(I)Z"⟩, prog_7_method_3_code, 2, (some .boolean), [], 10)
def mm_S_telegramIn : zz_M := (⟨"TurnipPages$Store", "telegramIn", "(I)LTurnipPages$Telegram;"⟩, prog_7_method_7_code, 3, (some (.object "TurnipPages$Telegram")), [], 10)
def mm_G_copyFrom : zz_M := (⟨"TurnipPages$Telegram", "copyFrom", "(LTurnipPages$Telegram;)V"⟩, prog_8_method_3_code, 3, (none : Option Jvm.ClassFile.FieldType), [], 12)
def mm_T_copyFrom : zz_M := (⟨"TurnipPages$Text", "copyFrom", "(LTurnipPages$Text;)V"⟩, prog_9_method_9_code, 2, (none : Option Jvm.ClassFile.FieldType), [], 11)
def mm_JM_min : zz_M := (⟨"java/lang/Math", "min", "(II)I"⟩, prog_27_method_69_code, 2, (some .int), [], 10)
def mm_L_at : zz_M := (⟨"TurnipPagesLaw", "at", "([II)I"⟩, method_2_code, 2, (some .int), [], 10)
def mm_L_type : zz_M := (⟨"TurnipPagesLaw", "type", "(LTurnipPages;C)I"⟩, method_4_code, 3, (some .int), [((0), (5), (6), (13)), ((0), (5), (11), (15))], 13)
def mm_P_type : zz_M := (⟨"TurnipPages", "type", "(C)I"⟩, prog_1_method_2_code, 2, (some .int), [], 12)
def mm_P_isTypeable : zz_M := (⟨"TurnipPages", "isTypeable", "(C)Z"⟩, prog_1_method_61_code, 1, (some .boolean), [], 10)
def mm_L_addRoot : zz_M := (⟨"TurnipPagesLaw", "addRoot", "(LTurnipPages;I)I"⟩, method_6_code, 3, (some .int), [((0), (5), (6), (13)), ((0), (5), (11), (25))], 16)
def mm_P_addRoot : zz_M := (⟨"TurnipPages", "addRoot", "(I)I"⟩, prog_1_method_9_code, 2, (some .int), [], 15)
def mm_H_prepare : zz_M := (⟨"TurnipPages$History", "prepare", "(LTurnipPages$Store;)V"⟩, prog_6_method_3_code, 2, (none : Option Jvm.ClassFile.FieldType), [], 14)
def mm_H_spare : zz_M := (⟨"TurnipPages$History", "spare", "()LTurnipPages$Store;"⟩, prog_6_method_2_code, 1, (some (.object "TurnipPages$Store")), [], 11)
def mm_JM_floorMod : zz_M := (⟨"java/lang/Math", "floorMod", "(II)I"⟩, prog_27_method_50_code, 3, (some .int), [], 10)
def mm_V_plantRoot : zz_M := (⟨"TurnipPages$Carver", "plantRoot", "(I)I"⟩, prog_2_method_4_code, 3, (some .int), [], 12)
def mm_V_denied : zz_M := (⟨"TurnipPages$Carver", "denied", "(II)I"⟩, prog_2_method_2_code, 3, (some .int), [], 10)
def mm_S_putDampness : zz_M := (⟨"TurnipPages$Store", "putDampness", "(II)V"⟩, prog_7_method_5_code, 3, (none : Option Jvm.ClassFile.FieldType), [], 11)
def mm_P_settle : zz_M := (⟨"TurnipPages", "settle", "(I)I"⟩, prog_1_method_53_code, 2, (some .int), [], 12)
def mm_P_refuse : zz_M := (⟨"TurnipPages", "refuse", "(I)V"⟩, prog_1_method_54_code, 2, (none : Option Jvm.ClassFile.FieldType), [], 11)
def mm_D_note : zz_M := (⟨"TurnipPages$Denial", "note", "(III)V"⟩, prog_5_method_2_code, 4, (none : Option Jvm.ClassFile.FieldType), [], 10)
def mm_H_keep : zz_M := (⟨"TurnipPages$History", "keep", "()V"⟩, prog_6_method_4_code, 1, (none : Option Jvm.ClassFile.FieldType), [], 11)
def mm_L_pagesIn : zz_M := (⟨"TurnipPagesLaw", "pagesIn", "(LTurnipPages;I)I"⟩, method_9_code, 3, (some .int), [((0), (5), (6), (30))], 13)
def mm_P_pagesIn : zz_M := (⟨"TurnipPages", "pagesIn", "(I)I"⟩, prog_1_method_13_code, 2, (some .int), [], 12)
def mm_P_requireRoot : zz_M := (⟨"TurnipPages", "requireRoot", "(I)V"⟩, prog_1_method_55_code, 2, (none : Option Jvm.ClassFile.FieldType), [], 11)
def mm_S_countPagesIn : zz_M := (⟨"TurnipPages$Store", "countPagesIn", "(I)I"⟩, prog_7_method_15_code, 4, (some .int), [], 10)
def mm_L_carve : zz_M := (⟨"TurnipPagesLaw", "carve", "(LTurnipPages;II)I"⟩, method_11_code, 4, (some .int), [((0), (6), (7), (30)), ((0), (6), (12), (13)), ((0), (6), (17), (25))], 16)
def mm_P_carve : zz_M := (⟨"TurnipPages", "carve", "(II)I"⟩, prog_1_method_15_code, 4, (some .int), [], 15)
def mm_V_carveText : zz_M := (⟨"TurnipPages$Carver", "carveText", "(IILTurnipPages$Text;)I"⟩, prog_2_method_6_code, 6, (some .int), [], 14)
def mm_G_pagesFor : zz_M := (⟨"TurnipPages$Telegram", "pagesFor", "(I)I"⟩, prog_8_method_2_code, 1, (some .int), [], 10)
def mm_S_hasRoomFor : zz_M := (⟨"TurnipPages$Store", "hasRoomFor", "(II)Z"⟩, prog_7_method_10_code, 3, (some .boolean), [], 11)
def mm_S_addTelegram : zz_M := (⟨"TurnipPages$Store", "addTelegram", "()LTurnipPages$Telegram;"⟩, prog_7_method_11_code, 2, (some (.object "TurnipPages$Telegram")), [], 10)
def mm_O_sumOf : zz_M := (⟨"TurnipPages$Code", "sumOf", "(LTurnipPages$Text;)I"⟩, prog_3_method_10_code, 3, (some .int), [], 12)
def mm_G_inscribe : zz_M := (⟨"TurnipPages$Telegram", "inscribe", "(LTurnipPages$Text;)V"⟩, prog_8_method_4_code, 3, (none : Option Jvm.ClassFile.FieldType), [], 12)
def mm_L_drop : zz_M := (⟨"TurnipPagesLaw", "drop", "(LTurnipPages;I)I"⟩, method_15_code, 3, (some .int), [((0), (5), (6), (41))], 16)
def mm_P_drop : zz_M := (⟨"TurnipPages", "drop", "(I)I"⟩, prog_1_method_19_code, 2, (some .int), [], 15)
def mm_V_dropTelegram : zz_M := (⟨"TurnipPages$Carver", "dropTelegram", "(I)I"⟩, prog_2_method_10_code, 2, (some .int), [], 12)
def mm_S_removeTelegram : zz_M := (⟨"TurnipPages$Store", "removeTelegram", "(I)Z"⟩, prog_7_method_12_code, 5, (some .boolean), [], 11)
def mm_S_positionOf : zz_M := (⟨"TurnipPages$Store", "positionOf", "(I)I"⟩, prog_7_method_8_code, 3, (some .int), [], 10)
def mm_L_age : zz_M := (⟨"TurnipPagesLaw", "age", "(LTurnipPages;I)I"⟩, method_27_code, 3, (some .int), [((0), (5), (6), (13))], 16)
def mm_P_age : zz_M := (⟨"TurnipPages", "age", "(I)I"⟩, prog_1_method_32_code, 2, (some .int), [], 15)
def mm_V_passDays : zz_M := (⟨"TurnipPages$Carver", "passDays", "(I)I"⟩, prog_2_method_11_code, 2, (some .int), [], 13)
def mm_S_rotBy : zz_M := (⟨"TurnipPages$Store", "rotBy", "(I)I"⟩, prog_7_method_19_code, 4, (some .int), [], 12)
def mm_G_rotBy : zz_M := (⟨"TurnipPages$Telegram", "rotBy", "(I)I"⟩, prog_8_method_7_code, 4, (some .int), [], 11)
def mm_L_rotOf : zz_M := (⟨"TurnipPagesLaw", "rotOf", "(LTurnipPages;II)I"⟩, method_29_code, 4, (some .int), [((0), (6), (7), (41)), ((0), (6), (12), (30))], 14)
def mm_P_rotOf : zz_M := (⟨"TurnipPages", "rotOf", "(II)I"⟩, prog_1_method_34_code, 4, (some .int), [], 13)
def mm_P_requireTelegram : zz_M := (⟨"TurnipPages", "requireTelegram", "(I)LTurnipPages$Telegram;"⟩, prog_1_method_57_code, 3, (some (.object "TurnipPages$Telegram")), [], 12)
def mm_S_find : zz_M := (⟨"TurnipPages$Store", "find", "(I)LTurnipPages$Telegram;"⟩, prog_7_method_9_code, 2, (some (.object "TurnipPages$Telegram")), [], 11)
def mm_G_hasPage : zz_M := (⟨"TurnipPages$Telegram", "hasPage", "(I)Z"⟩, prog_8_method_5_code, 2, (some .boolean), [], 10)
def mm_G_rotAt : zz_M := (⟨"TurnipPages$Telegram", "rotAt", "(I)I"⟩, prog_8_method_6_code, 2, (some .int), [], 11)
def mm_L_feed : zz_M := (⟨"TurnipPagesLaw", "feed", "(LTurnipPages;C)I"⟩, method_33_code, 3, (some .int), [((0), (5), (6), (15))], 13)
def mm_P_feed : zz_M := (⟨"TurnipPages", "feed", "(C)I"⟩, prog_1_method_41_code, 2, (some .int), [], 12)
def mm_L_execute : zz_M := (⟨"TurnipPagesLaw", "execute", "(LTurnipPages;)I"⟩, method_34_code, 2, (some .int), [((0), (4), (5), (13)), ((0), (4), (10), (25))], 19)
def mm_P_execute : zz_M := (⟨"TurnipPages", "execute", "()I"⟩, prog_1_method_42_code, 4, (some .int), [], 18)
def mm_C_parse : zz_M := (⟨"TurnipPages$Commands", "parse", "(LTurnipPages$Text;)I"⟩, prog_4_method_2_code, 3, (some .int), [], 17)
def mm_C_parseCommand : zz_M := (⟨"TurnipPages$Commands", "parseCommand", "(LTurnipPages$Text;)Z"⟩, prog_4_method_3_code, 5, (some .boolean), [], 16)
def mm_C_parseWord : zz_M := (⟨"TurnipPages$Commands", "parseWord", "(LTurnipPages$Text;)I"⟩, prog_4_method_5_code, 6, (some .int), [], 15)
def mm_C_wordOf : zz_M := (⟨"TurnipPages$Commands", "wordOf", "(I)Ljava/lang/String;"⟩, prog_4_method_7_code, 1, (some (.object "java/lang/String")), [], 10)
def mm_C_countMatching : zz_M := (⟨"TurnipPages$Commands", "countMatching", "(LTurnipPages$Text;Ljava/lang/String;)I"⟩, prog_4_method_6_code, 4, (some .int), [], 14)
def mm_JS_length : zz_M := (⟨"java/lang/String", "length", "()I"⟩, prog_30_method_54_code, 1, (some .int), [], 11)
def mm_JS_coder : zz_M := (⟨"java/lang/String", "coder", "()B"⟩, prog_30_method_152_code, 1, (some .byte), [], 10)
def mm_JS_charAt : zz_M := (⟨"java/lang/String", "charAt", "(I)C"⟩, prog_30_method_56_code, 2, (some .char), [], 13)
def mm_JS_isLatin1 : zz_M := (⟨"java/lang/String", "isLatin1", "()Z"⟩, prog_30_method_154_code, 1, (some .boolean), [], 10)
def mm_JL_charAt : zz_M := (⟨"java/lang/StringLatin1", "charAt", "([BI)C"⟩, prog_32_method_2_code, 2, (some .char), [], 12)
def mm_JS_checkIndex : zz_M := (⟨"java/lang/String", "checkIndex", "(II)V"⟩, prog_30_method_155_code, 2, (none : Option Jvm.ClassFile.FieldType), [], 11)
def mm_JP_checkIndex : zz_M := (⟨"jdk/internal/util/Preconditions", "checkIndex", "(IILjava/util/function/BiFunction;)I"⟩, prog_42_method_11_code, 3, (some .int), [], 10)
def mm_C_parseDigits : zz_M := (⟨"TurnipPages$Commands", "parseDigits", "(LTurnipPages$Text;I)I"⟩, prog_4_method_9_code, 5, (some .int), [], 12)
def mm_C_parseSign : zz_M := (⟨"TurnipPages$Commands", "parseSign", "(LTurnipPages$Text;C)Z"⟩, prog_4_method_8_code, 3, (some .boolean), [], 12)
def mm_C_keepCommand : zz_M := (⟨"TurnipPages$Commands", "keepCommand", "(III)V"⟩, prog_4_method_4_code, 4, (none : Option Jvm.ClassFile.FieldType), [], 11)
def mm_C_has : zz_M := (⟨"TurnipPages$Commands", "has", "(I)Z"⟩, prog_4_method_10_code, 2, (some .boolean), [], 10)
def mm_C_kindOf : zz_M := (⟨"TurnipPages$Commands", "kindOf", "(I)I"⟩, prog_4_method_11_code, 2, (some .int), [], 11)
def mm_C_firstOf : zz_M := (⟨"TurnipPages$Commands", "firstOf", "(I)I"⟩, prog_4_method_12_code, 2, (some .int), [], 11)
def mm_C_secondOf : zz_M := (⟨"TurnipPages$Commands", "secondOf", "(I)I"⟩, prog_4_method_13_code, 2, (some .int), [], 11)
def mm_V_carryOut : zz_M := (⟨"TurnipPages$Carver", "carryOut", "(III)I"⟩, prog_2_method_3_code, 4, (some .int), [], 15)
def mm_V_dryRoot : zz_M := (⟨"TurnipPages$Carver", "dryRoot", "(I)I"⟩, prog_2_method_5_code, 3, (some .int), [], 12)
def mm_V_carveAnew : zz_M := (⟨"TurnipPages$Carver", "carveAnew", "(I)I"⟩, prog_2_method_8_code, 5, (some .int), [], 14)
def mm_V_unfoldIfReadable : zz_M := (⟨"TurnipPages$Carver", "unfoldIfReadable", "(LTurnipPages$Telegram;)I"⟩, prog_2_method_13_code, 5, (some .int), [], 13)
def mm_G_findRottenPage : zz_M := (⟨"TurnipPages$Telegram", "findRottenPage", "()I"⟩, prog_8_method_9_code, 2, (some .int), [], 10)
def mm_O_faultIn : zz_M := (⟨"TurnipPages$Code", "faultIn", "(LTurnipPages$Text;)I"⟩, prog_3_method_7_code, 5, (some .int), [], 12)
def mm_O_unfold : zz_M := (⟨"TurnipPages$Code", "unfold", "(LTurnipPages$Text;LTurnipPages$Text;)V"⟩, prog_3_method_8_code, 7, (none : Option Jvm.ClassFile.FieldType), [], 12)
def mm_V_moveTelegram : zz_M := (⟨"TurnipPages$Carver", "moveTelegram", "(II)I"⟩, prog_2_method_9_code, 5, (some .int), [], 12)
def mm_P_causeOf : zz_M := (⟨"TurnipPages", "causeOf", "(I)I"⟩, prog_1_method_60_code, 2, (some .int), [], 10)
def mm_L_faultPosition : zz_M := (⟨"TurnipPagesLaw", "faultPosition", "(LTurnipPages;)I"⟩, method_35_code, 2, (some .int), [((0), (4), (5), (41))], 11)
def mm_P_faultPosition : zz_M := (⟨"TurnipPages", "faultPosition", "()I"⟩, prog_1_method_43_code, 1, (some .int), [], 10)
def mm_L_undo : zz_M := (⟨"TurnipPagesLaw", "undo", "(LTurnipPages;)I"⟩, method_41_code, 2, (some .int), [((0), (4), (5), (15))], 16)
def mm_P_undo : zz_M := (⟨"TurnipPages", "undo", "()I"⟩, prog_1_method_49_code, 1, (some .int), [], 15)
def mm_H_takeBack : zz_M := (⟨"TurnipPages$History", "takeBack", "(LTurnipPages$Store;)V"⟩, prog_6_method_5_code, 2, (none : Option Jvm.ClassFile.FieldType), [], 14)
def mm_L_restore : zz_M := (⟨"TurnipPagesLaw", "restore", "(LTurnipPages;)I"⟩, method_42_code, 2, (some .int), [((0), (4), (5), (15))], 15)
def mm_P_restoreSnapshot : zz_M := (⟨"TurnipPages", "restoreSnapshot", "()I"⟩, prog_1_method_52_code, 1, (some .int), [], 14)
def mm_H_forget : zz_M := (⟨"TurnipPages$History", "forget", "()V"⟩, prog_6_method_6_code, 1, (none : Option Jvm.ClassFile.FieldType), [], 10)
def mm_L_types : zz_M := (⟨"TurnipPagesLaw", "types", "(LTurnipPages;Ljava/lang/String;)Z"⟩, method_44_code, 3, (some .boolean), [], 14)
def mm_L_is : zz_M := (⟨"TurnipPagesLaw", "is", "(LTurnipPages;II)Z"⟩, method_45_code, 3, (some .boolean), [], 13)
def mm_L_denial : zz_M := (⟨"TurnipPagesLaw", "denial", "(LTurnipPages;)I"⟩, method_38_code, 2, (some .int), [((0), (4), (5), (41))], 12)
def mm_P_denial : zz_M := (⟨"TurnipPages", "denial", "()I"⟩, prog_1_method_46_code, 1, (some .int), [], 11)
def mm_P_requireDenial : zz_M := (⟨"TurnipPages", "requireDenial", "()V"⟩, prog_1_method_56_code, 1, (none : Option Jvm.ClassFile.FieldType), [], 10)
def mm_L_denialDetail : zz_M := (⟨"TurnipPagesLaw", "denialDetail", "(LTurnipPages;)I"⟩, method_39_code, 2, (some .int), [((0), (4), (5), (41))], 12)
def mm_P_denialDetail : zz_M := (⟨"TurnipPages", "denialDetail", "()I"⟩, prog_1_method_47_code, 1, (some .int), [], 11)
def mm_L_denialCause : zz_M := (⟨"TurnipPagesLaw", "denialCause", "(LTurnipPages;)I"⟩, method_40_code, 2, (some .int), [((0), (4), (5), (41))], 11)
def mm_P_denialCause : zz_M := (⟨"TurnipPages", "denialCause", "()I"⟩, prog_1_method_48_code, 1, (some .int), [], 10)
def mm_L_makes : zz_M := (⟨"TurnipPagesLaw", "makes", "(LTurnipPages;[I)Z"⟩, method_48_code, 6, (some .boolean), [], 23)
def mm_L_some : zz_M := (⟨"TurnipPagesLaw", "some", "(II)I"⟩, method_3_code, 3, (some .int), [], 10)
def mm_L_text : zz_M := (⟨"TurnipPagesLaw", "text", "([II)Ljava/lang/String;"⟩, method_47_code, 7, (some (.object "java/lang/String")), [], 22)
def mm_JB_init : zz_M := (⟨"java/lang/StringBuilder", "<init>", "()V"⟩, prog_31_method_1_code, 1, (none : Option Jvm.ClassFile.FieldType), [], 11)
def mm_JA_init : zz_M := (⟨"java/lang/AbstractStringBuilder", "<init>", "(I)V"⟩, prog_13_method_2_code, 2, (none : Option Jvm.ClassFile.FieldType), [], 10)
def mm_JB_append_Str : zz_M := (⟨"java/lang/StringBuilder", "append", "(Ljava/lang/String;)Ljava/lang/StringBuilder;"⟩, prog_31_method_7_code, 2, (some (.object "java/lang/StringBuilder")), [], 15)
def mm_JA_append_Str : zz_M := (⟨"java/lang/AbstractStringBuilder", "append", "(Ljava/lang/String;)Ljava/lang/AbstractStringBuilder;"⟩, prog_13_method_22_code, 3, (some (.object "java/lang/AbstractStringBuilder")), [], 14)
def mm_JA_ensureCapacityInternal : zz_M := (⟨"java/lang/AbstractStringBuilder", "ensureCapacityInternal", "(I)V"⟩, prog_13_method_9_code, 3, (none : Option Jvm.ClassFile.FieldType), [], 13)
def mm_JA_newCapacity : zz_M := (⟨"java/lang/AbstractStringBuilder", "newCapacity", "(I)I"⟩, prog_13_method_10_code, 6, (some .int), [], 12)
def mm_JU_newLength : zz_M := (⟨"jdk/internal/util/ArraysSupport", "newLength", "(III)I"⟩, prog_41_method_27_code, 4, (some .int), [], 11)
def mm_JR_copyOf : zz_M := (⟨"java/util/Arrays", "copyOf", "([BI)[B"⟩, prog_39_method_121_code, 3, (some (.array .byte)), [], 11)
def mm_JA_isLatin1 : zz_M := (⟨"java/lang/AbstractStringBuilder", "isLatin1", "()Z"⟩, prog_13_method_68_code, 1, (some .boolean), [], 10)
def mm_JS_checkBoundsBeginEnd : zz_M := (⟨"java/lang/String", "checkBoundsBeginEnd", "(III)V"⟩, prog_30_method_158_code, 3, (none : Option Jvm.ClassFile.FieldType), [], 11)
def mm_JP_checkFromToIndex : zz_M := (⟨"jdk/internal/util/Preconditions", "checkFromToIndex", "(IIILjava/util/function/BiFunction;)I"⟩, prog_42_method_12_code, 4, (some .int), [], 10)
def mm_JA_putStringAt : zz_M := (⟨"java/lang/AbstractStringBuilder", "putStringAt", "(ILjava/lang/String;)V"⟩, prog_13_method_73_code, 3, (none : Option Jvm.ClassFile.FieldType), [], 12)
def mm_JA_inflateIfNeededFor : zz_M := (⟨"java/lang/AbstractStringBuilder", "inflateIfNeededFor", "(Ljava/lang/String;)V"⟩, prog_13_method_71_code, 2, (none : Option Jvm.ClassFile.FieldType), [], 11)
def mm_JS_getBytes : zz_M := (⟨"java/lang/String", "getBytes", "([BIB)V"⟩, prog_30_method_147_code, 4, (none : Option Jvm.ClassFile.FieldType), [], 11)
def mm_JB_append_C : zz_M := (⟨"java/lang/StringBuilder", "append", "(C)Ljava/lang/StringBuilder;"⟩, prog_31_method_14_code, 2, (some (.object "java/lang/StringBuilder")), [], 15)
def mm_JA_append_C : zz_M := (⟨"java/lang/AbstractStringBuilder", "append", "(C)Ljava/lang/AbstractStringBuilder;"⟩, prog_13_method_31_code, 2, (some (.object "java/lang/AbstractStringBuilder")), [], 14)
def mm_JL_canEncode : zz_M := (⟨"java/lang/StringLatin1", "canEncode", "(C)Z"⟩, prog_32_method_3_code, 1, (some .boolean), [], 10)
def mm_JB_toString : zz_M := (⟨"java/lang/StringBuilder", "toString", "()Ljava/lang/String;"⟩, prog_31_method_42_code, 1, (some (.object "java/lang/String")), [], 21)
def mm_JS_init_Str : zz_M := (⟨"java/lang/String", "<init>", "(Ljava/lang/StringBuilder;)V"⟩, prog_30_method_53_code, 2, (none : Option Jvm.ClassFile.FieldType), [], 20)
def mm_JS_init_AbsVoi : zz_M := (⟨"java/lang/String", "<init>", "(Ljava/lang/AbstractStringBuilder;Ljava/lang/Void;)V"⟩, prog_30_method_150_code, 5, (none : Option Jvm.ClassFile.FieldType), [], 19)
def mm_JA_getValue : zz_M := (⟨"java/lang/AbstractStringBuilder", "getValue", "()[B"⟩, prog_13_method_64_code, 1, (some (.array .byte)), [], 10)
def mm_JA_length : zz_M := (⟨"java/lang/AbstractStringBuilder", "length", "()I"⟩, prog_13_method_6_code, 1, (some .int), [], 10)
def mm_JR_copyOfRange : zz_M := (⟨"java/util/Arrays", "copyOfRange", "([BII)[B"⟩, prog_39_method_132_code, 3, (some (.array .byte)), [], 18)
def mm_JR_copyOfRangeByte : zz_M := (⟨"java/util/Arrays", "copyOfRangeByte", "([BII)[B"⟩, prog_39_method_133_code, 5, (some (.array .byte)), [], 17)
def mm_JR_checkLength : zz_M := (⟨"java/util/Arrays", "checkLength", "(II)V"⟩, prog_39_method_131_code, 2, (none : Option Jvm.ClassFile.FieldType), [], 16)
def mm_JB_append_I : zz_M := (⟨"java/lang/StringBuilder", "append", "(I)Ljava/lang/StringBuilder;"⟩, prog_31_method_15_code, 2, (some (.object "java/lang/StringBuilder")), [], 15)
def mm_JA_append_I : zz_M := (⟨"java/lang/AbstractStringBuilder", "append", "(I)Ljava/lang/AbstractStringBuilder;"⟩, prog_13_method_32_code, 4, (some (.object "java/lang/AbstractStringBuilder")), [], 14)
def mm_JI_stringSize : zz_M := (⟨"java/lang/Integer", "stringSize", "(I)I"⟩, prog_26_method_13_code, 4, (some .int), [], 10)
def mm_JI_getChars : zz_M := (⟨"java/lang/Integer", "getChars", "(II[B)I"⟩, prog_26_method_12_code, 7, (some .int), [], 10)
def mm_L_asks : zz_M := (⟨"TurnipPagesLaw", "asks", "(LTurnipPages;)J"⟩, method_49_code, 8, (some .long), [], 17)
def mm_L_meanLength : zz_M := (⟨"TurnipPagesLaw", "meanLength", "(LTurnipPages;)D"⟩, method_31_code, 2, (some .double), [((0), (4), (5), (111))], 12)
def mm_P_meanCodeLength : zz_M := (⟨"TurnipPages", "meanCodeLength", "()D"⟩, prog_1_method_39_code, 1, (some .double), [], 11)
def mm_S_sumCodeLengths : zz_M := (⟨"TurnipPages$Store", "sumCodeLengths", "()I"⟩, prog_7_method_18_code, 3, (some .int), [], 10)
def mm_JD_doubleToLongBits : zz_M := (⟨"java/lang/Double", "doubleToLongBits", "(D)J"⟩, prog_20_method_23_code, 2, (some .long), [], 11)
def mm_JD_isNaN : zz_M := (⟨"java/lang/Double", "isNaN", "(D)Z"⟩, prog_20_method_6_code, 2, (some .boolean), [], 10)
def mm_L_rottenShare : zz_M := (⟨"TurnipPagesLaw", "rottenShare", "(LTurnipPages;)F"⟩, method_32_code, 2, (some .float), [((0), (4), (5), (111))], 13)
def mm_P_rottenShare : zz_M := (⟨"TurnipPages", "rottenShare", "()F"⟩, prog_1_method_40_code, 2, (some .float), [], 12)
def mm_S_countPages : zz_M := (⟨"TurnipPages$Store", "countPages", "()I"⟩, prog_7_method_16_code, 3, (some .int), [], 10)
def mm_JF_floatToIntBits : zz_M := (⟨"java/lang/Float", "floatToIntBits", "(F)I"⟩, prog_22_method_24_code, 1, (some .int), [], 11)
def mm_JF_isNaN : zz_M := (⟨"java/lang/Float", "isNaN", "(F)Z"⟩, prog_22_method_6_code, 1, (some .boolean), [], 10)
def mm_L_dampness : zz_M := (⟨"TurnipPagesLaw", "dampness", "(LTurnipPages;I)I"⟩, method_8_code, 3, (some .int), [((0), (5), (6), (30))], 13)
def mm_P_dampness : zz_M := (⟨"TurnipPages", "dampness", "(I)I"⟩, prog_1_method_12_code, 2, (some .int), [], 12)
def mm_L_telegramAt : zz_M := (⟨"TurnipPagesLaw", "telegramAt", "(LTurnipPages;I)I"⟩, method_17_code, 3, (some .int), [((0), (5), (6), (30))], 12)
def mm_P_telegramAt : zz_M := (⟨"TurnipPages", "telegramAt", "(I)I"⟩, prog_1_method_22_code, 3, (some .int), [], 11)
def mm_L_byPriority : zz_M := (⟨"TurnipPagesLaw", "byPriority", "(LTurnipPages;I)I"⟩, method_18_code, 3, (some .int), [((0), (5), (6), (41))], 13)
def mm_P_telegramByPriority : zz_M := (⟨"TurnipPages", "telegramByPriority", "(I)I"⟩, prog_1_method_23_code, 2, (some .int), [], 12)
def mm_S_findByPriority : zz_M := (⟨"TurnipPages$Store", "findByPriority", "(I)I"⟩, prog_7_method_13_code, 5, (some .int), [], 11)
def mm_G_isAheadByPriority : zz_M := (⟨"TurnipPages$Telegram", "isAheadByPriority", "(LTurnipPages$Telegram;)Z"⟩, prog_8_method_11_code, 2, (some .boolean), [], 10)
def mm_P_requireNumber : zz_M := (⟨"TurnipPages", "requireNumber", "(I)I"⟩, prog_1_method_59_code, 1, (some .int), [], 10)
def mm_L_byRot : zz_M := (⟨"TurnipPagesLaw", "byRot", "(LTurnipPages;I)I"⟩, method_19_code, 3, (some .int), [((0), (5), (6), (41))], 15)
def mm_P_telegramByRot : zz_M := (⟨"TurnipPages", "telegramByRot", "(I)I"⟩, prog_1_method_24_code, 2, (some .int), [], 14)
def mm_S_findByRot : zz_M := (⟨"TurnipPages$Store", "findByRot", "(I)I"⟩, prog_7_method_14_code, 5, (some .int), [], 13)
def mm_G_isAheadByRot : zz_M := (⟨"TurnipPages$Telegram", "isAheadByRot", "(LTurnipPages$Telegram;)Z"⟩, prog_8_method_12_code, 2, (some .boolean), [], 12)
def mm_G_greatestRot : zz_M := (⟨"TurnipPages$Telegram", "greatestRot", "()I"⟩, prog_8_method_10_code, 3, (some .int), [], 11)
def mm_L_checksumOf : zz_M := (⟨"TurnipPagesLaw", "checksumOf", "(LTurnipPages;I)I"⟩, method_21_code, 3, (some .int), [((0), (5), (6), (41))], 14)
def mm_P_checksumOf : zz_M := (⟨"TurnipPages", "checksumOf", "(I)I"⟩, prog_1_method_26_code, 2, (some .int), [], 13)
def mm_L_untilRotten : zz_M := (⟨"TurnipPagesLaw", "untilRotten", "(LTurnipPages;I)I"⟩, method_30_code, 3, (some .int), [((0), (5), (6), (41))], 14)
def mm_P_daysUntilRotten : zz_M := (⟨"TurnipPages", "daysUntilRotten", "(I)I"⟩, prog_1_method_35_code, 3, (some .int), [], 13)
def mm_S_countDaysUntilRotten : zz_M := (⟨"TurnipPages$Store", "countDaysUntilRotten", "(LTurnipPages$Telegram;)I"⟩, prog_7_method_20_code, 4, (some .int), [], 12)
def mm_L_isReadable : zz_M := (⟨"TurnipPagesLaw", "isReadable", "(LTurnipPages;I)I"⟩, method_26_code, 3, (some .int), [((0), (13), (14), (41))], 16)
def mm_P_isReadable : zz_M := (⟨"TurnipPages", "isReadable", "(I)Z"⟩, prog_1_method_31_code, 3, (some .boolean), [], 15)
def mm_V_readTelegram : zz_M := (⟨"TurnipPages$Carver", "readTelegram", "(I)I"⟩, prog_2_method_12_code, 3, (some .int), [], 14)
def mm_L_decodedLength : zz_M := (⟨"TurnipPagesLaw", "decodedLength", "(LTurnipPages;I)I"⟩, method_24_code, 3, (some .int), [((0), (5), (6), (41))], 15)
def mm_P_decodedLength : zz_M := (⟨"TurnipPages", "decodedLength", "(I)I"⟩, prog_1_method_29_code, 2, (some .int), [], 14)
def mm_P_requireValidCode : zz_M := (⟨"TurnipPages", "requireValidCode", "(I)LTurnipPages$Text;"⟩, prog_1_method_58_code, 3, (some (.object "TurnipPages$Text")), [], 13)
def mm_L_codeLength : zz_M := (⟨"TurnipPagesLaw", "codeLength", "(LTurnipPages;I)I"⟩, method_22_code, 3, (some .int), [((0), (5), (6), (41))], 14)
def mm_P_codeLength : zz_M := (⟨"TurnipPages", "codeLength", "(I)I"⟩, prog_1_method_27_code, 2, (some .int), [], 13)
def mm_L_codeChar : zz_M := (⟨"TurnipPagesLaw", "codeChar", "(LTurnipPages;II)I"⟩, method_23_code, 4, (some .int), [((0), (6), (7), (41)), ((0), (6), (12), (30))], 14)
def mm_P_codeCharacter : zz_M := (⟨"TurnipPages", "codeCharacter", "(II)C"⟩, prog_1_method_28_code, 4, (some .char), [], 13)
def mm_L_write : zz_M := (⟨"TurnipPagesLaw", "write", "(LTurnipPages;I)I"⟩, method_36_code, 3, (some .int), [((0), (5), (6), (41))], 16)
def mm_P_writeTelegram : zz_M := (⟨"TurnipPages", "writeTelegram", "(I)I"⟩, prog_1_method_44_code, 2, (some .int), [], 15)
def mm_G_writeTo : zz_M := (⟨"TurnipPages$Telegram", "writeTo", "(LTurnipPages$Text;)V"⟩, prog_8_method_13_code, 3, (none : Option Jvm.ClassFile.FieldType), [], 14)
def mm_T_addNumber : zz_M := (⟨"TurnipPages$Text", "addNumber", "(I)V"⟩, prog_9_method_8_code, 3, (none : Option Jvm.ClassFile.FieldType), [], 12)
def mm_G_writePage : zz_M := (⟨"TurnipPages$Telegram", "writePage", "(ILTurnipPages$Text;)V"⟩, prog_8_method_14_code, 7, (none : Option Jvm.ClassFile.FieldType), [], 13)
def mm_L_lineChar : zz_M := (⟨"TurnipPagesLaw", "lineChar", "(LTurnipPages;I)I"⟩, method_37_code, 3, (some .int), [((0), (5), (6), (30))], 13)
def mm_P_lineCharacter : zz_M := (⟨"TurnipPages", "lineCharacter", "(I)C"⟩, prog_1_method_45_code, 2, (some .char), [], 12)
def mm_L_changes : zz_M := (⟨"TurnipPagesLaw", "changes", "(LTurnipPages;I)Z"⟩, method_50_code, 3, (some .boolean), [], 22)
def mm_L_dry : zz_M := (⟨"TurnipPagesLaw", "dry", "(LTurnipPages;I)I"⟩, method_7_code, 3, (some .int), [((0), (5), (6), (30)), ((0), (5), (11), (25))], 16)
def mm_P_dry : zz_M := (⟨"TurnipPages", "dry", "(I)I"⟩, prog_1_method_10_code, 2, (some .int), [], 15)
def mm_JS_substring_I : zz_M := (⟨"java/lang/String", "substring", "(I)Ljava/lang/String;"⟩, prog_30_method_91_code, 2, (some (.object "java/lang/String")), [], 21)
def mm_JS_substring_II : zz_M := (⟨"java/lang/String", "substring", "(II)Ljava/lang/String;"⟩, prog_30_method_92_code, 5, (some (.object "java/lang/String")), [], 20)
def mm_JL_newString : zz_M := (⟨"java/lang/StringLatin1", "newString", "([BII)Ljava/lang/String;"⟩, prog_32_method_47_code, 3, (some (.object "java/lang/String")), [], 19)
def mm_JS_init_ABB : zz_M := (⟨"java/lang/String", "<init>", "([BB)V"⟩, prog_30_method_151_code, 3, (none : Option Jvm.ClassFile.FieldType), [], 10)
def mm_L_damage : zz_M := (⟨"TurnipPagesLaw", "damage", "(LTurnipPages;IIC)I"⟩, method_12_code, 5, (some .int), [((0), (7), (8), (41)), ((0), (7), (14), (30)), ((0), (7), (20), (13)), ((0), (7), (26), (25))], 16)
def mm_P_damage : zz_M := (⟨"TurnipPages", "damage", "(IIC)C"⟩, prog_1_method_16_code, 4, (some .char), [], 15)
def mm_V_damageCode : zz_M := (⟨"TurnipPages$Carver", "damageCode", "(IIC)I"⟩, prog_2_method_7_code, 6, (some .int), [], 12)
def mm_T_put : zz_M := (⟨"TurnipPages$Text", "put", "(IC)V"⟩, prog_9_method_6_code, 3, (none : Option Jvm.ClassFile.FieldType), [], 11)
def mm_L_recarve : zz_M := (⟨"TurnipPagesLaw", "recarve", "(LTurnipPages;I)I"⟩, method_13_code, 3, (some .int), [((0), (5), (6), (41)), ((0), (5), (11), (25))], 16)
def mm_P_recarve : zz_M := (⟨"TurnipPages", "recarve", "(I)I"⟩, prog_1_method_17_code, 2, (some .int), [], 15)
def mm_L_move : zz_M := (⟨"TurnipPagesLaw", "move", "(LTurnipPages;II)I"⟩, method_14_code, 4, (some .int), [((0), (6), (7), (41)), ((0), (6), (12), (30)), ((0), (6), (17), (25))], 16)
def mm_P_move : zz_M := (⟨"TurnipPages", "move", "(II)I"⟩, prog_1_method_18_code, 3, (some .int), [], 15)
def mm_L_runs : zz_M := (⟨"TurnipPagesLaw", "runs", "(LTurnipPages;Ljava/lang/String;)I"⟩, method_43_code, 3, (some .int), [], 20)
def mm_L_thrown : zz_M := (⟨"TurnipPagesLaw", "thrown", "(LTurnipPages;)Z"⟩, method_51_code, 11, (some .boolean), [], 22)
def mm_L_read : zz_M := (⟨"TurnipPagesLaw", "read", "(LTurnipPages;I)I"⟩, method_16_code, 3, (some .int), [((0), (5), (6), (41)), ((0), (5), (11), (25))], 16)
def mm_P_read : zz_M := (⟨"TurnipPages", "read", "(I)I"⟩, prog_1_method_20_code, 2, (some .int), [], 15)
def mm_L_rootOf : zz_M := (⟨"TurnipPagesLaw", "rootOf", "(LTurnipPages;I)I"⟩, method_20_code, 3, (some .int), [((0), (5), (6), (41))], 14)
def mm_P_rootOf : zz_M := (⟨"TurnipPages", "rootOf", "(I)I"⟩, prog_1_method_25_code, 2, (some .int), [], 13)
def mm_L_pageCount : zz_M := (⟨"TurnipPagesLaw", "pageCount", "(LTurnipPages;I)I"⟩, method_28_code, 3, (some .int), [((0), (5), (6), (41))], 14)
def mm_P_pageCount : zz_M := (⟨"TurnipPages", "pageCount", "(I)I"⟩, prog_1_method_33_code, 2, (some .int), [], 13)
def mm_L_decodedByUnits : zz_M := (⟨"TurnipPagesLaw", "decodedByUnits", "(LTurnipPages;I)I"⟩, method_25_code, 3, (some .int), [((0), (5), (6), (41))], 15)
def mm_P_decodedLengthByUnits : zz_M := (⟨"TurnipPages", "decodedLengthByUnits", "(I)I"⟩, prog_1_method_30_code, 2, (some .int), [], 14)
def mm_O_unfoldedLength : zz_M := (⟨"TurnipPages$Code", "unfoldedLength", "(LTurnipPages$Text;)I"⟩, prog_3_method_9_code, 6, (some .int), [], 12)
end
section
theorem ee_T_init_0 : zz_D mm_T_init 0 (.aload_n 0) 1 1 := ⟨by decide +kernel, rfl⟩
theorem ee_T_init_1 : zz_D mm_T_init 1 (.invokespecial 3) 3 4 := ⟨by decide +kernel, rfl⟩
theorem oo_T_init_3 : Cond.methodLink (zz_y mm_T_init).cls 3 Lib.objectInit ∈ zz_gw := zz_in 65 (by decide +kernel) rfl
theorem ee_T_init_4 : zz_D mm_T_init 4 (.aload_n 0) 1 5 := ⟨by decide +kernel, rfl⟩
theorem ee_T_init_5 : zz_D mm_T_init 5 (.iconst 0) 1 6 := ⟨by decide +kernel, rfl⟩
theorem ee_T_init_6 : zz_D mm_T_init 6 (.putfield 9) 3 9 := ⟨by decide +kernel, rfl⟩
theorem ff_T_init_9 : zz_F mm_T_init 9 7 1 := ⟨by decide, zz_in 70 (by decide +kernel) rfl⟩
theorem ee_T_init_9 : zz_D mm_T_init 9 (.aload_n 0) 1 10 := ⟨by decide +kernel, rfl⟩
theorem ee_T_init_10 : zz_D mm_T_init 10 (.iload_n 1) 1 11 := ⟨by decide +kernel, rfl⟩
theorem ee_T_init_11 : zz_D mm_T_init 11 (.iconst 0) 1 12 := ⟨by decide +kernel, rfl⟩
theorem ee_T_init_12 : zz_D mm_T_init 12 (.invokestatic 15) 3 15 := ⟨by decide +kernel, rfl⟩
theorem kk_T_init_15 : zz_kS mm_T_init mm_JM_max 15 2 := ⟨⟨zz_in 68 (by decide +kernel) rfl, zz_in 21 (by decide +kernel) rfl, by decide +kernel, by decide, by decide⟩, rfl, zz_in 66 (by decide +kernel) rfl, zz_in 67 (by decide +kernel) rfl⟩
theorem ee_T_init_15 : zz_D mm_T_init 15 (.newarray .char) 2 17 := ⟨by decide +kernel, rfl⟩
theorem ee_T_init_17 : zz_D mm_T_init 17 (.putfield 21) 3 20 := ⟨by decide +kernel, rfl⟩
theorem ff_T_init_21 : zz_F mm_T_init 21 7 0 := ⟨by decide, zz_in 69 (by decide +kernel) rfl⟩
theorem ee_T_init_20 : zz_D mm_T_init 20 .return_ 1 21 := ⟨by decide +kernel, rfl⟩
theorem ee_G_init_0 : zz_D mm_G_init 0 (.aload_n 0) 1 1 := ⟨by decide +kernel, rfl⟩
theorem ee_G_init_1 : zz_D mm_G_init 1 (.invokespecial 3) 3 4 := ⟨by decide +kernel, rfl⟩
theorem oo_G_init_3 : Cond.methodLink (zz_y mm_G_init).cls 3 Lib.objectInit ∈ zz_gw := zz_in 101 (by decide +kernel) rfl
theorem ee_G_init_4 : zz_D mm_G_init 4 (.aload_n 0) 1 5 := ⟨by decide +kernel, rfl⟩
theorem ee_G_init_5 : zz_D mm_G_init 5 (.new 9) 3 8 := ⟨by decide +kernel, rfl⟩
theorem nn_G_init_9 : zz_Nw2 mm_G_init 9 7 2 := ⟨zz_in 102 (by decide +kernel) rfl, zz_in 61 (by decide +kernel) rfl, zz_in 20 (by decide +kernel) rfl, by decide⟩
theorem ee_G_init_8 : zz_D mm_G_init 8 .dup 1 9 := ⟨by decide +kernel, rfl⟩
theorem ee_G_init_9 : zz_D mm_G_init 9 (.bipush 96) 2 11 := ⟨by decide +kernel, rfl⟩
theorem ee_G_init_11 : zz_D mm_G_init 11 (.invokespecial 11) 3 14 := ⟨by decide +kernel, rfl⟩
theorem kk_G_init_11 : zz_kI mm_G_init mm_T_init 11 1 := ⟨⟨zz_in 64 (by decide +kernel) rfl, zz_in 20 (by decide +kernel) rfl, by decide +kernel, by decide, by decide⟩, rfl, rfl, rfl, zz_in 103 (by decide +kernel) rfl, zz_in 63 (by decide +kernel) rfl⟩
theorem ee_G_init_14 : zz_D mm_G_init 14 (.putfield 14) 3 17 := ⟨by decide +kernel, rfl⟩
theorem ff_G_init_14 : zz_F mm_G_init 14 6 0 := ⟨by decide, zz_in 104 (by decide +kernel) rfl⟩
theorem ee_G_init_17 : zz_D mm_G_init 17 (.aload_n 0) 1 18 := ⟨by decide +kernel, rfl⟩
theorem ee_G_init_18 : zz_D mm_G_init 18 (.bipush 8) 2 20 := ⟨by decide +kernel, rfl⟩
theorem ee_G_init_20 : zz_D mm_G_init 20 (.newarray .int) 2 22 := ⟨by decide +kernel, rfl⟩
theorem ee_G_init_22 : zz_D mm_G_init 22 (.putfield 20) 3 25 := ⟨by decide +kernel, rfl⟩
theorem ff_G_init_20 : zz_F mm_G_init 20 6 1 := ⟨by decide, zz_in 108 (by decide +kernel) rfl⟩
theorem ee_G_init_25 : zz_D mm_G_init 25 (.aload_n 0) 1 26 := ⟨by decide +kernel, rfl⟩
theorem ee_G_init_26 : zz_D mm_G_init 26 (.iconst 0) 1 27 := ⟨by decide +kernel, rfl⟩
theorem ee_G_init_27 : zz_D mm_G_init 27 (.putfield 24) 3 30 := ⟨by decide +kernel, rfl⟩
theorem ff_G_init_24 : zz_F mm_G_init 24 6 2 := ⟨by decide, zz_in 109 (by decide +kernel) rfl⟩
theorem ee_G_init_30 : zz_D mm_G_init 30 (.aload_n 0) 1 31 := ⟨by decide +kernel, rfl⟩
theorem ee_G_init_31 : zz_D mm_G_init 31 (.iconst 0) 1 32 := ⟨by decide +kernel, rfl⟩
theorem ee_G_init_32 : zz_D mm_G_init 32 (.putfield 28) 3 35 := ⟨by decide +kernel, rfl⟩
theorem ff_G_init_28 : zz_F mm_G_init 28 6 3 := ⟨by decide, zz_in 113 (by decide +kernel) rfl⟩
theorem ee_G_init_35 : zz_D mm_G_init 35 (.aload_n 0) 1 36 := ⟨by decide +kernel, rfl⟩
theorem ee_G_init_36 : zz_D mm_G_init 36 (.iconst 0) 1 37 := ⟨by decide +kernel, rfl⟩
theorem ee_G_init_37 : zz_D mm_G_init 37 (.putfield 31) 3 40 := ⟨by decide +kernel, rfl⟩
theorem ff_G_init_31 : zz_F mm_G_init 31 6 4 := ⟨by decide, zz_in 117 (by decide +kernel) rfl⟩
theorem ee_G_init_40 : zz_D mm_G_init 40 (.aload_n 0) 1 41 := ⟨by decide +kernel, rfl⟩
theorem ee_G_init_41 : zz_D mm_G_init 41 (.iconst 0) 1 42 := ⟨by decide +kernel, rfl⟩
theorem ee_G_init_42 : zz_D mm_G_init 42 (.putfield 34) 3 45 := ⟨by decide +kernel, rfl⟩
theorem ff_G_init_34 : zz_F mm_G_init 34 6 5 := ⟨by decide, zz_in 121 (by decide +kernel) rfl⟩
theorem ee_G_init_45 : zz_D mm_G_init 45 (.aload_n 0) 1 46 := ⟨by decide +kernel, rfl⟩
theorem ee_G_init_46 : zz_D mm_G_init 46 (.iconst 0) 1 47 := ⟨by decide +kernel, rfl⟩
theorem ee_G_init_47 : zz_D mm_G_init 47 (.putfield 37) 3 50 := ⟨by decide +kernel, rfl⟩
theorem ff_G_init_37 : zz_F mm_G_init 37 6 6 := ⟨by decide, zz_in 123 (by decide +kernel) rfl⟩
theorem ee_G_init_50 : zz_D mm_G_init 50 .return_ 1 51 := ⟨by decide +kernel, rfl⟩
theorem ee_H_init_0 : zz_D mm_H_init 0 (.aload_n 0) 1 1 := ⟨by decide +kernel, rfl⟩
theorem ee_H_init_1 : zz_D mm_H_init 1 (.invokespecial 3) 3 4 := ⟨by decide +kernel, rfl⟩
theorem oo_H_init_3 : Cond.methodLink (zz_y mm_H_init).cls 3 Lib.objectInit ∈ zz_gw := zz_in 198 (by decide +kernel) rfl
theorem ee_H_init_4 : zz_D mm_H_init 4 (.aload_n 0) 1 5 := ⟨by decide +kernel, rfl⟩
theorem ee_H_init_5 : zz_D mm_H_init 5 (.bipush 9) 2 7 := ⟨by decide +kernel, rfl⟩
theorem ee_H_init_7 : zz_D mm_H_init 7 (.anewarray 11) 3 10 := ⟨by decide +kernel, rfl⟩
theorem ee_H_init_10 : zz_D mm_H_init 10 (.putfield 13) 3 13 := ⟨by decide +kernel, rfl⟩
theorem ff_H_init_13 : zz_F mm_H_init 13 4 0 := ⟨by decide, zz_in 202 (by decide +kernel) rfl⟩
theorem ee_H_init_13 : zz_D mm_H_init 13 (.aload_n 0) 1 14 := ⟨by decide +kernel, rfl⟩
theorem ee_H_init_14 : zz_D mm_H_init 14 (.iconst 0) 1 15 := ⟨by decide +kernel, rfl⟩
theorem ee_H_init_15 : zz_D mm_H_init 15 (.putfield 17) 3 18 := ⟨by decide +kernel, rfl⟩
theorem ff_H_init_17 : zz_F mm_H_init 17 4 1 := ⟨by decide, zz_in 203 (by decide +kernel) rfl⟩
theorem ee_H_init_18 : zz_D mm_H_init 18 (.aload_n 0) 1 19 := ⟨by decide +kernel, rfl⟩
theorem ee_H_init_19 : zz_D mm_H_init 19 (.iconst 0) 1 20 := ⟨by decide +kernel, rfl⟩
theorem ee_H_init_20 : zz_D mm_H_init 20 (.putfield 21) 3 23 := ⟨by decide +kernel, rfl⟩
theorem ff_H_init_21 : zz_F mm_H_init 21 4 2 := ⟨by decide, zz_in 204 (by decide +kernel) rfl⟩
theorem ee_H_init_23 : zz_D mm_H_init 23 (.iconst 0) 1 24 := ⟨by decide +kernel, rfl⟩
theorem ee_H_init_24 : zz_D mm_H_init 24 (.istore_n 1) 1 25 := ⟨by decide +kernel, rfl⟩
theorem ee_H_init_25 : zz_D mm_H_init 25 (.iload_n 1) 1 26 := ⟨by decide +kernel, rfl⟩
theorem ee_H_init_26 : zz_D mm_H_init 26 (.aload_n 0) 1 27 := ⟨by decide +kernel, rfl⟩
theorem ee_H_init_27 : zz_D mm_H_init 27 (.getfield 13) 3 30 := ⟨by decide +kernel, rfl⟩
theorem ee_H_init_30 : zz_D mm_H_init 30 .arraylength 1 31 := ⟨by decide +kernel, rfl⟩
theorem ee_H_init_31 : zz_D mm_H_init 31 (.if_icmp .ge 22) 3 34 := ⟨by decide +kernel, rfl⟩
theorem ee_H_init_34 : zz_D mm_H_init 34 (.aload_n 0) 1 35 := ⟨by decide +kernel, rfl⟩
theorem ee_H_init_35 : zz_D mm_H_init 35 (.getfield 13) 3 38 := ⟨by decide +kernel, rfl⟩
theorem ee_H_init_38 : zz_D mm_H_init 38 (.iload_n 1) 1 39 := ⟨by decide +kernel, rfl⟩
theorem ee_H_init_39 : zz_D mm_H_init 39 (.new 11) 3 42 := ⟨by decide +kernel, rfl⟩
theorem nn_H_init_11 : zz_Nw2 mm_H_init 11 5 7 := ⟨zz_in 199 (by decide +kernel) rfl, zz_in 90 (by decide +kernel) rfl, zz_in 23 (by decide +kernel) rfl, by decide⟩
theorem ee_H_init_42 : zz_D mm_H_init 42 .dup 1 43 := ⟨by decide +kernel, rfl⟩
theorem ee_H_init_43 : zz_D mm_H_init 43 (.invokespecial 24) 3 46 := ⟨by decide +kernel, rfl⟩
theorem kk_H_init_24 : zz_kI mm_H_init mm_S_init 24 0 := ⟨⟨zz_in 93 (by decide +kernel) rfl, zz_in 23 (by decide +kernel) rfl, by decide +kernel, by decide, by decide⟩, rfl, rfl, rfl, zz_in 201 (by decide +kernel) rfl, zz_in 92 (by decide +kernel) rfl⟩
theorem ee_H_init_46 : zz_D mm_H_init 46 .aastore 1 47 := ⟨by decide +kernel, rfl⟩
theorem ee_H_init_47 : zz_D mm_H_init 47 (.iinc 1 1) 3 50 := ⟨by decide +kernel, rfl⟩
theorem ee_H_init_50 : zz_D mm_H_init 50 (.goto (-25)) 3 53 := ⟨by decide +kernel, rfl⟩
theorem ee_H_init_53 : zz_D mm_H_init 53 .return_ 1 54 := ⟨by decide +kernel, rfl⟩
theorem ee_D_init_0 : zz_D mm_D_init 0 (.aload_n 0) 1 1 := ⟨by decide +kernel, rfl⟩
theorem ee_D_init_1 : zz_D mm_D_init 1 (.invokespecial 3) 3 4 := ⟨by decide +kernel, rfl⟩
theorem oo_D_init_3 : Cond.methodLink (zz_y mm_D_init).cls 3 Lib.objectInit ∈ zz_gw := zz_in 241 (by decide +kernel) rfl
theorem ee_D_init_4 : zz_D mm_D_init 4 (.aload_n 0) 1 5 := ⟨by decide +kernel, rfl⟩
theorem ee_D_init_5 : zz_D mm_D_init 5 (.iconst (-1)) 1 6 := ⟨by decide +kernel, rfl⟩
theorem ee_D_init_6 : zz_D mm_D_init 6 (.putfield 9) 3 9 := ⟨by decide +kernel, rfl⟩
theorem ff_D_init_9 : zz_F mm_D_init 9 3 0 := ⟨by decide, zz_in 242 (by decide +kernel) rfl⟩
theorem ee_D_init_9 : zz_D mm_D_init 9 (.aload_n 0) 1 10 := ⟨by decide +kernel, rfl⟩
theorem ee_D_init_10 : zz_D mm_D_init 10 (.iconst 0) 1 11 := ⟨by decide +kernel, rfl⟩
theorem ee_D_init_11 : zz_D mm_D_init 11 (.putfield 15) 3 14 := ⟨by decide +kernel, rfl⟩
theorem ff_D_init_15 : zz_F mm_D_init 15 3 1 := ⟨by decide, zz_in 244 (by decide +kernel) rfl⟩
theorem ee_D_init_14 : zz_D mm_D_init 14 (.aload_n 0) 1 15 := ⟨by decide +kernel, rfl⟩
theorem ee_D_init_15 : zz_D mm_D_init 15 (.iconst (-1)) 1 16 := ⟨by decide +kernel, rfl⟩
theorem ee_D_init_16 : zz_D mm_D_init 16 (.putfield 18) 3 19 := ⟨by decide +kernel, rfl⟩
theorem ff_D_init_18 : zz_F mm_D_init 18 3 2 := ⟨by decide, zz_in 246 (by decide +kernel) rfl⟩
theorem ee_D_init_19 : zz_D mm_D_init 19 .return_ 1 20 := ⟨by decide +kernel, rfl⟩
theorem ee_T_clear_0 : zz_D mm_T_clear 0 (.aload_n 0) 1 1 := ⟨by decide +kernel, rfl⟩
theorem ee_T_clear_1 : zz_D mm_T_clear 1 (.iconst 0) 1 2 := ⟨by decide +kernel, rfl⟩
theorem ee_T_clear_2 : zz_D mm_T_clear 2 (.putfield 9) 3 5 := ⟨by decide +kernel, rfl⟩
theorem ff_T_clear_9 : zz_F mm_T_clear 9 7 1 := ⟨by decide, zz_in 70 (by decide +kernel) rfl⟩
theorem ee_T_clear_5 : zz_D mm_T_clear 5 .return_ 1 6 := ⟨by decide +kernel, rfl⟩
theorem ee_T_at_0 : zz_D mm_T_at 0 (.aload_n 0) 1 1 := ⟨by decide +kernel, rfl⟩
theorem ee_T_at_1 : zz_D mm_T_at 1 (.iload_n 1) 1 2 := ⟨by decide +kernel, rfl⟩
theorem ee_T_at_2 : zz_D mm_T_at 2 (.invokevirtual 25) 3 5 := ⟨by decide +kernel, rfl⟩
theorem kk_T_at_25 : zz_kV mm_T_at mm_T_has 25 1 := ⟨⟨zz_in 315 (by decide +kernel) rfl, zz_in 20 (by decide +kernel) rfl, by decide +kernel, by decide, by decide⟩, rfl, zz_in 312 (by decide +kernel) rfl, zz_in 313 (by decide +kernel) rfl, zz_in 314 (by decide +kernel) rfl⟩
theorem ee_T_at_5 : zz_D mm_T_at 5 (.ifCond .eq 12) 3 8 := ⟨by decide +kernel, rfl⟩
theorem ee_T_at_8 : zz_D mm_T_at 8 (.aload_n 0) 1 9 := ⟨by decide +kernel, rfl⟩
theorem ee_T_at_9 : zz_D mm_T_at 9 (.getfield 21) 3 12 := ⟨by decide +kernel, rfl⟩
theorem ff_T_at_21 : zz_F mm_T_at 21 7 0 := ⟨by decide, zz_in 69 (by decide +kernel) rfl⟩
theorem ee_T_at_12 : zz_D mm_T_at 12 (.iload_n 1) 1 13 := ⟨by decide +kernel, rfl⟩
theorem ee_T_at_13 : zz_D mm_T_at 13 .caload 1 14 := ⟨by decide +kernel, rfl⟩
theorem ee_T_at_14 : zz_D mm_T_at 14 (.goto 4) 3 17 := ⟨by decide +kernel, rfl⟩
theorem ee_T_at_17 : zz_D mm_T_at 17 (.iconst 0) 1 18 := ⟨by decide +kernel, rfl⟩
theorem ee_T_at_18 : zz_D mm_T_at 18 .ireturn 1 19 := ⟨by decide +kernel, rfl⟩
theorem ee_T_has_0 : zz_D mm_T_has 0 (.iload_n 1) 1 1 := ⟨by decide +kernel, rfl⟩
theorem ee_T_has_1 : zz_D mm_T_has 1 (.ifCond .lt 24) 3 4 := ⟨by decide +kernel, rfl⟩
theorem ee_T_has_4 : zz_D mm_T_has 4 (.iload_n 1) 1 5 := ⟨by decide +kernel, rfl⟩
theorem ee_T_has_5 : zz_D mm_T_has 5 (.aload_n 0) 1 6 := ⟨by decide +kernel, rfl⟩
theorem ee_T_has_6 : zz_D mm_T_has 6 (.getfield 9) 3 9 := ⟨by decide +kernel, rfl⟩
theorem ff_T_has_9 : zz_F mm_T_has 9 7 1 := ⟨by decide, zz_in 70 (by decide +kernel) rfl⟩
theorem ee_T_has_9 : zz_D mm_T_has 9 (.if_icmp .ge 16) 3 12 := ⟨by decide +kernel, rfl⟩
theorem ee_T_has_12 : zz_D mm_T_has 12 (.iload_n 1) 1 13 := ⟨by decide +kernel, rfl⟩
theorem ee_T_has_13 : zz_D mm_T_has 13 (.aload_n 0) 1 14 := ⟨by decide +kernel, rfl⟩
theorem ee_T_has_14 : zz_D mm_T_has 14 (.getfield 21) 3 17 := ⟨by decide +kernel, rfl⟩
theorem ff_T_has_21 : zz_F mm_T_has 21 7 0 := ⟨by decide, zz_in 69 (by decide +kernel) rfl⟩
theorem ee_T_has_17 : zz_D mm_T_has 17 .arraylength 1 18 := ⟨by decide +kernel, rfl⟩
theorem ee_T_has_18 : zz_D mm_T_has 18 (.if_icmp .ge 7) 3 21 := ⟨by decide +kernel, rfl⟩
theorem ee_T_has_21 : zz_D mm_T_has 21 (.iconst 1) 1 22 := ⟨by decide +kernel, rfl⟩
theorem ee_T_has_22 : zz_D mm_T_has 22 (.goto 4) 3 25 := ⟨by decide +kernel, rfl⟩
theorem ee_T_has_25 : zz_D mm_T_has 25 (.iconst 0) 1 26 := ⟨by decide +kernel, rfl⟩
theorem ee_T_has_26 : zz_D mm_T_has 26 .ireturn 1 27 := ⟨by decide +kernel, rfl⟩
theorem ee_T_add_0 : zz_D mm_T_add 0 (.aload_n 0) 1 1 := ⟨by decide +kernel, rfl⟩
theorem ee_T_add_1 : zz_D mm_T_add 1 (.invokevirtual 29) 3 4 := ⟨by decide +kernel, rfl⟩
theorem kk_T_add_29 : zz_kV mm_T_add mm_T_isFull 29 0 := ⟨⟨zz_in 332 (by decide +kernel) rfl, zz_in 20 (by decide +kernel) rfl, by decide +kernel, by decide, by decide⟩, rfl, zz_in 329 (by decide +kernel) rfl, zz_in 330 (by decide +kernel) rfl, zz_in 331 (by decide +kernel) rfl⟩
theorem ee_T_add_4 : zz_D mm_T_add 4 (.ifCond .ne 23) 3 7 := ⟨by decide +kernel, rfl⟩
theorem ee_T_add_7 : zz_D mm_T_add 7 (.aload_n 0) 1 8 := ⟨by decide +kernel, rfl⟩
theorem ee_T_add_8 : zz_D mm_T_add 8 (.getfield 21) 3 11 := ⟨by decide +kernel, rfl⟩
theorem ff_T_add_21 : zz_F mm_T_add 21 7 0 := ⟨by decide, zz_in 69 (by decide +kernel) rfl⟩
theorem ee_T_add_11 : zz_D mm_T_add 11 (.aload_n 0) 1 12 := ⟨by decide +kernel, rfl⟩
theorem ee_T_add_12 : zz_D mm_T_add 12 (.getfield 9) 3 15 := ⟨by decide +kernel, rfl⟩
theorem ff_T_add_9 : zz_F mm_T_add 9 7 1 := ⟨by decide, zz_in 70 (by decide +kernel) rfl⟩
theorem ee_T_add_15 : zz_D mm_T_add 15 (.iload_n 1) 1 16 := ⟨by decide +kernel, rfl⟩
theorem ee_T_add_16 : zz_D mm_T_add 16 .castore 1 17 := ⟨by decide +kernel, rfl⟩
theorem ee_T_add_17 : zz_D mm_T_add 17 (.aload_n 0) 1 18 := ⟨by decide +kernel, rfl⟩
theorem ee_T_add_18 : zz_D mm_T_add 18 .dup 1 19 := ⟨by decide +kernel, rfl⟩
theorem ee_T_add_19 : zz_D mm_T_add 19 (.getfield 9) 3 22 := ⟨by decide +kernel, rfl⟩
theorem ee_T_add_22 : zz_D mm_T_add 22 (.iconst 1) 1 23 := ⟨by decide +kernel, rfl⟩
theorem ee_T_add_23 : zz_D mm_T_add 23 .iadd 1 24 := ⟨by decide +kernel, rfl⟩
theorem ee_T_add_24 : zz_D mm_T_add 24 (.putfield 9) 3 27 := ⟨by decide +kernel, rfl⟩
theorem ee_T_add_27 : zz_D mm_T_add 27 .return_ 1 28 := ⟨by decide +kernel, rfl⟩
theorem ee_T_isFull_0 : zz_D mm_T_isFull 0 (.aload_n 0) 1 1 := ⟨by decide +kernel, rfl⟩
theorem ee_T_isFull_1 : zz_D mm_T_isFull 1 (.getfield 9) 3 4 := ⟨by decide +kernel, rfl⟩
theorem ff_T_isFull_9 : zz_F mm_T_isFull 9 7 1 := ⟨by decide, zz_in 70 (by decide +kernel) rfl⟩
theorem ee_T_isFull_4 : zz_D mm_T_isFull 4 (.aload_n 0) 1 5 := ⟨by decide +kernel, rfl⟩
theorem ee_T_isFull_5 : zz_D mm_T_isFull 5 (.getfield 21) 3 8 := ⟨by decide +kernel, rfl⟩
theorem ff_T_isFull_21 : zz_F mm_T_isFull 21 7 0 := ⟨by decide, zz_in 69 (by decide +kernel) rfl⟩
theorem ee_T_isFull_8 : zz_D mm_T_isFull 8 .arraylength 1 9 := ⟨by decide +kernel, rfl⟩
theorem ee_T_isFull_9 : zz_D mm_T_isFull 9 (.if_icmp .lt 7) 3 12 := ⟨by decide +kernel, rfl⟩
theorem ee_T_isFull_12 : zz_D mm_T_isFull 12 (.iconst 1) 1 13 := ⟨by decide +kernel, rfl⟩
theorem ee_T_isFull_13 : zz_D mm_T_isFull 13 (.goto 4) 3 16 := ⟨by decide +kernel, rfl⟩
theorem ee_T_isFull_16 : zz_D mm_T_isFull 16 (.iconst 0) 1 17 := ⟨by decide +kernel, rfl⟩
theorem ee_T_isFull_17 : zz_D mm_T_isFull 17 .ireturn 1 18 := ⟨by decide +kernel, rfl⟩
theorem ee_G_countRottenPages_0 : zz_D mm_G_countRottenPages 0 (.iconst 0) 1 1 := ⟨by decide +kernel, rfl⟩
theorem ee_G_countRottenPages_1 : zz_D mm_G_countRottenPages 1 (.istore_n 1) 1 2 := ⟨by decide +kernel, rfl⟩
theorem ee_G_countRottenPages_2 : zz_D mm_G_countRottenPages 2 (.iconst 0) 1 3 := ⟨by decide +kernel, rfl⟩
theorem ee_G_countRottenPages_3 : zz_D mm_G_countRottenPages 3 (.istore_n 2) 1 4 := ⟨by decide +kernel, rfl⟩
theorem ee_G_countRottenPages_4 : zz_D mm_G_countRottenPages 4 (.iload_n 2) 1 5 := ⟨by decide +kernel, rfl⟩
theorem ee_G_countRottenPages_5 : zz_D mm_G_countRottenPages 5 (.aload_n 0) 1 6 := ⟨by decide +kernel, rfl⟩
theorem ee_G_countRottenPages_6 : zz_D mm_G_countRottenPages 6 (.getfield 24) 3 9 := ⟨by decide +kernel, rfl⟩
theorem ff_G_countRottenPages_24 : zz_F mm_G_countRottenPages 24 6 2 := ⟨by decide, zz_in 109 (by decide +kernel) rfl⟩
theorem ee_G_countRottenPages_9 : zz_D mm_G_countRottenPages 9 (.if_icmp .ge 37) 3 12 := ⟨by decide +kernel, rfl⟩
theorem ee_G_countRottenPages_12 : zz_D mm_G_countRottenPages 12 (.iload_n 2) 1 13 := ⟨by decide +kernel, rfl⟩
theorem ee_G_countRottenPages_13 : zz_D mm_G_countRottenPages 13 (.aload_n 0) 1 14 := ⟨by decide +kernel, rfl⟩
theorem ee_G_countRottenPages_14 : zz_D mm_G_countRottenPages 14 (.getfield 20) 3 17 := ⟨by decide +kernel, rfl⟩
theorem ff_G_countRottenPages_20 : zz_F mm_G_countRottenPages 20 6 1 := ⟨by decide, zz_in 108 (by decide +kernel) rfl⟩
theorem ee_G_countRottenPages_17 : zz_D mm_G_countRottenPages 17 .arraylength 1 18 := ⟨by decide +kernel, rfl⟩
theorem ee_G_countRottenPages_18 : zz_D mm_G_countRottenPages 18 (.if_icmp .ge 28) 3 21 := ⟨by decide +kernel, rfl⟩
theorem ee_G_countRottenPages_21 : zz_D mm_G_countRottenPages 21 (.iload_n 1) 1 22 := ⟨by decide +kernel, rfl⟩
theorem ee_G_countRottenPages_22 : zz_D mm_G_countRottenPages 22 (.aload_n 0) 1 23 := ⟨by decide +kernel, rfl⟩
theorem ee_G_countRottenPages_23 : zz_D mm_G_countRottenPages 23 (.getfield 20) 3 26 := ⟨by decide +kernel, rfl⟩
theorem ee_G_countRottenPages_26 : zz_D mm_G_countRottenPages 26 (.iload_n 2) 1 27 := ⟨by decide +kernel, rfl⟩
theorem ee_G_countRottenPages_27 : zz_D mm_G_countRottenPages 27 .iaload 1 28 := ⟨by decide +kernel, rfl⟩
theorem ee_G_countRottenPages_28 : zz_D mm_G_countRottenPages 28 (.bipush 20) 2 30 := ⟨by decide +kernel, rfl⟩
theorem ee_G_countRottenPages_30 : zz_D mm_G_countRottenPages 30 (.if_icmp .lt 7) 3 33 := ⟨by decide +kernel, rfl⟩
theorem ee_G_countRottenPages_33 : zz_D mm_G_countRottenPages 33 (.iconst 1) 1 34 := ⟨by decide +kernel, rfl⟩
theorem ee_G_countRottenPages_34 : zz_D mm_G_countRottenPages 34 (.goto 4) 3 37 := ⟨by decide +kernel, rfl⟩
theorem ee_G_countRottenPages_37 : zz_D mm_G_countRottenPages 37 (.iconst 0) 1 38 := ⟨by decide +kernel, rfl⟩
theorem ee_G_countRottenPages_38 : zz_D mm_G_countRottenPages 38 .iadd 1 39 := ⟨by decide +kernel, rfl⟩
theorem ee_G_countRottenPages_39 : zz_D mm_G_countRottenPages 39 (.istore_n 1) 1 40 := ⟨by decide +kernel, rfl⟩
theorem ee_G_countRottenPages_40 : zz_D mm_G_countRottenPages 40 (.iinc 2 1) 3 43 := ⟨by decide +kernel, rfl⟩
theorem ee_G_countRottenPages_43 : zz_D mm_G_countRottenPages 43 (.goto (-39)) 3 46 := ⟨by decide +kernel, rfl⟩
theorem ee_G_countRottenPages_46 : zz_D mm_G_countRottenPages 46 (.iload_n 1) 1 47 := ⟨by decide +kernel, rfl⟩
theorem ee_G_countRottenPages_47 : zz_D mm_G_countRottenPages 47 .ireturn 1 48 := ⟨by decide +kernel, rfl⟩
theorem ee_G_copyFrom_0 : zz_D mm_G_copyFrom 0 (.aload_n 0) 1 1 := ⟨by decide +kernel, rfl⟩
theorem ee_G_copyFrom_1 : zz_D mm_G_copyFrom 1 (.getfield 14) 3 4 := ⟨by decide +kernel, rfl⟩
theorem ff_G_copyFrom_14 : zz_F mm_G_copyFrom 14 6 0 := ⟨by decide, zz_in 104 (by decide +kernel) rfl⟩
theorem ee_G_copyFrom_4 : zz_D mm_G_copyFrom 4 (.aload_n 1) 1 5 := ⟨by decide +kernel, rfl⟩
theorem ee_G_copyFrom_5 : zz_D mm_G_copyFrom 5 (.getfield 14) 3 8 := ⟨by decide +kernel, rfl⟩
theorem ee_G_copyFrom_8 : zz_D mm_G_copyFrom 8 (.invokevirtual 40) 3 11 := ⟨by decide +kernel, rfl⟩
theorem kk_G_copyFrom_40 : zz_kV mm_G_copyFrom mm_T_copyFrom 40 1 := ⟨⟨zz_in 392 (by decide +kernel) rfl, zz_in 20 (by decide +kernel) rfl, by decide +kernel, by decide, by decide⟩, rfl, zz_in 389 (by decide +kernel) rfl, zz_in 390 (by decide +kernel) rfl, zz_in 391 (by decide +kernel) rfl⟩
theorem ee_G_copyFrom_11 : zz_D mm_G_copyFrom 11 (.iconst 0) 1 12 := ⟨by decide +kernel, rfl⟩
theorem ee_G_copyFrom_12 : zz_D mm_G_copyFrom 12 (.istore_n 2) 1 13 := ⟨by decide +kernel, rfl⟩
theorem ee_G_copyFrom_13 : zz_D mm_G_copyFrom 13 (.iload_n 2) 1 14 := ⟨by decide +kernel, rfl⟩
theorem ee_G_copyFrom_14 : zz_D mm_G_copyFrom 14 (.aload_n 0) 1 15 := ⟨by decide +kernel, rfl⟩
theorem ee_G_copyFrom_15 : zz_D mm_G_copyFrom 15 (.getfield 20) 3 18 := ⟨by decide +kernel, rfl⟩
theorem ff_G_copyFrom_20 : zz_F mm_G_copyFrom 20 6 1 := ⟨by decide, zz_in 108 (by decide +kernel) rfl⟩
theorem ee_G_copyFrom_18 : zz_D mm_G_copyFrom 18 .arraylength 1 19 := ⟨by decide +kernel, rfl⟩
theorem ee_G_copyFrom_19 : zz_D mm_G_copyFrom 19 (.if_icmp .ge 30) 3 22 := ⟨by decide +kernel, rfl⟩
theorem ee_G_copyFrom_22 : zz_D mm_G_copyFrom 22 (.iload_n 2) 1 23 := ⟨by decide +kernel, rfl⟩
theorem ee_G_copyFrom_23 : zz_D mm_G_copyFrom 23 (.aload_n 1) 1 24 := ⟨by decide +kernel, rfl⟩
theorem ee_G_copyFrom_24 : zz_D mm_G_copyFrom 24 (.getfield 20) 3 27 := ⟨by decide +kernel, rfl⟩
theorem ee_G_copyFrom_27 : zz_D mm_G_copyFrom 27 .arraylength 1 28 := ⟨by decide +kernel, rfl⟩
theorem ee_G_copyFrom_28 : zz_D mm_G_copyFrom 28 (.if_icmp .ge 21) 3 31 := ⟨by decide +kernel, rfl⟩
theorem ee_G_copyFrom_31 : zz_D mm_G_copyFrom 31 (.aload_n 0) 1 32 := ⟨by decide +kernel, rfl⟩
theorem ee_G_copyFrom_32 : zz_D mm_G_copyFrom 32 (.getfield 20) 3 35 := ⟨by decide +kernel, rfl⟩
theorem ee_G_copyFrom_35 : zz_D mm_G_copyFrom 35 (.iload_n 2) 1 36 := ⟨by decide +kernel, rfl⟩
theorem ee_G_copyFrom_36 : zz_D mm_G_copyFrom 36 (.aload_n 1) 1 37 := ⟨by decide +kernel, rfl⟩
theorem ee_G_copyFrom_37 : zz_D mm_G_copyFrom 37 (.getfield 20) 3 40 := ⟨by decide +kernel, rfl⟩
theorem ee_G_copyFrom_40 : zz_D mm_G_copyFrom 40 (.iload_n 2) 1 41 := ⟨by decide +kernel, rfl⟩
theorem ee_G_copyFrom_41 : zz_D mm_G_copyFrom 41 .iaload 1 42 := ⟨by decide +kernel, rfl⟩
theorem ee_G_copyFrom_42 : zz_D mm_G_copyFrom 42 .iastore 1 43 := ⟨by decide +kernel, rfl⟩
theorem ee_G_copyFrom_43 : zz_D mm_G_copyFrom 43 (.iinc 2 1) 3 46 := ⟨by decide +kernel, rfl⟩
theorem ee_G_copyFrom_46 : zz_D mm_G_copyFrom 46 (.goto (-33)) 3 49 := ⟨by decide +kernel, rfl⟩
theorem ee_G_copyFrom_49 : zz_D mm_G_copyFrom 49 (.aload_n 0) 1 50 := ⟨by decide +kernel, rfl⟩
theorem ee_G_copyFrom_50 : zz_D mm_G_copyFrom 50 (.aload_n 1) 1 51 := ⟨by decide +kernel, rfl⟩
theorem ee_G_copyFrom_51 : zz_D mm_G_copyFrom 51 (.getfield 24) 3 54 := ⟨by decide +kernel, rfl⟩
theorem ff_G_copyFrom_24 : zz_F mm_G_copyFrom 24 6 2 := ⟨by decide, zz_in 109 (by decide +kernel) rfl⟩
theorem ee_G_copyFrom_54 : zz_D mm_G_copyFrom 54 (.putfield 24) 3 57 := ⟨by decide +kernel, rfl⟩
theorem ee_G_copyFrom_57 : zz_D mm_G_copyFrom 57 (.aload_n 0) 1 58 := ⟨by decide +kernel, rfl⟩
theorem ee_G_copyFrom_58 : zz_D mm_G_copyFrom 58 (.aload_n 1) 1 59 := ⟨by decide +kernel, rfl⟩
theorem ee_G_copyFrom_59 : zz_D mm_G_copyFrom 59 (.getfield 28) 3 62 := ⟨by decide +kernel, rfl⟩
theorem ff_G_copyFrom_28 : zz_F mm_G_copyFrom 28 6 3 := ⟨by decide, zz_in 113 (by decide +kernel) rfl⟩
theorem ee_G_copyFrom_62 : zz_D mm_G_copyFrom 62 (.putfield 28) 3 65 := ⟨by decide +kernel, rfl⟩
theorem ee_G_copyFrom_65 : zz_D mm_G_copyFrom 65 (.aload_n 0) 1 66 := ⟨by decide +kernel, rfl⟩
theorem ee_G_copyFrom_66 : zz_D mm_G_copyFrom 66 (.aload_n 1) 1 67 := ⟨by decide +kernel, rfl⟩
theorem ee_G_copyFrom_67 : zz_D mm_G_copyFrom 67 (.getfield 31) 3 70 := ⟨by decide +kernel, rfl⟩
theorem ff_G_copyFrom_31 : zz_F mm_G_copyFrom 31 6 4 := ⟨by decide, zz_in 117 (by decide +kernel) rfl⟩
theorem ee_G_copyFrom_70 : zz_D mm_G_copyFrom 70 (.putfield 31) 3 73 := ⟨by decide +kernel, rfl⟩
theorem ee_G_copyFrom_73 : zz_D mm_G_copyFrom 73 (.aload_n 0) 1 74 := ⟨by decide +kernel, rfl⟩
theorem ee_G_copyFrom_74 : zz_D mm_G_copyFrom 74 (.aload_n 1) 1 75 := ⟨by decide +kernel, rfl⟩
theorem ee_G_copyFrom_75 : zz_D mm_G_copyFrom 75 (.getfield 34) 3 78 := ⟨by decide +kernel, rfl⟩
theorem ff_G_copyFrom_34 : zz_F mm_G_copyFrom 34 6 5 := ⟨by decide, zz_in 121 (by decide +kernel) rfl⟩
theorem ee_G_copyFrom_78 : zz_D mm_G_copyFrom 78 (.putfield 34) 3 81 := ⟨by decide +kernel, rfl⟩
theorem ee_G_copyFrom_81 : zz_D mm_G_copyFrom 81 (.aload_n 0) 1 82 := ⟨by decide +kernel, rfl⟩
theorem ee_G_copyFrom_82 : zz_D mm_G_copyFrom 82 (.aload_n 1) 1 83 := ⟨by decide +kernel, rfl⟩
theorem ee_G_copyFrom_83 : zz_D mm_G_copyFrom 83 (.getfield 37) 3 86 := ⟨by decide +kernel, rfl⟩
theorem ff_G_copyFrom_37 : zz_F mm_G_copyFrom 37 6 6 := ⟨by decide, zz_in 123 (by decide +kernel) rfl⟩
theorem ee_G_copyFrom_86 : zz_D mm_G_copyFrom 86 (.putfield 37) 3 89 := ⟨by decide +kernel, rfl⟩
theorem ee_G_copyFrom_89 : zz_D mm_G_copyFrom 89 .return_ 1 90 := ⟨by decide +kernel, rfl⟩
theorem ee_T_copyFrom_0 : zz_D mm_T_copyFrom 0 (.aload_n 0) 1 1 := ⟨by decide +kernel, rfl⟩
theorem ee_T_copyFrom_1 : zz_D mm_T_copyFrom 1 (.aload_n 1) 1 2 := ⟨by decide +kernel, rfl⟩
theorem ee_T_copyFrom_2 : zz_D mm_T_copyFrom 2 (.getfield 9) 3 5 := ⟨by decide +kernel, rfl⟩
theorem ff_T_copyFrom_9 : zz_F mm_T_copyFrom 9 7 1 := ⟨by decide, zz_in 70 (by decide +kernel) rfl⟩
theorem ee_T_copyFrom_5 : zz_D mm_T_copyFrom 5 (.aload_n 1) 1 6 := ⟨by decide +kernel, rfl⟩
theorem ee_T_copyFrom_6 : zz_D mm_T_copyFrom 6 (.getfield 21) 3 9 := ⟨by decide +kernel, rfl⟩
theorem ff_T_copyFrom_21 : zz_F mm_T_copyFrom 21 7 0 := ⟨by decide, zz_in 69 (by decide +kernel) rfl⟩
theorem ee_T_copyFrom_9 : zz_D mm_T_copyFrom 9 .arraylength 1 10 := ⟨by decide +kernel, rfl⟩
theorem ee_T_copyFrom_10 : zz_D mm_T_copyFrom 10 (.aload_n 0) 1 11 := ⟨by decide +kernel, rfl⟩
theorem ee_T_copyFrom_11 : zz_D mm_T_copyFrom 11 (.getfield 21) 3 14 := ⟨by decide +kernel, rfl⟩
theorem ee_T_copyFrom_14 : zz_D mm_T_copyFrom 14 .arraylength 1 15 := ⟨by decide +kernel, rfl⟩
theorem ee_T_copyFrom_15 : zz_D mm_T_copyFrom 15 (.invokestatic 38) 3 18 := ⟨by decide +kernel, rfl⟩
theorem kk_T_copyFrom_38 : zz_kS mm_T_copyFrom mm_JM_min 38 2 := ⟨⟨zz_in 395 (by decide +kernel) rfl, zz_in 21 (by decide +kernel) rfl, by decide +kernel, by decide, by decide⟩, rfl, zz_in 393 (by decide +kernel) rfl, zz_in 394 (by decide +kernel) rfl⟩
theorem ee_T_copyFrom_18 : zz_D mm_T_copyFrom 18 (.invokestatic 38) 3 21 := ⟨by decide +kernel, rfl⟩
theorem ee_T_copyFrom_21 : zz_D mm_T_copyFrom 21 (.putfield 9) 3 24 := ⟨by decide +kernel, rfl⟩
theorem ee_T_copyFrom_24 : zz_D mm_T_copyFrom 24 (.aload_n 1) 1 25 := ⟨by decide +kernel, rfl⟩
theorem ee_T_copyFrom_25 : zz_D mm_T_copyFrom 25 (.getfield 21) 3 28 := ⟨by decide +kernel, rfl⟩
theorem ee_T_copyFrom_28 : zz_D mm_T_copyFrom 28 (.iconst 0) 1 29 := ⟨by decide +kernel, rfl⟩
theorem ee_T_copyFrom_29 : zz_D mm_T_copyFrom 29 (.aload_n 0) 1 30 := ⟨by decide +kernel, rfl⟩
theorem ee_T_copyFrom_30 : zz_D mm_T_copyFrom 30 (.getfield 21) 3 33 := ⟨by decide +kernel, rfl⟩
theorem ee_T_copyFrom_33 : zz_D mm_T_copyFrom 33 (.iconst 0) 1 34 := ⟨by decide +kernel, rfl⟩
theorem ee_T_copyFrom_34 : zz_D mm_T_copyFrom 34 (.aload_n 0) 1 35 := ⟨by decide +kernel, rfl⟩
theorem ee_T_copyFrom_35 : zz_D mm_T_copyFrom 35 (.getfield 9) 3 38 := ⟨by decide +kernel, rfl⟩
theorem ee_T_copyFrom_38 : zz_D mm_T_copyFrom 38 (.invokestatic 41) 3 41 := ⟨by decide +kernel, rfl⟩
theorem cc_T_copyFrom_41 : Cond.methodLink (zz_y mm_T_copyFrom).cls 41 arraycopyName ∈ zz_gw := zz_in 396 (by decide +kernel) rfl
theorem ee_T_copyFrom_41 : zz_D mm_T_copyFrom 41 .return_ 1 42 := ⟨by decide +kernel, rfl⟩
theorem ee_H_prepare_0 : zz_D mm_H_prepare 0 (.aload_n 0) 1 1 := ⟨by decide +kernel, rfl⟩
theorem ee_H_prepare_1 : zz_D mm_H_prepare 1 (.invokevirtual 31) 3 4 := ⟨by decide +kernel, rfl⟩
theorem kk_H_prepare_31 : zz_kV mm_H_prepare mm_H_spare 31 0 := ⟨⟨zz_in 514 (by decide +kernel) rfl, zz_in 25 (by decide +kernel) rfl, by decide +kernel, by decide, by decide⟩, rfl, zz_in 511 (by decide +kernel) rfl, zz_in 512 (by decide +kernel) rfl, zz_in 513 (by decide +kernel) rfl⟩
theorem ee_H_prepare_4 : zz_D mm_H_prepare 4 (.aload_n 1) 1 5 := ⟨by decide +kernel, rfl⟩
theorem ee_H_prepare_5 : zz_D mm_H_prepare 5 (.invokevirtual 35) 3 8 := ⟨by decide +kernel, rfl⟩
theorem kk_H_prepare_35 : zz_kV mm_H_prepare mm_S_copyFrom 35 1 := ⟨⟨zz_in 372 (by decide +kernel) rfl, zz_in 23 (by decide +kernel) rfl, by decide +kernel, by decide, by decide⟩, rfl, zz_in 518 (by decide +kernel) rfl, zz_in 370 (by decide +kernel) rfl, zz_in 371 (by decide +kernel) rfl⟩
theorem ee_H_prepare_8 : zz_D mm_H_prepare 8 .return_ 1 9 := ⟨by decide +kernel, rfl⟩
theorem ee_H_spare_0 : zz_D mm_H_spare 0 (.aload_n 0) 1 1 := ⟨by decide +kernel, rfl⟩
theorem ee_H_spare_1 : zz_D mm_H_spare 1 (.getfield 13) 3 4 := ⟨by decide +kernel, rfl⟩
theorem ff_H_spare_13 : zz_F mm_H_spare 13 4 0 := ⟨by decide, zz_in 202 (by decide +kernel) rfl⟩
theorem ee_H_spare_4 : zz_D mm_H_spare 4 (.aload_n 0) 1 5 := ⟨by decide +kernel, rfl⟩
theorem ee_H_spare_5 : zz_D mm_H_spare 5 (.getfield 17) 3 8 := ⟨by decide +kernel, rfl⟩
theorem ff_H_spare_17 : zz_F mm_H_spare 17 4 1 := ⟨by decide, zz_in 203 (by decide +kernel) rfl⟩
theorem ee_H_spare_8 : zz_D mm_H_spare 8 (.aload_n 0) 1 9 := ⟨by decide +kernel, rfl⟩
theorem ee_H_spare_9 : zz_D mm_H_spare 9 (.getfield 21) 3 12 := ⟨by decide +kernel, rfl⟩
theorem ff_H_spare_21 : zz_F mm_H_spare 21 4 2 := ⟨by decide, zz_in 204 (by decide +kernel) rfl⟩
theorem ee_H_spare_12 : zz_D mm_H_spare 12 .iadd 1 13 := ⟨by decide +kernel, rfl⟩
theorem ee_H_spare_13 : zz_D mm_H_spare 13 (.bipush 9) 2 15 := ⟨by decide +kernel, rfl⟩
theorem ee_H_spare_15 : zz_D mm_H_spare 15 (.invokestatic 25) 3 18 := ⟨by decide +kernel, rfl⟩
theorem kk_H_spare_25 : zz_kS mm_H_spare mm_JM_floorMod 25 2 := ⟨⟨zz_in 517 (by decide +kernel) rfl, zz_in 21 (by decide +kernel) rfl, by decide +kernel, by decide, by decide⟩, rfl, zz_in 515 (by decide +kernel) rfl, zz_in 516 (by decide +kernel) rfl⟩
theorem ee_H_spare_18 : zz_D mm_H_spare 18 .aaload 1 19 := ⟨by decide +kernel, rfl⟩
theorem ee_H_spare_19 : zz_D mm_H_spare 19 .areturn 1 20 := ⟨by decide +kernel, rfl⟩
theorem ee_D_note_0 : zz_D mm_D_note 0 (.aload_n 0) 1 1 := ⟨by decide +kernel, rfl⟩
theorem ee_D_note_1 : zz_D mm_D_note 1 (.iload_n 1) 1 2 := ⟨by decide +kernel, rfl⟩
theorem ee_D_note_2 : zz_D mm_D_note 2 (.putfield 9) 3 5 := ⟨by decide +kernel, rfl⟩
theorem ff_D_note_9 : zz_F mm_D_note 9 3 0 := ⟨by decide, zz_in 242 (by decide +kernel) rfl⟩
theorem ee_D_note_5 : zz_D mm_D_note 5 (.aload_n 0) 1 6 := ⟨by decide +kernel, rfl⟩
theorem ee_D_note_6 : zz_D mm_D_note 6 (.iload_n 2) 1 7 := ⟨by decide +kernel, rfl⟩
theorem ee_D_note_7 : zz_D mm_D_note 7 (.putfield 15) 3 10 := ⟨by decide +kernel, rfl⟩
theorem ff_D_note_15 : zz_F mm_D_note 15 3 1 := ⟨by decide, zz_in 244 (by decide +kernel) rfl⟩
theorem ee_D_note_10 : zz_D mm_D_note 10 (.aload_n 0) 1 11 := ⟨by decide +kernel, rfl⟩
theorem ee_D_note_11 : zz_D mm_D_note 11 (.iload_n 3) 1 12 := ⟨by decide +kernel, rfl⟩
theorem ee_D_note_12 : zz_D mm_D_note 12 (.putfield 18) 3 15 := ⟨by decide +kernel, rfl⟩
theorem ff_D_note_18 : zz_F mm_D_note 18 3 2 := ⟨by decide, zz_in 246 (by decide +kernel) rfl⟩
theorem ee_D_note_15 : zz_D mm_D_note 15 .return_ 1 16 := ⟨by decide +kernel, rfl⟩
theorem ee_H_keep_0 : zz_D mm_H_keep 0 (.aload_n 0) 1 1 := ⟨by decide +kernel, rfl⟩
theorem ee_H_keep_1 : zz_D mm_H_keep 1 (.getfield 21) 3 4 := ⟨by decide +kernel, rfl⟩
theorem ff_H_keep_21 : zz_F mm_H_keep 21 4 2 := ⟨by decide, zz_in 204 (by decide +kernel) rfl⟩
theorem ee_H_keep_4 : zz_D mm_H_keep 4 (.bipush 8) 2 6 := ⟨by decide +kernel, rfl⟩
theorem ee_H_keep_6 : zz_D mm_H_keep 6 (.if_icmp .ge 16) 3 9 := ⟨by decide +kernel, rfl⟩
theorem ee_H_keep_9 : zz_D mm_H_keep 9 (.aload_n 0) 1 10 := ⟨by decide +kernel, rfl⟩
theorem ee_H_keep_10 : zz_D mm_H_keep 10 .dup 1 11 := ⟨by decide +kernel, rfl⟩
theorem ee_H_keep_11 : zz_D mm_H_keep 11 (.getfield 21) 3 14 := ⟨by decide +kernel, rfl⟩
theorem ee_H_keep_14 : zz_D mm_H_keep 14 (.iconst 1) 1 15 := ⟨by decide +kernel, rfl⟩
theorem ee_H_keep_15 : zz_D mm_H_keep 15 .iadd 1 16 := ⟨by decide +kernel, rfl⟩
theorem ee_H_keep_16 : zz_D mm_H_keep 16 (.putfield 21) 3 19 := ⟨by decide +kernel, rfl⟩
theorem ee_H_keep_19 : zz_D mm_H_keep 19 (.goto 18) 3 22 := ⟨by decide +kernel, rfl⟩
theorem ee_H_keep_22 : zz_D mm_H_keep 22 (.aload_n 0) 1 23 := ⟨by decide +kernel, rfl⟩
theorem ee_H_keep_23 : zz_D mm_H_keep 23 (.aload_n 0) 1 24 := ⟨by decide +kernel, rfl⟩
theorem ee_H_keep_24 : zz_D mm_H_keep 24 (.getfield 17) 3 27 := ⟨by decide +kernel, rfl⟩
theorem ff_H_keep_17 : zz_F mm_H_keep 17 4 1 := ⟨by decide, zz_in 203 (by decide +kernel) rfl⟩
theorem ee_H_keep_27 : zz_D mm_H_keep 27 (.iconst 1) 1 28 := ⟨by decide +kernel, rfl⟩
theorem ee_H_keep_28 : zz_D mm_H_keep 28 .iadd 1 29 := ⟨by decide +kernel, rfl⟩
theorem ee_H_keep_29 : zz_D mm_H_keep 29 (.bipush 9) 2 31 := ⟨by decide +kernel, rfl⟩
theorem ee_H_keep_31 : zz_D mm_H_keep 31 (.invokestatic 25) 3 34 := ⟨by decide +kernel, rfl⟩
theorem kk_H_keep_25 : zz_kS mm_H_keep mm_JM_floorMod 25 2 := ⟨⟨zz_in 517 (by decide +kernel) rfl, zz_in 21 (by decide +kernel) rfl, by decide +kernel, by decide, by decide⟩, rfl, zz_in 515 (by decide +kernel) rfl, zz_in 516 (by decide +kernel) rfl⟩
theorem ee_H_keep_34 : zz_D mm_H_keep 34 (.putfield 17) 3 37 := ⟨by decide +kernel, rfl⟩
theorem ee_H_keep_37 : zz_D mm_H_keep 37 .return_ 1 38 := ⟨by decide +kernel, rfl⟩
theorem ee_G_pagesFor_0 : zz_D mm_G_pagesFor 0 (.iload_n 0) 1 1 := ⟨by decide +kernel, rfl⟩
theorem ee_G_pagesFor_1 : zz_D mm_G_pagesFor 1 (.bipush 12) 2 3 := ⟨by decide +kernel, rfl⟩
theorem ee_G_pagesFor_3 : zz_D mm_G_pagesFor 3 .iadd 1 4 := ⟨by decide +kernel, rfl⟩
theorem ee_G_pagesFor_4 : zz_D mm_G_pagesFor 4 (.iconst 1) 1 5 := ⟨by decide +kernel, rfl⟩
theorem ee_G_pagesFor_5 : zz_D mm_G_pagesFor 5 .isub 1 6 := ⟨by decide +kernel, rfl⟩
theorem ee_G_pagesFor_6 : zz_D mm_G_pagesFor 6 (.bipush 12) 2 8 := ⟨by decide +kernel, rfl⟩
theorem ee_G_pagesFor_8 : zz_D mm_G_pagesFor 8 .idiv 1 9 := ⟨by decide +kernel, rfl⟩
theorem ee_G_pagesFor_9 : zz_D mm_G_pagesFor 9 .ireturn 1 10 := ⟨by decide +kernel, rfl⟩
theorem ee_G_inscribe_0 : zz_D mm_G_inscribe 0 (.aload_n 0) 1 1 := ⟨by decide +kernel, rfl⟩
theorem ee_G_inscribe_1 : zz_D mm_G_inscribe 1 (.getfield 14) 3 4 := ⟨by decide +kernel, rfl⟩
theorem ff_G_inscribe_14 : zz_F mm_G_inscribe 14 6 0 := ⟨by decide, zz_in 104 (by decide +kernel) rfl⟩
theorem ee_G_inscribe_4 : zz_D mm_G_inscribe 4 (.aload_n 1) 1 5 := ⟨by decide +kernel, rfl⟩
theorem ee_G_inscribe_5 : zz_D mm_G_inscribe 5 (.invokevirtual 40) 3 8 := ⟨by decide +kernel, rfl⟩
theorem kk_G_inscribe_40 : zz_kV mm_G_inscribe mm_T_copyFrom 40 1 := ⟨⟨zz_in 392 (by decide +kernel) rfl, zz_in 20 (by decide +kernel) rfl, by decide +kernel, by decide, by decide⟩, rfl, zz_in 389 (by decide +kernel) rfl, zz_in 390 (by decide +kernel) rfl, zz_in 391 (by decide +kernel) rfl⟩
theorem ee_G_inscribe_8 : zz_D mm_G_inscribe 8 (.aload_n 0) 1 9 := ⟨by decide +kernel, rfl⟩
theorem ee_G_inscribe_9 : zz_D mm_G_inscribe 9 (.aload_n 0) 1 10 := ⟨by decide +kernel, rfl⟩
theorem ee_G_inscribe_10 : zz_D mm_G_inscribe 10 (.getfield 14) 3 13 := ⟨by decide +kernel, rfl⟩
theorem ee_G_inscribe_13 : zz_D mm_G_inscribe 13 (.getfield 44) 3 16 := ⟨by decide +kernel, rfl⟩
theorem ff_G_inscribe_44 : zz_F mm_G_inscribe 44 7 1 := ⟨by decide, zz_in 74 (by decide +kernel) rfl⟩
theorem ee_G_inscribe_16 : zz_D mm_G_inscribe 16 (.invokestatic 47) 3 19 := ⟨by decide +kernel, rfl⟩
theorem kk_G_inscribe_47 : zz_kS mm_G_inscribe mm_G_pagesFor 47 1 := ⟨⟨zz_in 656 (by decide +kernel) rfl, zz_in 24 (by decide +kernel) rfl, by decide +kernel, by decide, by decide⟩, rfl, zz_in 673 (by decide +kernel) rfl, zz_in 655 (by decide +kernel) rfl⟩
theorem ee_G_inscribe_19 : zz_D mm_G_inscribe 19 (.putfield 24) 3 22 := ⟨by decide +kernel, rfl⟩
theorem ff_G_inscribe_24 : zz_F mm_G_inscribe 24 6 2 := ⟨by decide, zz_in 109 (by decide +kernel) rfl⟩
theorem ee_G_inscribe_22 : zz_D mm_G_inscribe 22 (.iconst 0) 1 23 := ⟨by decide +kernel, rfl⟩
theorem ee_G_inscribe_23 : zz_D mm_G_inscribe 23 (.istore_n 2) 1 24 := ⟨by decide +kernel, rfl⟩
theorem ee_G_inscribe_24 : zz_D mm_G_inscribe 24 (.iload_n 2) 1 25 := ⟨by decide +kernel, rfl⟩
theorem ee_G_inscribe_25 : zz_D mm_G_inscribe 25 (.aload_n 0) 1 26 := ⟨by decide +kernel, rfl⟩
theorem ee_G_inscribe_26 : zz_D mm_G_inscribe 26 (.getfield 20) 3 29 := ⟨by decide +kernel, rfl⟩
theorem ff_G_inscribe_20 : zz_F mm_G_inscribe 20 6 1 := ⟨by decide, zz_in 108 (by decide +kernel) rfl⟩
theorem ee_G_inscribe_29 : zz_D mm_G_inscribe 29 .arraylength 1 30 := ⟨by decide +kernel, rfl⟩
theorem ee_G_inscribe_30 : zz_D mm_G_inscribe 30 (.if_icmp .ge 16) 3 33 := ⟨by decide +kernel, rfl⟩
theorem ee_G_inscribe_33 : zz_D mm_G_inscribe 33 (.aload_n 0) 1 34 := ⟨by decide +kernel, rfl⟩
theorem ee_G_inscribe_34 : zz_D mm_G_inscribe 34 (.getfield 20) 3 37 := ⟨by decide +kernel, rfl⟩
theorem ee_G_inscribe_37 : zz_D mm_G_inscribe 37 (.iload_n 2) 1 38 := ⟨by decide +kernel, rfl⟩
theorem ee_G_inscribe_38 : zz_D mm_G_inscribe 38 (.iconst 0) 1 39 := ⟨by decide +kernel, rfl⟩
theorem ee_G_inscribe_39 : zz_D mm_G_inscribe 39 .iastore 1 40 := ⟨by decide +kernel, rfl⟩
theorem ee_G_inscribe_40 : zz_D mm_G_inscribe 40 (.iinc 2 1) 3 43 := ⟨by decide +kernel, rfl⟩
theorem ee_G_inscribe_43 : zz_D mm_G_inscribe 43 (.goto (-19)) 3 46 := ⟨by decide +kernel, rfl⟩
theorem ee_G_inscribe_46 : zz_D mm_G_inscribe 46 .return_ 1 47 := ⟨by decide +kernel, rfl⟩
theorem ee_G_rotBy_0 : zz_D mm_G_rotBy 0 (.aload_n 0) 1 1 := ⟨by decide +kernel, rfl⟩
theorem ee_G_rotBy_1 : zz_D mm_G_rotBy 1 (.invokevirtual 55) 3 4 := ⟨by decide +kernel, rfl⟩
theorem kk_G_rotBy_55 : zz_kV mm_G_rotBy mm_G_countRottenPages 55 0 := ⟨⟨zz_in 352 (by decide +kernel) rfl, zz_in 24 (by decide +kernel) rfl, by decide +kernel, by decide, by decide⟩, rfl, zz_in 713 (by decide +kernel) rfl, zz_in 350 (by decide +kernel) rfl, zz_in 351 (by decide +kernel) rfl⟩
theorem ee_G_rotBy_4 : zz_D mm_G_rotBy 4 (.istore_n 2) 1 5 := ⟨by decide +kernel, rfl⟩
theorem ee_G_rotBy_5 : zz_D mm_G_rotBy 5 (.iconst 0) 1 6 := ⟨by decide +kernel, rfl⟩
theorem ee_G_rotBy_6 : zz_D mm_G_rotBy 6 (.istore_n 3) 1 7 := ⟨by decide +kernel, rfl⟩
theorem ee_G_rotBy_7 : zz_D mm_G_rotBy 7 (.iload_n 3) 1 8 := ⟨by decide +kernel, rfl⟩
theorem ee_G_rotBy_8 : zz_D mm_G_rotBy 8 (.aload_n 0) 1 9 := ⟨by decide +kernel, rfl⟩
theorem ee_G_rotBy_9 : zz_D mm_G_rotBy 9 (.getfield 24) 3 12 := ⟨by decide +kernel, rfl⟩
theorem ff_G_rotBy_24 : zz_F mm_G_rotBy 24 6 2 := ⟨by decide, zz_in 109 (by decide +kernel) rfl⟩
theorem ee_G_rotBy_12 : zz_D mm_G_rotBy 12 (.if_icmp .ge 37) 3 15 := ⟨by decide +kernel, rfl⟩
theorem ee_G_rotBy_15 : zz_D mm_G_rotBy 15 (.iload_n 3) 1 16 := ⟨by decide +kernel, rfl⟩
theorem ee_G_rotBy_16 : zz_D mm_G_rotBy 16 (.aload_n 0) 1 17 := ⟨by decide +kernel, rfl⟩
theorem ee_G_rotBy_17 : zz_D mm_G_rotBy 17 (.getfield 20) 3 20 := ⟨by decide +kernel, rfl⟩
theorem ff_G_rotBy_20 : zz_F mm_G_rotBy 20 6 1 := ⟨by decide, zz_in 108 (by decide +kernel) rfl⟩
theorem ee_G_rotBy_20 : zz_D mm_G_rotBy 20 .arraylength 1 21 := ⟨by decide +kernel, rfl⟩
theorem ee_G_rotBy_21 : zz_D mm_G_rotBy 21 (.if_icmp .ge 28) 3 24 := ⟨by decide +kernel, rfl⟩
theorem ee_G_rotBy_24 : zz_D mm_G_rotBy 24 (.aload_n 0) 1 25 := ⟨by decide +kernel, rfl⟩
theorem ee_G_rotBy_25 : zz_D mm_G_rotBy 25 (.getfield 20) 3 28 := ⟨by decide +kernel, rfl⟩
theorem ee_G_rotBy_28 : zz_D mm_G_rotBy 28 (.iload_n 3) 1 29 := ⟨by decide +kernel, rfl⟩
theorem ee_G_rotBy_29 : zz_D mm_G_rotBy 29 (.aload_n 0) 1 30 := ⟨by decide +kernel, rfl⟩
theorem ee_G_rotBy_30 : zz_D mm_G_rotBy 30 (.getfield 20) 3 33 := ⟨by decide +kernel, rfl⟩
theorem ee_G_rotBy_33 : zz_D mm_G_rotBy 33 (.iload_n 3) 1 34 := ⟨by decide +kernel, rfl⟩
theorem ee_G_rotBy_34 : zz_D mm_G_rotBy 34 .iaload 1 35 := ⟨by decide +kernel, rfl⟩
theorem ee_G_rotBy_35 : zz_D mm_G_rotBy 35 (.iload_n 1) 1 36 := ⟨by decide +kernel, rfl⟩
theorem ee_G_rotBy_36 : zz_D mm_G_rotBy 36 .iadd 1 37 := ⟨by decide +kernel, rfl⟩
theorem ee_G_rotBy_37 : zz_D mm_G_rotBy 37 (.bipush 20) 2 39 := ⟨by decide +kernel, rfl⟩
theorem ee_G_rotBy_39 : zz_D mm_G_rotBy 39 (.invokestatic 59) 3 42 := ⟨by decide +kernel, rfl⟩
theorem kk_G_rotBy_59 : zz_kS mm_G_rotBy mm_JM_min 59 2 := ⟨⟨zz_in 395 (by decide +kernel) rfl, zz_in 21 (by decide +kernel) rfl, by decide +kernel, by decide, by decide⟩, rfl, zz_in 714 (by decide +kernel) rfl, zz_in 394 (by decide +kernel) rfl⟩
theorem ee_G_rotBy_42 : zz_D mm_G_rotBy 42 .iastore 1 43 := ⟨by decide +kernel, rfl⟩
theorem ee_G_rotBy_43 : zz_D mm_G_rotBy 43 (.iinc 3 1) 3 46 := ⟨by decide +kernel, rfl⟩
theorem ee_G_rotBy_46 : zz_D mm_G_rotBy 46 (.goto (-39)) 3 49 := ⟨by decide +kernel, rfl⟩
theorem ee_G_rotBy_49 : zz_D mm_G_rotBy 49 (.aload_n 0) 1 50 := ⟨by decide +kernel, rfl⟩
theorem ee_G_rotBy_50 : zz_D mm_G_rotBy 50 (.invokevirtual 55) 3 53 := ⟨by decide +kernel, rfl⟩
theorem ee_G_rotBy_53 : zz_D mm_G_rotBy 53 (.iload_n 2) 1 54 := ⟨by decide +kernel, rfl⟩
theorem ee_G_rotBy_54 : zz_D mm_G_rotBy 54 .isub 1 55 := ⟨by decide +kernel, rfl⟩
theorem ee_G_rotBy_55 : zz_D mm_G_rotBy 55 .ireturn 1 56 := ⟨by decide +kernel, rfl⟩
theorem ee_G_hasPage_0 : zz_D mm_G_hasPage 0 (.iload_n 1) 1 1 := ⟨by decide +kernel, rfl⟩
theorem ee_G_hasPage_1 : zz_D mm_G_hasPage 1 (.ifCond .lt 24) 3 4 := ⟨by decide +kernel, rfl⟩
theorem ee_G_hasPage_4 : zz_D mm_G_hasPage 4 (.iload_n 1) 1 5 := ⟨by decide +kernel, rfl⟩
theorem ee_G_hasPage_5 : zz_D mm_G_hasPage 5 (.aload_n 0) 1 6 := ⟨by decide +kernel, rfl⟩
theorem ee_G_hasPage_6 : zz_D mm_G_hasPage 6 (.getfield 24) 3 9 := ⟨by decide +kernel, rfl⟩
theorem ff_G_hasPage_24 : zz_F mm_G_hasPage 24 6 2 := ⟨by decide, zz_in 109 (by decide +kernel) rfl⟩
theorem ee_G_hasPage_9 : zz_D mm_G_hasPage 9 (.if_icmp .ge 16) 3 12 := ⟨by decide +kernel, rfl⟩
theorem ee_G_hasPage_12 : zz_D mm_G_hasPage 12 (.iload_n 1) 1 13 := ⟨by decide +kernel, rfl⟩
theorem ee_G_hasPage_13 : zz_D mm_G_hasPage 13 (.aload_n 0) 1 14 := ⟨by decide +kernel, rfl⟩
theorem ee_G_hasPage_14 : zz_D mm_G_hasPage 14 (.getfield 20) 3 17 := ⟨by decide +kernel, rfl⟩
theorem ff_G_hasPage_20 : zz_F mm_G_hasPage 20 6 1 := ⟨by decide, zz_in 108 (by decide +kernel) rfl⟩
theorem ee_G_hasPage_17 : zz_D mm_G_hasPage 17 .arraylength 1 18 := ⟨by decide +kernel, rfl⟩
theorem ee_G_hasPage_18 : zz_D mm_G_hasPage 18 (.if_icmp .ge 7) 3 21 := ⟨by decide +kernel, rfl⟩
theorem ee_G_hasPage_21 : zz_D mm_G_hasPage 21 (.iconst 1) 1 22 := ⟨by decide +kernel, rfl⟩
theorem ee_G_hasPage_22 : zz_D mm_G_hasPage 22 (.goto 4) 3 25 := ⟨by decide +kernel, rfl⟩
theorem ee_G_hasPage_25 : zz_D mm_G_hasPage 25 (.iconst 0) 1 26 := ⟨by decide +kernel, rfl⟩
theorem ee_G_hasPage_26 : zz_D mm_G_hasPage 26 .ireturn 1 27 := ⟨by decide +kernel, rfl⟩
theorem ee_G_rotAt_0 : zz_D mm_G_rotAt 0 (.aload_n 0) 1 1 := ⟨by decide +kernel, rfl⟩
theorem ee_G_rotAt_1 : zz_D mm_G_rotAt 1 (.iload_n 1) 1 2 := ⟨by decide +kernel, rfl⟩
theorem ee_G_rotAt_2 : zz_D mm_G_rotAt 2 (.invokevirtual 51) 3 5 := ⟨by decide +kernel, rfl⟩
theorem kk_G_rotAt_51 : zz_kV mm_G_rotAt mm_G_hasPage 51 1 := ⟨⟨zz_in 733 (by decide +kernel) rfl, zz_in 24 (by decide +kernel) rfl, by decide +kernel, by decide, by decide⟩, rfl, zz_in 738 (by decide +kernel) rfl, zz_in 731 (by decide +kernel) rfl, zz_in 732 (by decide +kernel) rfl⟩
theorem ee_G_rotAt_5 : zz_D mm_G_rotAt 5 (.ifCond .eq 12) 3 8 := ⟨by decide +kernel, rfl⟩
theorem ee_G_rotAt_8 : zz_D mm_G_rotAt 8 (.aload_n 0) 1 9 := ⟨by decide +kernel, rfl⟩
theorem ee_G_rotAt_9 : zz_D mm_G_rotAt 9 (.getfield 20) 3 12 := ⟨by decide +kernel, rfl⟩
theorem ff_G_rotAt_20 : zz_F mm_G_rotAt 20 6 1 := ⟨by decide, zz_in 108 (by decide +kernel) rfl⟩
theorem ee_G_rotAt_12 : zz_D mm_G_rotAt 12 (.iload_n 1) 1 13 := ⟨by decide +kernel, rfl⟩
theorem ee_G_rotAt_13 : zz_D mm_G_rotAt 13 .iaload 1 14 := ⟨by decide +kernel, rfl⟩
theorem ee_G_rotAt_14 : zz_D mm_G_rotAt 14 (.goto 4) 3 17 := ⟨by decide +kernel, rfl⟩
theorem ee_G_rotAt_17 : zz_D mm_G_rotAt 17 (.iconst 0) 1 18 := ⟨by decide +kernel, rfl⟩
theorem ee_G_rotAt_18 : zz_D mm_G_rotAt 18 .ireturn 1 19 := ⟨by decide +kernel, rfl⟩
theorem ee_G_findRottenPage_0 : zz_D mm_G_findRottenPage 0 (.iconst 0) 1 1 := ⟨by decide +kernel, rfl⟩
theorem ee_G_findRottenPage_1 : zz_D mm_G_findRottenPage 1 (.istore_n 1) 1 2 := ⟨by decide +kernel, rfl⟩
theorem ee_G_findRottenPage_2 : zz_D mm_G_findRottenPage 2 (.iload_n 1) 1 3 := ⟨by decide +kernel, rfl⟩
theorem ee_G_findRottenPage_3 : zz_D mm_G_findRottenPage 3 (.aload_n 0) 1 4 := ⟨by decide +kernel, rfl⟩
theorem ee_G_findRottenPage_4 : zz_D mm_G_findRottenPage 4 (.getfield 24) 3 7 := ⟨by decide +kernel, rfl⟩
theorem ff_G_findRottenPage_24 : zz_F mm_G_findRottenPage 24 6 2 := ⟨by decide, zz_in 109 (by decide +kernel) rfl⟩
theorem ee_G_findRottenPage_7 : zz_D mm_G_findRottenPage 7 (.if_icmp .ge 31) 3 10 := ⟨by decide +kernel, rfl⟩
theorem ee_G_findRottenPage_10 : zz_D mm_G_findRottenPage 10 (.iload_n 1) 1 11 := ⟨by decide +kernel, rfl⟩
theorem ee_G_findRottenPage_11 : zz_D mm_G_findRottenPage 11 (.aload_n 0) 1 12 := ⟨by decide +kernel, rfl⟩
theorem ee_G_findRottenPage_12 : zz_D mm_G_findRottenPage 12 (.getfield 20) 3 15 := ⟨by decide +kernel, rfl⟩
theorem ff_G_findRottenPage_20 : zz_F mm_G_findRottenPage 20 6 1 := ⟨by decide, zz_in 108 (by decide +kernel) rfl⟩
theorem ee_G_findRottenPage_15 : zz_D mm_G_findRottenPage 15 .arraylength 1 16 := ⟨by decide +kernel, rfl⟩
theorem ee_G_findRottenPage_16 : zz_D mm_G_findRottenPage 16 (.if_icmp .ge 22) 3 19 := ⟨by decide +kernel, rfl⟩
theorem ee_G_findRottenPage_19 : zz_D mm_G_findRottenPage 19 (.aload_n 0) 1 20 := ⟨by decide +kernel, rfl⟩
theorem ee_G_findRottenPage_20 : zz_D mm_G_findRottenPage 20 (.getfield 20) 3 23 := ⟨by decide +kernel, rfl⟩
theorem ee_G_findRottenPage_23 : zz_D mm_G_findRottenPage 23 (.iload_n 1) 1 24 := ⟨by decide +kernel, rfl⟩
theorem ee_G_findRottenPage_24 : zz_D mm_G_findRottenPage 24 .iaload 1 25 := ⟨by decide +kernel, rfl⟩
theorem ee_G_findRottenPage_25 : zz_D mm_G_findRottenPage 25 (.bipush 20) 2 27 := ⟨by decide +kernel, rfl⟩
theorem ee_G_findRottenPage_27 : zz_D mm_G_findRottenPage 27 (.if_icmp .lt 5) 3 30 := ⟨by decide +kernel, rfl⟩
theorem ee_G_findRottenPage_30 : zz_D mm_G_findRottenPage 30 (.iload_n 1) 1 31 := ⟨by decide +kernel, rfl⟩
theorem ee_G_findRottenPage_31 : zz_D mm_G_findRottenPage 31 .ireturn 1 32 := ⟨by decide +kernel, rfl⟩
theorem ee_G_findRottenPage_32 : zz_D mm_G_findRottenPage 32 (.iinc 1 1) 3 35 := ⟨by decide +kernel, rfl⟩
theorem ee_G_findRottenPage_35 : zz_D mm_G_findRottenPage 35 (.goto (-33)) 3 38 := ⟨by decide +kernel, rfl⟩
theorem ee_G_findRottenPage_38 : zz_D mm_G_findRottenPage 38 (.iconst (-1)) 1 39 := ⟨by decide +kernel, rfl⟩
theorem ee_G_findRottenPage_39 : zz_D mm_G_findRottenPage 39 .ireturn 1 40 := ⟨by decide +kernel, rfl⟩
theorem ee_H_takeBack_0 : zz_D mm_H_takeBack 0 (.aload_n 0) 1 1 := ⟨by decide +kernel, rfl⟩
theorem ee_H_takeBack_1 : zz_D mm_H_takeBack 1 (.getfield 21) 3 4 := ⟨by decide +kernel, rfl⟩
theorem ff_H_takeBack_21 : zz_F mm_H_takeBack 21 4 2 := ⟨by decide, zz_in 204 (by decide +kernel) rfl⟩
theorem ee_H_takeBack_4 : zz_D mm_H_takeBack 4 (.ifCond .le 21) 3 7 := ⟨by decide +kernel, rfl⟩
theorem ee_H_takeBack_7 : zz_D mm_H_takeBack 7 (.aload_n 0) 1 8 := ⟨by decide +kernel, rfl⟩
theorem ee_H_takeBack_8 : zz_D mm_H_takeBack 8 .dup 1 9 := ⟨by decide +kernel, rfl⟩
theorem ee_H_takeBack_9 : zz_D mm_H_takeBack 9 (.getfield 21) 3 12 := ⟨by decide +kernel, rfl⟩
theorem ee_H_takeBack_12 : zz_D mm_H_takeBack 12 (.iconst 1) 1 13 := ⟨by decide +kernel, rfl⟩
theorem ee_H_takeBack_13 : zz_D mm_H_takeBack 13 .isub 1 14 := ⟨by decide +kernel, rfl⟩
theorem ee_H_takeBack_14 : zz_D mm_H_takeBack 14 (.putfield 21) 3 17 := ⟨by decide +kernel, rfl⟩
theorem ee_H_takeBack_17 : zz_D mm_H_takeBack 17 (.aload_n 1) 1 18 := ⟨by decide +kernel, rfl⟩
theorem ee_H_takeBack_18 : zz_D mm_H_takeBack 18 (.aload_n 0) 1 19 := ⟨by decide +kernel, rfl⟩
theorem ee_H_takeBack_19 : zz_D mm_H_takeBack 19 (.invokevirtual 31) 3 22 := ⟨by decide +kernel, rfl⟩
theorem kk_H_takeBack_31 : zz_kV mm_H_takeBack mm_H_spare 31 0 := ⟨⟨zz_in 514 (by decide +kernel) rfl, zz_in 25 (by decide +kernel) rfl, by decide +kernel, by decide, by decide⟩, rfl, zz_in 511 (by decide +kernel) rfl, zz_in 512 (by decide +kernel) rfl, zz_in 513 (by decide +kernel) rfl⟩
theorem ee_H_takeBack_22 : zz_D mm_H_takeBack 22 (.invokevirtual 35) 3 25 := ⟨by decide +kernel, rfl⟩
theorem kk_H_takeBack_35 : zz_kV mm_H_takeBack mm_S_copyFrom 35 1 := ⟨⟨zz_in 372 (by decide +kernel) rfl, zz_in 23 (by decide +kernel) rfl, by decide +kernel, by decide, by decide⟩, rfl, zz_in 518 (by decide +kernel) rfl, zz_in 370 (by decide +kernel) rfl, zz_in 371 (by decide +kernel) rfl⟩
theorem ee_H_takeBack_25 : zz_D mm_H_takeBack 25 .return_ 1 26 := ⟨by decide +kernel, rfl⟩
theorem ee_H_forget_0 : zz_D mm_H_forget 0 (.aload_n 0) 1 1 := ⟨by decide +kernel, rfl⟩
theorem ee_H_forget_1 : zz_D mm_H_forget 1 (.iconst 0) 1 2 := ⟨by decide +kernel, rfl⟩
theorem ee_H_forget_2 : zz_D mm_H_forget 2 (.putfield 21) 3 5 := ⟨by decide +kernel, rfl⟩
theorem ff_H_forget_21 : zz_F mm_H_forget 21 4 2 := ⟨by decide, zz_in 204 (by decide +kernel) rfl⟩
theorem ee_H_forget_5 : zz_D mm_H_forget 5 .return_ 1 6 := ⟨by decide +kernel, rfl⟩
theorem ee_G_isAheadByPriority_0 : zz_D mm_G_isAheadByPriority 0 (.aload_n 0) 1 1 := ⟨by decide +kernel, rfl⟩
theorem ee_G_isAheadByPriority_1 : zz_D mm_G_isAheadByPriority 1 (.getfield 34) 3 4 := ⟨by decide +kernel, rfl⟩
theorem ff_G_isAheadByPriority_34 : zz_F mm_G_isAheadByPriority 34 6 5 := ⟨by decide, zz_in 121 (by decide +kernel) rfl⟩
theorem ee_G_isAheadByPriority_4 : zz_D mm_G_isAheadByPriority 4 (.aload_n 1) 1 5 := ⟨by decide +kernel, rfl⟩
theorem ee_G_isAheadByPriority_5 : zz_D mm_G_isAheadByPriority 5 (.getfield 34) 3 8 := ⟨by decide +kernel, rfl⟩
theorem ee_G_isAheadByPriority_8 : zz_D mm_G_isAheadByPriority 8 (.if_icmp .eq 20) 3 11 := ⟨by decide +kernel, rfl⟩
theorem ee_G_isAheadByPriority_11 : zz_D mm_G_isAheadByPriority 11 (.aload_n 0) 1 12 := ⟨by decide +kernel, rfl⟩
theorem ee_G_isAheadByPriority_12 : zz_D mm_G_isAheadByPriority 12 (.getfield 34) 3 15 := ⟨by decide +kernel, rfl⟩
theorem ee_G_isAheadByPriority_15 : zz_D mm_G_isAheadByPriority 15 (.aload_n 1) 1 16 := ⟨by decide +kernel, rfl⟩
theorem ee_G_isAheadByPriority_16 : zz_D mm_G_isAheadByPriority 16 (.getfield 34) 3 19 := ⟨by decide +kernel, rfl⟩
theorem ee_G_isAheadByPriority_19 : zz_D mm_G_isAheadByPriority 19 (.if_icmp .le 7) 3 22 := ⟨by decide +kernel, rfl⟩
theorem ee_G_isAheadByPriority_22 : zz_D mm_G_isAheadByPriority 22 (.iconst 1) 1 23 := ⟨by decide +kernel, rfl⟩
theorem ee_G_isAheadByPriority_23 : zz_D mm_G_isAheadByPriority 23 (.goto 4) 3 26 := ⟨by decide +kernel, rfl⟩
theorem ee_G_isAheadByPriority_26 : zz_D mm_G_isAheadByPriority 26 (.iconst 0) 1 27 := ⟨by decide +kernel, rfl⟩
theorem ee_G_isAheadByPriority_27 : zz_D mm_G_isAheadByPriority 27 .ireturn 1 28 := ⟨by decide +kernel, rfl⟩
theorem ee_G_isAheadByPriority_28 : zz_D mm_G_isAheadByPriority 28 (.aload_n 0) 1 29 := ⟨by decide +kernel, rfl⟩
theorem ee_G_isAheadByPriority_29 : zz_D mm_G_isAheadByPriority 29 (.getfield 24) 3 32 := ⟨by decide +kernel, rfl⟩
theorem ff_G_isAheadByPriority_24 : zz_F mm_G_isAheadByPriority 24 6 2 := ⟨by decide, zz_in 109 (by decide +kernel) rfl⟩
theorem ee_G_isAheadByPriority_32 : zz_D mm_G_isAheadByPriority 32 (.aload_n 1) 1 33 := ⟨by decide +kernel, rfl⟩
theorem ee_G_isAheadByPriority_33 : zz_D mm_G_isAheadByPriority 33 (.getfield 24) 3 36 := ⟨by decide +kernel, rfl⟩
theorem ee_G_isAheadByPriority_36 : zz_D mm_G_isAheadByPriority 36 (.if_icmp .eq 20) 3 39 := ⟨by decide +kernel, rfl⟩
theorem ee_G_isAheadByPriority_39 : zz_D mm_G_isAheadByPriority 39 (.aload_n 0) 1 40 := ⟨by decide +kernel, rfl⟩
theorem ee_G_isAheadByPriority_40 : zz_D mm_G_isAheadByPriority 40 (.getfield 24) 3 43 := ⟨by decide +kernel, rfl⟩
theorem ee_G_isAheadByPriority_43 : zz_D mm_G_isAheadByPriority 43 (.aload_n 1) 1 44 := ⟨by decide +kernel, rfl⟩
theorem ee_G_isAheadByPriority_44 : zz_D mm_G_isAheadByPriority 44 (.getfield 24) 3 47 := ⟨by decide +kernel, rfl⟩
theorem ee_G_isAheadByPriority_47 : zz_D mm_G_isAheadByPriority 47 (.if_icmp .ge 7) 3 50 := ⟨by decide +kernel, rfl⟩
theorem ee_G_isAheadByPriority_50 : zz_D mm_G_isAheadByPriority 50 (.iconst 1) 1 51 := ⟨by decide +kernel, rfl⟩
theorem ee_G_isAheadByPriority_51 : zz_D mm_G_isAheadByPriority 51 (.goto 4) 3 54 := ⟨by decide +kernel, rfl⟩
theorem ee_G_isAheadByPriority_54 : zz_D mm_G_isAheadByPriority 54 (.iconst 0) 1 55 := ⟨by decide +kernel, rfl⟩
theorem ee_G_isAheadByPriority_55 : zz_D mm_G_isAheadByPriority 55 .ireturn 1 56 := ⟨by decide +kernel, rfl⟩
theorem ee_G_isAheadByPriority_56 : zz_D mm_G_isAheadByPriority 56 (.aload_n 0) 1 57 := ⟨by decide +kernel, rfl⟩
theorem ee_G_isAheadByPriority_57 : zz_D mm_G_isAheadByPriority 57 (.getfield 28) 3 60 := ⟨by decide +kernel, rfl⟩
theorem ff_G_isAheadByPriority_28 : zz_F mm_G_isAheadByPriority 28 6 3 := ⟨by decide, zz_in 113 (by decide +kernel) rfl⟩
theorem ee_G_isAheadByPriority_60 : zz_D mm_G_isAheadByPriority 60 (.aload_n 1) 1 61 := ⟨by decide +kernel, rfl⟩
theorem ee_G_isAheadByPriority_61 : zz_D mm_G_isAheadByPriority 61 (.getfield 28) 3 64 := ⟨by decide +kernel, rfl⟩
theorem ee_G_isAheadByPriority_64 : zz_D mm_G_isAheadByPriority 64 (.if_icmp .ge 7) 3 67 := ⟨by decide +kernel, rfl⟩
theorem ee_G_isAheadByPriority_67 : zz_D mm_G_isAheadByPriority 67 (.iconst 1) 1 68 := ⟨by decide +kernel, rfl⟩
theorem ee_G_isAheadByPriority_68 : zz_D mm_G_isAheadByPriority 68 (.goto 4) 3 71 := ⟨by decide +kernel, rfl⟩
theorem ee_G_isAheadByPriority_71 : zz_D mm_G_isAheadByPriority 71 (.iconst 0) 1 72 := ⟨by decide +kernel, rfl⟩
theorem ee_G_isAheadByPriority_72 : zz_D mm_G_isAheadByPriority 72 .ireturn 1 73 := ⟨by decide +kernel, rfl⟩
theorem ee_G_isAheadByRot_0 : zz_D mm_G_isAheadByRot 0 (.aload_n 0) 1 1 := ⟨by decide +kernel, rfl⟩
theorem ee_G_isAheadByRot_1 : zz_D mm_G_isAheadByRot 1 (.invokevirtual 68) 3 4 := ⟨by decide +kernel, rfl⟩
theorem kk_G_isAheadByRot_68 : zz_kV mm_G_isAheadByRot mm_G_greatestRot 68 0 := ⟨⟨zz_in 1313 (by decide +kernel) rfl, zz_in 24 (by decide +kernel) rfl, by decide +kernel, by decide, by decide⟩, rfl, zz_in 1310 (by decide +kernel) rfl, zz_in 1311 (by decide +kernel) rfl, zz_in 1312 (by decide +kernel) rfl⟩
theorem ee_G_isAheadByRot_4 : zz_D mm_G_isAheadByRot 4 (.aload_n 1) 1 5 := ⟨by decide +kernel, rfl⟩
theorem ee_G_isAheadByRot_5 : zz_D mm_G_isAheadByRot 5 (.invokevirtual 68) 3 8 := ⟨by decide +kernel, rfl⟩
theorem ee_G_isAheadByRot_8 : zz_D mm_G_isAheadByRot 8 (.if_icmp .eq 20) 3 11 := ⟨by decide +kernel, rfl⟩
theorem ee_G_isAheadByRot_11 : zz_D mm_G_isAheadByRot 11 (.aload_n 0) 1 12 := ⟨by decide +kernel, rfl⟩
theorem ee_G_isAheadByRot_12 : zz_D mm_G_isAheadByRot 12 (.invokevirtual 68) 3 15 := ⟨by decide +kernel, rfl⟩
theorem ee_G_isAheadByRot_15 : zz_D mm_G_isAheadByRot 15 (.aload_n 1) 1 16 := ⟨by decide +kernel, rfl⟩
theorem ee_G_isAheadByRot_16 : zz_D mm_G_isAheadByRot 16 (.invokevirtual 68) 3 19 := ⟨by decide +kernel, rfl⟩
theorem ee_G_isAheadByRot_19 : zz_D mm_G_isAheadByRot 19 (.if_icmp .le 7) 3 22 := ⟨by decide +kernel, rfl⟩
theorem ee_G_isAheadByRot_22 : zz_D mm_G_isAheadByRot 22 (.iconst 1) 1 23 := ⟨by decide +kernel, rfl⟩
theorem ee_G_isAheadByRot_23 : zz_D mm_G_isAheadByRot 23 (.goto 4) 3 26 := ⟨by decide +kernel, rfl⟩
theorem ee_G_isAheadByRot_26 : zz_D mm_G_isAheadByRot 26 (.iconst 0) 1 27 := ⟨by decide +kernel, rfl⟩
theorem ee_G_isAheadByRot_27 : zz_D mm_G_isAheadByRot 27 .ireturn 1 28 := ⟨by decide +kernel, rfl⟩
theorem ee_G_isAheadByRot_28 : zz_D mm_G_isAheadByRot 28 (.aload_n 0) 1 29 := ⟨by decide +kernel, rfl⟩
theorem ee_G_isAheadByRot_29 : zz_D mm_G_isAheadByRot 29 (.getfield 28) 3 32 := ⟨by decide +kernel, rfl⟩
theorem ff_G_isAheadByRot_28 : zz_F mm_G_isAheadByRot 28 6 3 := ⟨by decide, zz_in 113 (by decide +kernel) rfl⟩
theorem ee_G_isAheadByRot_32 : zz_D mm_G_isAheadByRot 32 (.aload_n 1) 1 33 := ⟨by decide +kernel, rfl⟩
theorem ee_G_isAheadByRot_33 : zz_D mm_G_isAheadByRot 33 (.getfield 28) 3 36 := ⟨by decide +kernel, rfl⟩
theorem ee_G_isAheadByRot_36 : zz_D mm_G_isAheadByRot 36 (.if_icmp .ge 7) 3 39 := ⟨by decide +kernel, rfl⟩
theorem ee_G_isAheadByRot_39 : zz_D mm_G_isAheadByRot 39 (.iconst 1) 1 40 := ⟨by decide +kernel, rfl⟩
theorem ee_G_isAheadByRot_40 : zz_D mm_G_isAheadByRot 40 (.goto 4) 3 43 := ⟨by decide +kernel, rfl⟩
theorem ee_G_isAheadByRot_43 : zz_D mm_G_isAheadByRot 43 (.iconst 0) 1 44 := ⟨by decide +kernel, rfl⟩
theorem ee_G_isAheadByRot_44 : zz_D mm_G_isAheadByRot 44 .ireturn 1 45 := ⟨by decide +kernel, rfl⟩
theorem ee_G_greatestRot_0 : zz_D mm_G_greatestRot 0 (.iconst 0) 1 1 := ⟨by decide +kernel, rfl⟩
theorem ee_G_greatestRot_1 : zz_D mm_G_greatestRot 1 (.istore_n 1) 1 2 := ⟨by decide +kernel, rfl⟩
theorem ee_G_greatestRot_2 : zz_D mm_G_greatestRot 2 (.iconst 0) 1 3 := ⟨by decide +kernel, rfl⟩
theorem ee_G_greatestRot_3 : zz_D mm_G_greatestRot 3 (.istore_n 2) 1 4 := ⟨by decide +kernel, rfl⟩
theorem ee_G_greatestRot_4 : zz_D mm_G_greatestRot 4 (.iload_n 2) 1 5 := ⟨by decide +kernel, rfl⟩
theorem ee_G_greatestRot_5 : zz_D mm_G_greatestRot 5 (.aload_n 0) 1 6 := ⟨by decide +kernel, rfl⟩
theorem ee_G_greatestRot_6 : zz_D mm_G_greatestRot 6 (.getfield 24) 3 9 := ⟨by decide +kernel, rfl⟩
theorem ff_G_greatestRot_24 : zz_F mm_G_greatestRot 24 6 2 := ⟨by decide, zz_in 109 (by decide +kernel) rfl⟩
theorem ee_G_greatestRot_9 : zz_D mm_G_greatestRot 9 (.if_icmp .ge 29) 3 12 := ⟨by decide +kernel, rfl⟩
theorem ee_G_greatestRot_12 : zz_D mm_G_greatestRot 12 (.iload_n 2) 1 13 := ⟨by decide +kernel, rfl⟩
theorem ee_G_greatestRot_13 : zz_D mm_G_greatestRot 13 (.aload_n 0) 1 14 := ⟨by decide +kernel, rfl⟩
theorem ee_G_greatestRot_14 : zz_D mm_G_greatestRot 14 (.getfield 20) 3 17 := ⟨by decide +kernel, rfl⟩
theorem ff_G_greatestRot_20 : zz_F mm_G_greatestRot 20 6 1 := ⟨by decide, zz_in 108 (by decide +kernel) rfl⟩
theorem ee_G_greatestRot_17 : zz_D mm_G_greatestRot 17 .arraylength 1 18 := ⟨by decide +kernel, rfl⟩
theorem ee_G_greatestRot_18 : zz_D mm_G_greatestRot 18 (.if_icmp .ge 20) 3 21 := ⟨by decide +kernel, rfl⟩
theorem ee_G_greatestRot_21 : zz_D mm_G_greatestRot 21 (.iload_n 1) 1 22 := ⟨by decide +kernel, rfl⟩
theorem ee_G_greatestRot_22 : zz_D mm_G_greatestRot 22 (.aload_n 0) 1 23 := ⟨by decide +kernel, rfl⟩
theorem ee_G_greatestRot_23 : zz_D mm_G_greatestRot 23 (.getfield 20) 3 26 := ⟨by decide +kernel, rfl⟩
theorem ee_G_greatestRot_26 : zz_D mm_G_greatestRot 26 (.iload_n 2) 1 27 := ⟨by decide +kernel, rfl⟩
theorem ee_G_greatestRot_27 : zz_D mm_G_greatestRot 27 .iaload 1 28 := ⟨by decide +kernel, rfl⟩
theorem ee_G_greatestRot_28 : zz_D mm_G_greatestRot 28 (.invokestatic 65) 3 31 := ⟨by decide +kernel, rfl⟩
theorem kk_G_greatestRot_65 : zz_kS mm_G_greatestRot mm_JM_max 65 2 := ⟨⟨zz_in 68 (by decide +kernel) rfl, zz_in 21 (by decide +kernel) rfl, by decide +kernel, by decide, by decide⟩, rfl, zz_in 1314 (by decide +kernel) rfl, zz_in 67 (by decide +kernel) rfl⟩
theorem ee_G_greatestRot_31 : zz_D mm_G_greatestRot 31 (.istore_n 1) 1 32 := ⟨by decide +kernel, rfl⟩
theorem ee_G_greatestRot_32 : zz_D mm_G_greatestRot 32 (.iinc 2 1) 3 35 := ⟨by decide +kernel, rfl⟩
theorem ee_G_greatestRot_35 : zz_D mm_G_greatestRot 35 (.goto (-31)) 3 38 := ⟨by decide +kernel, rfl⟩
theorem ee_G_greatestRot_38 : zz_D mm_G_greatestRot 38 (.iload_n 1) 1 39 := ⟨by decide +kernel, rfl⟩
theorem ee_G_greatestRot_39 : zz_D mm_G_greatestRot 39 .ireturn 1 40 := ⟨by decide +kernel, rfl⟩
theorem ee_G_writeTo_0 : zz_D mm_G_writeTo 0 (.aload_n 1) 1 1 := ⟨by decide +kernel, rfl⟩
theorem ee_G_writeTo_1 : zz_D mm_G_writeTo 1 (.invokevirtual 71) 3 4 := ⟨by decide +kernel, rfl⟩
theorem kk_G_writeTo_71 : zz_kV mm_G_writeTo mm_T_clear 71 0 := ⟨⟨zz_in 296 (by decide +kernel) rfl, zz_in 20 (by decide +kernel) rfl, by decide +kernel, by decide, by decide⟩, rfl, zz_in 1385 (by decide +kernel) rfl, zz_in 294 (by decide +kernel) rfl, zz_in 295 (by decide +kernel) rfl⟩
theorem ee_G_writeTo_4 : zz_D mm_G_writeTo 4 (.aload_n 1) 1 5 := ⟨by decide +kernel, rfl⟩
theorem ee_G_writeTo_5 : zz_D mm_G_writeTo 5 (.bipush 35) 2 7 := ⟨by decide +kernel, rfl⟩
theorem ee_G_writeTo_7 : zz_D mm_G_writeTo 7 (.invokevirtual 74) 3 10 := ⟨by decide +kernel, rfl⟩
theorem kk_G_writeTo_74 : zz_kV mm_G_writeTo mm_T_add 74 1 := ⟨⟨zz_in 328 (by decide +kernel) rfl, zz_in 20 (by decide +kernel) rfl, by decide +kernel, by decide, by decide⟩, rfl, zz_in 1386 (by decide +kernel) rfl, zz_in 326 (by decide +kernel) rfl, zz_in 327 (by decide +kernel) rfl⟩
theorem ee_G_writeTo_10 : zz_D mm_G_writeTo 10 (.aload_n 1) 1 11 := ⟨by decide +kernel, rfl⟩
theorem ee_G_writeTo_11 : zz_D mm_G_writeTo 11 (.aload_n 0) 1 12 := ⟨by decide +kernel, rfl⟩
theorem ee_G_writeTo_12 : zz_D mm_G_writeTo 12 (.getfield 28) 3 15 := ⟨by decide +kernel, rfl⟩
theorem ff_G_writeTo_28 : zz_F mm_G_writeTo 28 6 3 := ⟨by decide, zz_in 113 (by decide +kernel) rfl⟩
theorem ee_G_writeTo_15 : zz_D mm_G_writeTo 15 (.invokevirtual 78) 3 18 := ⟨by decide +kernel, rfl⟩
theorem kk_G_writeTo_78 : zz_kV mm_G_writeTo mm_T_addNumber 78 1 := ⟨⟨zz_in 1390 (by decide +kernel) rfl, zz_in 20 (by decide +kernel) rfl, by decide +kernel, by decide, by decide⟩, rfl, zz_in 1387 (by decide +kernel) rfl, zz_in 1388 (by decide +kernel) rfl, zz_in 1389 (by decide +kernel) rfl⟩
theorem ee_G_writeTo_18 : zz_D mm_G_writeTo 18 (.aload_n 1) 1 19 := ⟨by decide +kernel, rfl⟩
theorem ee_G_writeTo_19 : zz_D mm_G_writeTo 19 (.bipush 64) 2 21 := ⟨by decide +kernel, rfl⟩
theorem ee_G_writeTo_21 : zz_D mm_G_writeTo 21 (.invokevirtual 74) 3 24 := ⟨by decide +kernel, rfl⟩
theorem ee_G_writeTo_24 : zz_D mm_G_writeTo 24 (.aload_n 1) 1 25 := ⟨by decide +kernel, rfl⟩
theorem ee_G_writeTo_25 : zz_D mm_G_writeTo 25 (.aload_n 0) 1 26 := ⟨by decide +kernel, rfl⟩
theorem ee_G_writeTo_26 : zz_D mm_G_writeTo 26 (.getfield 31) 3 29 := ⟨by decide +kernel, rfl⟩
theorem ff_G_writeTo_31 : zz_F mm_G_writeTo 31 6 4 := ⟨by decide, zz_in 117 (by decide +kernel) rfl⟩
theorem ee_G_writeTo_29 : zz_D mm_G_writeTo 29 (.invokevirtual 78) 3 32 := ⟨by decide +kernel, rfl⟩
theorem ee_G_writeTo_32 : zz_D mm_G_writeTo 32 (.aload_n 1) 1 33 := ⟨by decide +kernel, rfl⟩
theorem ee_G_writeTo_33 : zz_D mm_G_writeTo 33 (.bipush 33) 2 35 := ⟨by decide +kernel, rfl⟩
theorem ee_G_writeTo_35 : zz_D mm_G_writeTo 35 (.invokevirtual 74) 3 38 := ⟨by decide +kernel, rfl⟩
theorem ee_G_writeTo_38 : zz_D mm_G_writeTo 38 (.aload_n 1) 1 39 := ⟨by decide +kernel, rfl⟩
theorem ee_G_writeTo_39 : zz_D mm_G_writeTo 39 (.aload_n 0) 1 40 := ⟨by decide +kernel, rfl⟩
theorem ee_G_writeTo_40 : zz_D mm_G_writeTo 40 (.getfield 34) 3 43 := ⟨by decide +kernel, rfl⟩
theorem ff_G_writeTo_34 : zz_F mm_G_writeTo 34 6 5 := ⟨by decide, zz_in 121 (by decide +kernel) rfl⟩
theorem ee_G_writeTo_43 : zz_D mm_G_writeTo 43 (.invokevirtual 78) 3 46 := ⟨by decide +kernel, rfl⟩
theorem ee_G_writeTo_46 : zz_D mm_G_writeTo 46 (.iconst 0) 1 47 := ⟨by decide +kernel, rfl⟩
theorem ee_G_writeTo_47 : zz_D mm_G_writeTo 47 (.istore_n 2) 1 48 := ⟨by decide +kernel, rfl⟩
theorem ee_G_writeTo_48 : zz_D mm_G_writeTo 48 (.iload_n 2) 1 49 := ⟨by decide +kernel, rfl⟩
theorem ee_G_writeTo_49 : zz_D mm_G_writeTo 49 (.aload_n 0) 1 50 := ⟨by decide +kernel, rfl⟩
theorem ee_G_writeTo_50 : zz_D mm_G_writeTo 50 (.getfield 24) 3 53 := ⟨by decide +kernel, rfl⟩
theorem ff_G_writeTo_24 : zz_F mm_G_writeTo 24 6 2 := ⟨by decide, zz_in 109 (by decide +kernel) rfl⟩
theorem ee_G_writeTo_53 : zz_D mm_G_writeTo 53 (.if_icmp .ge 24) 3 56 := ⟨by decide +kernel, rfl⟩
theorem ee_G_writeTo_56 : zz_D mm_G_writeTo 56 (.iload_n 2) 1 57 := ⟨by decide +kernel, rfl⟩
theorem ee_G_writeTo_57 : zz_D mm_G_writeTo 57 (.aload_n 0) 1 58 := ⟨by decide +kernel, rfl⟩
theorem ee_G_writeTo_58 : zz_D mm_G_writeTo 58 (.getfield 20) 3 61 := ⟨by decide +kernel, rfl⟩
theorem ff_G_writeTo_20 : zz_F mm_G_writeTo 20 6 1 := ⟨by decide, zz_in 108 (by decide +kernel) rfl⟩
theorem ee_G_writeTo_61 : zz_D mm_G_writeTo 61 .arraylength 1 62 := ⟨by decide +kernel, rfl⟩
theorem ee_G_writeTo_62 : zz_D mm_G_writeTo 62 (.if_icmp .ge 15) 3 65 := ⟨by decide +kernel, rfl⟩
theorem ee_G_writeTo_65 : zz_D mm_G_writeTo 65 (.aload_n 0) 1 66 := ⟨by decide +kernel, rfl⟩
theorem ee_G_writeTo_66 : zz_D mm_G_writeTo 66 (.iload_n 2) 1 67 := ⟨by decide +kernel, rfl⟩
theorem ee_G_writeTo_67 : zz_D mm_G_writeTo 67 (.aload_n 1) 1 68 := ⟨by decide +kernel, rfl⟩
theorem ee_G_writeTo_68 : zz_D mm_G_writeTo 68 (.invokevirtual 81) 3 71 := ⟨by decide +kernel, rfl⟩
theorem kk_G_writeTo_81 : zz_kV mm_G_writeTo mm_G_writePage 81 2 := ⟨⟨zz_in 1396 (by decide +kernel) rfl, zz_in 24 (by decide +kernel) rfl, by decide +kernel, by decide, by decide⟩, rfl, zz_in 1393 (by decide +kernel) rfl, zz_in 1395 (by decide +kernel) rfl, zz_in 17 (by decide +kernel) rfl⟩
theorem ee_G_writeTo_71 : zz_D mm_G_writeTo 71 (.iinc 2 1) 3 74 := ⟨by decide +kernel, rfl⟩
theorem ee_G_writeTo_74 : zz_D mm_G_writeTo 74 (.goto (-26)) 3 77 := ⟨by decide +kernel, rfl⟩
theorem ee_G_writeTo_77 : zz_D mm_G_writeTo 77 .return_ 1 78 := ⟨by decide +kernel, rfl⟩
theorem ee_T_addNumber_0 : zz_D mm_T_addNumber 0 (.ldc 33) 2 2 := ⟨by decide +kernel, rfl⟩
theorem ee_T_addNumber_2 : zz_D mm_T_addNumber 2 (.istore_n 2) 1 3 := ⟨by decide +kernel, rfl⟩
theorem ee_T_addNumber_3 : zz_D mm_T_addNumber 3 (.iload_n 2) 1 4 := ⟨by decide +kernel, rfl⟩
theorem ee_T_addNumber_4 : zz_D mm_T_addNumber 4 (.ifCond .le 35) 3 7 := ⟨by decide +kernel, rfl⟩
theorem ee_T_addNumber_7 : zz_D mm_T_addNumber 7 (.iload_n 1) 1 8 := ⟨by decide +kernel, rfl⟩
theorem ee_T_addNumber_8 : zz_D mm_T_addNumber 8 (.iload_n 2) 1 9 := ⟨by decide +kernel, rfl⟩
theorem ee_T_addNumber_9 : zz_D mm_T_addNumber 9 (.if_icmp .ge 8) 3 12 := ⟨by decide +kernel, rfl⟩
theorem ee_T_addNumber_12 : zz_D mm_T_addNumber 12 (.iload_n 2) 1 13 := ⟨by decide +kernel, rfl⟩
theorem ee_T_addNumber_13 : zz_D mm_T_addNumber 13 (.iconst 1) 1 14 := ⟨by decide +kernel, rfl⟩
theorem ee_T_addNumber_14 : zz_D mm_T_addNumber 14 (.if_icmp .ne 17) 3 17 := ⟨by decide +kernel, rfl⟩
theorem ee_T_addNumber_17 : zz_D mm_T_addNumber 17 (.aload_n 0) 1 18 := ⟨by decide +kernel, rfl⟩
theorem ee_T_addNumber_18 : zz_D mm_T_addNumber 18 (.bipush 48) 2 20 := ⟨by decide +kernel, rfl⟩
theorem ee_T_addNumber_20 : zz_D mm_T_addNumber 20 (.iload_n 1) 1 21 := ⟨by decide +kernel, rfl⟩
theorem ee_T_addNumber_21 : zz_D mm_T_addNumber 21 (.iload_n 2) 1 22 := ⟨by decide +kernel, rfl⟩
theorem ee_T_addNumber_22 : zz_D mm_T_addNumber 22 .idiv 1 23 := ⟨by decide +kernel, rfl⟩
theorem ee_T_addNumber_23 : zz_D mm_T_addNumber 23 (.bipush 10) 2 25 := ⟨by decide +kernel, rfl⟩
theorem ee_T_addNumber_25 : zz_D mm_T_addNumber 25 .irem 1 26 := ⟨by decide +kernel, rfl⟩
theorem ee_T_addNumber_26 : zz_D mm_T_addNumber 26 .iadd 1 27 := ⟨by decide +kernel, rfl⟩
theorem ee_T_addNumber_27 : zz_D mm_T_addNumber 27 .i2c 1 28 := ⟨by decide +kernel, rfl⟩
theorem ee_T_addNumber_28 : zz_D mm_T_addNumber 28 (.invokevirtual 34) 3 31 := ⟨by decide +kernel, rfl⟩
theorem kk_T_addNumber_34 : zz_kV mm_T_addNumber mm_T_add 34 1 := ⟨⟨zz_in 328 (by decide +kernel) rfl, zz_in 20 (by decide +kernel) rfl, by decide +kernel, by decide, by decide⟩, rfl, zz_in 1392 (by decide +kernel) rfl, zz_in 326 (by decide +kernel) rfl, zz_in 327 (by decide +kernel) rfl⟩
theorem ee_T_addNumber_31 : zz_D mm_T_addNumber 31 (.iload_n 2) 1 32 := ⟨by decide +kernel, rfl⟩
theorem ee_T_addNumber_32 : zz_D mm_T_addNumber 32 (.bipush 10) 2 34 := ⟨by decide +kernel, rfl⟩
theorem ee_T_addNumber_34 : zz_D mm_T_addNumber 34 .idiv 1 35 := ⟨by decide +kernel, rfl⟩
theorem ee_T_addNumber_35 : zz_D mm_T_addNumber 35 (.istore_n 2) 1 36 := ⟨by decide +kernel, rfl⟩
theorem ee_T_addNumber_36 : zz_D mm_T_addNumber 36 (.goto (-33)) 3 39 := ⟨by decide +kernel, rfl⟩
theorem ee_T_addNumber_39 : zz_D mm_T_addNumber 39 .return_ 1 40 := ⟨by decide +kernel, rfl⟩
theorem ee_G_writePage_0 : zz_D mm_G_writePage 0 (.iload_n 1) 1 1 := ⟨by decide +kernel, rfl⟩
theorem ee_G_writePage_1 : zz_D mm_G_writePage 1 (.bipush 12) 2 3 := ⟨by decide +kernel, rfl⟩
theorem ee_G_writePage_3 : zz_D mm_G_writePage 3 .imul 1 4 := ⟨by decide +kernel, rfl⟩
theorem ee_G_writePage_4 : zz_D mm_G_writePage 4 (.istore_n 3) 1 5 := ⟨by decide +kernel, rfl⟩
theorem ee_G_writePage_5 : zz_D mm_G_writePage 5 (.iload_n 3) 1 6 := ⟨by decide +kernel, rfl⟩
theorem ee_G_writePage_6 : zz_D mm_G_writePage 6 (.bipush 12) 2 8 := ⟨by decide +kernel, rfl⟩
theorem ee_G_writePage_8 : zz_D mm_G_writePage 8 .iadd 1 9 := ⟨by decide +kernel, rfl⟩
theorem ee_G_writePage_9 : zz_D mm_G_writePage 9 (.aload_n 0) 1 10 := ⟨by decide +kernel, rfl⟩
theorem ee_G_writePage_10 : zz_D mm_G_writePage 10 (.getfield 14) 3 13 := ⟨by decide +kernel, rfl⟩
theorem ff_G_writePage_14 : zz_F mm_G_writePage 14 6 0 := ⟨by decide, zz_in 104 (by decide +kernel) rfl⟩
theorem ee_G_writePage_13 : zz_D mm_G_writePage 13 (.getfield 44) 3 16 := ⟨by decide +kernel, rfl⟩
theorem ff_G_writePage_44 : zz_F mm_G_writePage 44 7 1 := ⟨by decide, zz_in 74 (by decide +kernel) rfl⟩
theorem ee_G_writePage_16 : zz_D mm_G_writePage 16 (.invokestatic 59) 3 19 := ⟨by decide +kernel, rfl⟩
theorem kk_G_writePage_59 : zz_kS mm_G_writePage mm_JM_min 59 2 := ⟨⟨zz_in 395 (by decide +kernel) rfl, zz_in 21 (by decide +kernel) rfl, by decide +kernel, by decide, by decide⟩, rfl, zz_in 714 (by decide +kernel) rfl, zz_in 394 (by decide +kernel) rfl⟩
theorem ee_G_writePage_19 : zz_D mm_G_writePage 19 (.istore 4) 2 21 := ⟨by decide +kernel, rfl⟩
theorem ee_G_writePage_21 : zz_D mm_G_writePage 21 (.aload_n 0) 1 22 := ⟨by decide +kernel, rfl⟩
theorem ee_G_writePage_22 : zz_D mm_G_writePage 22 (.iload_n 1) 1 23 := ⟨by decide +kernel, rfl⟩
theorem ee_G_writePage_23 : zz_D mm_G_writePage 23 (.invokevirtual 85) 3 26 := ⟨by decide +kernel, rfl⟩
theorem kk_G_writePage_85 : zz_kV mm_G_writePage mm_G_rotAt 85 1 := ⟨⟨zz_in 737 (by decide +kernel) rfl, zz_in 24 (by decide +kernel) rfl, by decide +kernel, by decide, by decide⟩, rfl, zz_in 1397 (by decide +kernel) rfl, zz_in 735 (by decide +kernel) rfl, zz_in 736 (by decide +kernel) rfl⟩
theorem ee_G_writePage_26 : zz_D mm_G_writePage 26 (.istore 5) 2 28 := ⟨by decide +kernel, rfl⟩
theorem ee_G_writePage_28 : zz_D mm_G_writePage 28 (.aload_n 2) 1 29 := ⟨by decide +kernel, rfl⟩
theorem ee_G_writePage_29 : zz_D mm_G_writePage 29 (.bipush 32) 2 31 := ⟨by decide +kernel, rfl⟩
theorem ee_G_writePage_31 : zz_D mm_G_writePage 31 (.invokevirtual 74) 3 34 := ⟨by decide +kernel, rfl⟩
theorem kk_G_writePage_74 : zz_kV mm_G_writePage mm_T_add 74 1 := ⟨⟨zz_in 328 (by decide +kernel) rfl, zz_in 20 (by decide +kernel) rfl, by decide +kernel, by decide, by decide⟩, rfl, zz_in 1386 (by decide +kernel) rfl, zz_in 326 (by decide +kernel) rfl, zz_in 327 (by decide +kernel) rfl⟩
theorem ee_G_writePage_34 : zz_D mm_G_writePage 34 (.aload_n 2) 1 35 := ⟨by decide +kernel, rfl⟩
theorem ee_G_writePage_35 : zz_D mm_G_writePage 35 (.bipush 91) 2 37 := ⟨by decide +kernel, rfl⟩
theorem ee_G_writePage_37 : zz_D mm_G_writePage 37 (.invokevirtual 74) 3 40 := ⟨by decide +kernel, rfl⟩
theorem ee_G_writePage_40 : zz_D mm_G_writePage 40 (.iload_n 3) 1 41 := ⟨by decide +kernel, rfl⟩
theorem ee_G_writePage_41 : zz_D mm_G_writePage 41 (.istore 6) 2 43 := ⟨by decide +kernel, rfl⟩
theorem ee_G_writePage_43 : zz_D mm_G_writePage 43 (.iload 6) 2 45 := ⟨by decide +kernel, rfl⟩
theorem ee_G_writePage_45 : zz_D mm_G_writePage 45 (.iload 4) 2 47 := ⟨by decide +kernel, rfl⟩
theorem ee_G_writePage_47 : zz_D mm_G_writePage 47 (.if_icmp .ge 34) 3 50 := ⟨by decide +kernel, rfl⟩
theorem ee_G_writePage_50 : zz_D mm_G_writePage 50 (.aload_n 2) 1 51 := ⟨by decide +kernel, rfl⟩
theorem ee_G_writePage_51 : zz_D mm_G_writePage 51 (.iload 5) 2 53 := ⟨by decide +kernel, rfl⟩
theorem ee_G_writePage_53 : zz_D mm_G_writePage 53 (.bipush 20) 2 55 := ⟨by decide +kernel, rfl⟩
theorem ee_G_writePage_55 : zz_D mm_G_writePage 55 (.if_icmp .lt 8) 3 58 := ⟨by decide +kernel, rfl⟩
theorem ee_G_writePage_58 : zz_D mm_G_writePage 58 (.bipush 126) 2 60 := ⟨by decide +kernel, rfl⟩
theorem ee_G_writePage_60 : zz_D mm_G_writePage 60 (.goto 12) 3 63 := ⟨by decide +kernel, rfl⟩
theorem ee_G_writePage_63 : zz_D mm_G_writePage 63 (.aload_n 0) 1 64 := ⟨by decide +kernel, rfl⟩
theorem ee_G_writePage_64 : zz_D mm_G_writePage 64 (.getfield 14) 3 67 := ⟨by decide +kernel, rfl⟩
theorem ee_G_writePage_67 : zz_D mm_G_writePage 67 (.iload 6) 2 69 := ⟨by decide +kernel, rfl⟩
theorem ee_G_writePage_69 : zz_D mm_G_writePage 69 (.invokevirtual 88) 3 72 := ⟨by decide +kernel, rfl⟩
theorem kk_G_writePage_88 : zz_kV mm_G_writePage mm_T_at 88 1 := ⟨⟨zz_in 311 (by decide +kernel) rfl, zz_in 20 (by decide +kernel) rfl, by decide +kernel, by decide, by decide⟩, rfl, zz_in 1398 (by decide +kernel) rfl, zz_in 309 (by decide +kernel) rfl, zz_in 310 (by decide +kernel) rfl⟩
theorem ee_G_writePage_72 : zz_D mm_G_writePage 72 (.invokevirtual 74) 3 75 := ⟨by decide +kernel, rfl⟩
theorem ee_G_writePage_75 : zz_D mm_G_writePage 75 (.iinc 6 1) 3 78 := ⟨by decide +kernel, rfl⟩
theorem ee_G_writePage_78 : zz_D mm_G_writePage 78 (.goto (-35)) 3 81 := ⟨by decide +kernel, rfl⟩
theorem ee_G_writePage_81 : zz_D mm_G_writePage 81 (.aload_n 2) 1 82 := ⟨by decide +kernel, rfl⟩
theorem ee_G_writePage_82 : zz_D mm_G_writePage 82 (.bipush 93) 2 84 := ⟨by decide +kernel, rfl⟩
theorem ee_G_writePage_84 : zz_D mm_G_writePage 84 (.invokevirtual 74) 3 87 := ⟨by decide +kernel, rfl⟩
theorem ee_G_writePage_87 : zz_D mm_G_writePage 87 (.aload_n 2) 1 88 := ⟨by decide +kernel, rfl⟩
theorem ee_G_writePage_88 : zz_D mm_G_writePage 88 (.iload 5) 2 90 := ⟨by decide +kernel, rfl⟩
theorem ee_G_writePage_90 : zz_D mm_G_writePage 90 (.invokevirtual 78) 3 93 := ⟨by decide +kernel, rfl⟩
theorem kk_G_writePage_78 : zz_kV mm_G_writePage mm_T_addNumber 78 1 := ⟨⟨zz_in 1390 (by decide +kernel) rfl, zz_in 20 (by decide +kernel) rfl, by decide +kernel, by decide, by decide⟩, rfl, zz_in 1387 (by decide +kernel) rfl, zz_in 1388 (by decide +kernel) rfl, zz_in 1389 (by decide +kernel) rfl⟩
theorem ee_G_writePage_93 : zz_D mm_G_writePage 93 .return_ 1 94 := ⟨by decide +kernel, rfl⟩
theorem ee_T_put_0 : zz_D mm_T_put 0 (.aload_n 0) 1 1 := ⟨by decide +kernel, rfl⟩
theorem ee_T_put_1 : zz_D mm_T_put 1 (.iload_n 1) 1 2 := ⟨by decide +kernel, rfl⟩
theorem ee_T_put_2 : zz_D mm_T_put 2 (.invokevirtual 25) 3 5 := ⟨by decide +kernel, rfl⟩
theorem kk_T_put_25 : zz_kV mm_T_put mm_T_has 25 1 := ⟨⟨zz_in 315 (by decide +kernel) rfl, zz_in 20 (by decide +kernel) rfl, by decide +kernel, by decide, by decide⟩, rfl, zz_in 312 (by decide +kernel) rfl, zz_in 313 (by decide +kernel) rfl, zz_in 314 (by decide +kernel) rfl⟩
theorem ee_T_put_5 : zz_D mm_T_put 5 (.ifCond .eq 10) 3 8 := ⟨by decide +kernel, rfl⟩
theorem ee_T_put_8 : zz_D mm_T_put 8 (.aload_n 0) 1 9 := ⟨by decide +kernel, rfl⟩
theorem ee_T_put_9 : zz_D mm_T_put 9 (.getfield 21) 3 12 := ⟨by decide +kernel, rfl⟩
theorem ff_T_put_21 : zz_F mm_T_put 21 7 0 := ⟨by decide, zz_in 69 (by decide +kernel) rfl⟩
theorem ee_T_put_12 : zz_D mm_T_put 12 (.iload_n 1) 1 13 := ⟨by decide +kernel, rfl⟩
theorem ee_T_put_13 : zz_D mm_T_put 13 (.iload_n 2) 1 14 := ⟨by decide +kernel, rfl⟩
theorem ee_T_put_14 : zz_D mm_T_put 14 .castore 1 15 := ⟨by decide +kernel, rfl⟩
theorem ee_T_put_15 : zz_D mm_T_put 15 .return_ 1 16 := ⟨by decide +kernel, rfl⟩
end
section
theorem ee_S_init_0 : zz_D mm_S_init 0 (.aload_n 0) 1 1 := ⟨by decide +kernel, rfl⟩
theorem ee_S_init_1 : zz_D mm_S_init 1 (.invokespecial 3) 3 4 := ⟨by decide +kernel, rfl⟩
theorem oo_S_init_3 : Cond.methodLink (zz_y mm_S_init).cls 3 Lib.objectInit ∈ zz_gw := zz_in 94 (by decide +kernel) rfl
theorem ee_S_init_4 : zz_D mm_S_init 4 (.aload_n 0) 1 5 := ⟨by decide +kernel, rfl⟩
theorem ee_S_init_5 : zz_D mm_S_init 5 (.iconst 4) 1 6 := ⟨by decide +kernel, rfl⟩
theorem ee_S_init_6 : zz_D mm_S_init 6 (.newarray .int) 2 8 := ⟨by decide +kernel, rfl⟩
theorem ee_S_init_8 : zz_D mm_S_init 8 (.putfield 9) 3 11 := ⟨by decide +kernel, rfl⟩
theorem ff_S_init_9 : zz_F mm_S_init 9 5 0 := ⟨by decide, zz_in 142 (by decide +kernel) rfl⟩
theorem ee_S_init_11 : zz_D mm_S_init 11 (.aload_n 0) 1 12 := ⟨by decide +kernel, rfl⟩
theorem ee_S_init_12 : zz_D mm_S_init 12 (.bipush 32) 2 14 := ⟨by decide +kernel, rfl⟩
theorem ee_S_init_14 : zz_D mm_S_init 14 (.anewarray 15) 3 17 := ⟨by decide +kernel, rfl⟩
theorem ee_S_init_17 : zz_D mm_S_init 17 (.putfield 17) 3 20 := ⟨by decide +kernel, rfl⟩
theorem ff_S_init_17 : zz_F mm_S_init 17 5 1 := ⟨by decide, zz_in 143 (by decide +kernel) rfl⟩
theorem ee_S_init_20 : zz_D mm_S_init 20 (.aload_n 0) 1 21 := ⟨by decide +kernel, rfl⟩
theorem ee_S_init_21 : zz_D mm_S_init 21 (.iconst 0) 1 22 := ⟨by decide +kernel, rfl⟩
theorem ee_S_init_22 : zz_D mm_S_init 22 (.putfield 21) 3 25 := ⟨by decide +kernel, rfl⟩
theorem ff_S_init_21 : zz_F mm_S_init 21 5 2 := ⟨by decide, zz_in 144 (by decide +kernel) rfl⟩
theorem ee_S_init_25 : zz_D mm_S_init 25 (.aload_n 0) 1 26 := ⟨by decide +kernel, rfl⟩
theorem ee_S_init_26 : zz_D mm_S_init 26 (.iconst 0) 1 27 := ⟨by decide +kernel, rfl⟩
theorem ee_S_init_27 : zz_D mm_S_init 27 (.putfield 25) 3 30 := ⟨by decide +kernel, rfl⟩
theorem ff_S_init_25 : zz_F mm_S_init 25 5 3 := ⟨by decide, zz_in 147 (by decide +kernel) rfl⟩
theorem ee_S_init_30 : zz_D mm_S_init 30 (.aload_n 0) 1 31 := ⟨by decide +kernel, rfl⟩
theorem ee_S_init_31 : zz_D mm_S_init 31 (.iconst 0) 1 32 := ⟨by decide +kernel, rfl⟩
theorem ee_S_init_32 : zz_D mm_S_init 32 (.putfield 28) 3 35 := ⟨by decide +kernel, rfl⟩
theorem ff_S_init_28 : zz_F mm_S_init 28 5 4 := ⟨by decide, zz_in 150 (by decide +kernel) rfl⟩
theorem ee_S_init_35 : zz_D mm_S_init 35 (.aload_n 0) 1 36 := ⟨by decide +kernel, rfl⟩
theorem ee_S_init_36 : zz_D mm_S_init 36 (.iconst 0) 1 37 := ⟨by decide +kernel, rfl⟩
theorem ee_S_init_37 : zz_D mm_S_init 37 (.putfield 31) 3 40 := ⟨by decide +kernel, rfl⟩
theorem ff_S_init_31 : zz_F mm_S_init 31 5 5 := ⟨by decide, zz_in 151 (by decide +kernel) rfl⟩
theorem ee_S_init_40 : zz_D mm_S_init 40 (.aload_n 0) 1 41 := ⟨by decide +kernel, rfl⟩
theorem ee_S_init_41 : zz_D mm_S_init 41 (.iconst 0) 1 42 := ⟨by decide +kernel, rfl⟩
theorem ee_S_init_42 : zz_D mm_S_init 42 (.putfield 34) 3 45 := ⟨by decide +kernel, rfl⟩
theorem ff_S_init_34 : zz_F mm_S_init 34 5 6 := ⟨by decide, zz_in 154 (by decide +kernel) rfl⟩
theorem ee_S_init_45 : zz_D mm_S_init 45 (.iconst 0) 1 46 := ⟨by decide +kernel, rfl⟩
theorem ee_S_init_46 : zz_D mm_S_init 46 (.istore_n 1) 1 47 := ⟨by decide +kernel, rfl⟩
theorem ee_S_init_47 : zz_D mm_S_init 47 (.iload_n 1) 1 48 := ⟨by decide +kernel, rfl⟩
theorem ee_S_init_48 : zz_D mm_S_init 48 (.aload_n 0) 1 49 := ⟨by decide +kernel, rfl⟩
theorem ee_S_init_49 : zz_D mm_S_init 49 (.getfield 17) 3 52 := ⟨by decide +kernel, rfl⟩
theorem ee_S_init_52 : zz_D mm_S_init 52 .arraylength 1 53 := ⟨by decide +kernel, rfl⟩
theorem ee_S_init_53 : zz_D mm_S_init 53 (.if_icmp .ge 22) 3 56 := ⟨by decide +kernel, rfl⟩
theorem ee_S_init_56 : zz_D mm_S_init 56 (.aload_n 0) 1 57 := ⟨by decide +kernel, rfl⟩
theorem ee_S_init_57 : zz_D mm_S_init 57 (.getfield 17) 3 60 := ⟨by decide +kernel, rfl⟩
theorem ee_S_init_60 : zz_D mm_S_init 60 (.iload_n 1) 1 61 := ⟨by decide +kernel, rfl⟩
theorem ee_S_init_61 : zz_D mm_S_init 61 (.new 15) 3 64 := ⟨by decide +kernel, rfl⟩
theorem nn_S_init_15 : zz_Nw2 mm_S_init 15 6 7 := ⟨zz_in 95 (by decide +kernel) rfl, zz_in 97 (by decide +kernel) rfl, zz_in 24 (by decide +kernel) rfl, by decide⟩
theorem ee_S_init_64 : zz_D mm_S_init 64 .dup 1 65 := ⟨by decide +kernel, rfl⟩
theorem ee_S_init_65 : zz_D mm_S_init 65 (.invokespecial 37) 3 68 := ⟨by decide +kernel, rfl⟩
theorem kk_S_init_37 : zz_kIN mm_S_init mm_G_init 37 0 := ⟨⟨zz_in 100 (by decide +kernel) rfl, zz_in 24 (by decide +kernel) rfl, by decide +kernel, by decide, by decide⟩, rfl, rfl, rfl, ⟨"TurnipPages", zz_inN 98 (by decide +kernel) (by decide +kernel)⟩, zz_in 99 (by decide +kernel) rfl⟩
theorem ee_S_init_68 : zz_D mm_S_init 68 .aastore 1 69 := ⟨by decide +kernel, rfl⟩
theorem ee_S_init_69 : zz_D mm_S_init 69 (.iinc 1 1) 3 72 := ⟨by decide +kernel, rfl⟩
theorem ee_S_init_72 : zz_D mm_S_init 72 (.goto (-25)) 3 75 := ⟨by decide +kernel, rfl⟩
theorem ee_S_init_75 : zz_D mm_S_init 75 .return_ 1 76 := ⟨by decide +kernel, rfl⟩
theorem ee_O_fold_0 : zz_D mm_O_fold 0 (.aload_n 1) 1 1 := ⟨by decide +kernel, rfl⟩
theorem ee_O_fold_1 : zz_D mm_O_fold 1 (.invokevirtual 9) 3 4 := ⟨by decide +kernel, rfl⟩
theorem kk_O_fold_9 : zz_kV mm_O_fold mm_T_clear 9 0 := ⟨⟨zz_in 296 (by decide +kernel) rfl, zz_in 20 (by decide +kernel) rfl, by decide +kernel, by decide, by decide⟩, rfl, zz_in 304 (by decide +kernel) rfl, zz_in 294 (by decide +kernel) rfl, zz_in 295 (by decide +kernel) rfl⟩
theorem ee_O_fold_4 : zz_D mm_O_fold 4 (.iconst 0) 1 5 := ⟨by decide +kernel, rfl⟩
theorem ee_O_fold_5 : zz_D mm_O_fold 5 (.istore_n 2) 1 6 := ⟨by decide +kernel, rfl⟩
theorem ee_O_fold_6 : zz_D mm_O_fold 6 (.iconst 0) 1 7 := ⟨by decide +kernel, rfl⟩
theorem ee_O_fold_7 : zz_D mm_O_fold 7 (.istore_n 3) 1 8 := ⟨by decide +kernel, rfl⟩
theorem ee_O_fold_8 : zz_D mm_O_fold 8 (.iload_n 3) 1 9 := ⟨by decide +kernel, rfl⟩
theorem ee_O_fold_9 : zz_D mm_O_fold 9 (.aload_n 0) 1 10 := ⟨by decide +kernel, rfl⟩
theorem ee_O_fold_10 : zz_D mm_O_fold 10 (.getfield 14) 3 13 := ⟨by decide +kernel, rfl⟩
theorem ff_O_fold_14 : zz_F mm_O_fold 14 7 1 := ⟨by decide, zz_in 71 (by decide +kernel) rfl⟩
theorem ee_O_fold_13 : zz_D mm_O_fold 13 (.if_icmp .ge 33) 3 16 := ⟨by decide +kernel, rfl⟩
theorem ee_O_fold_16 : zz_D mm_O_fold 16 (.iinc 2 1) 3 19 := ⟨by decide +kernel, rfl⟩
theorem ee_O_fold_19 : zz_D mm_O_fold 19 (.aload_n 0) 1 20 := ⟨by decide +kernel, rfl⟩
theorem ee_O_fold_20 : zz_D mm_O_fold 20 (.iload_n 3) 1 21 := ⟨by decide +kernel, rfl⟩
theorem ee_O_fold_21 : zz_D mm_O_fold 21 (.iload_n 2) 1 22 := ⟨by decide +kernel, rfl⟩
theorem ee_O_fold_22 : zz_D mm_O_fold 22 (.invokestatic 18) 3 25 := ⟨by decide +kernel, rfl⟩
theorem kk_O_fold_18 : zz_kS mm_O_fold mm_O_endsRun 18 3 := ⟨⟨zz_in 307 (by decide +kernel) rfl, zz_in 41 (by decide +kernel) rfl, by decide +kernel, by decide, by decide⟩, rfl, zz_in 305 (by decide +kernel) rfl, zz_in 306 (by decide +kernel) rfl⟩
theorem ee_O_fold_25 : zz_D mm_O_fold 25 (.ifCond .eq 15) 3 28 := ⟨by decide +kernel, rfl⟩
theorem ee_O_fold_28 : zz_D mm_O_fold 28 (.aload_n 0) 1 29 := ⟨by decide +kernel, rfl⟩
theorem ee_O_fold_29 : zz_D mm_O_fold 29 (.iload_n 3) 1 30 := ⟨by decide +kernel, rfl⟩
theorem ee_O_fold_30 : zz_D mm_O_fold 30 (.invokevirtual 24) 3 33 := ⟨by decide +kernel, rfl⟩
theorem kk_O_fold_24 : zz_kV mm_O_fold mm_T_at 24 1 := ⟨⟨zz_in 311 (by decide +kernel) rfl, zz_in 20 (by decide +kernel) rfl, by decide +kernel, by decide, by decide⟩, rfl, zz_in 308 (by decide +kernel) rfl, zz_in 309 (by decide +kernel) rfl, zz_in 310 (by decide +kernel) rfl⟩
theorem ee_O_fold_33 : zz_D mm_O_fold 33 (.iload_n 2) 1 34 := ⟨by decide +kernel, rfl⟩
theorem ee_O_fold_34 : zz_D mm_O_fold 34 (.aload_n 1) 1 35 := ⟨by decide +kernel, rfl⟩
theorem ee_O_fold_35 : zz_D mm_O_fold 35 (.invokestatic 28) 3 38 := ⟨by decide +kernel, rfl⟩
theorem kk_O_fold_28 : zz_kS mm_O_fold mm_O_writeRun 28 3 := ⟨⟨zz_in 318 (by decide +kernel) rfl, zz_in 41 (by decide +kernel) rfl, by decide +kernel, by decide, by decide⟩, rfl, zz_in 316 (by decide +kernel) rfl, zz_in 317 (by decide +kernel) rfl⟩
theorem ee_O_fold_38 : zz_D mm_O_fold 38 (.iconst 0) 1 39 := ⟨by decide +kernel, rfl⟩
theorem ee_O_fold_39 : zz_D mm_O_fold 39 (.istore_n 2) 1 40 := ⟨by decide +kernel, rfl⟩
theorem ee_O_fold_40 : zz_D mm_O_fold 40 (.iinc 3 1) 3 43 := ⟨by decide +kernel, rfl⟩
theorem ee_O_fold_43 : zz_D mm_O_fold 43 (.goto (-35)) 3 46 := ⟨by decide +kernel, rfl⟩
theorem ee_O_fold_46 : zz_D mm_O_fold 46 .return_ 1 47 := ⟨by decide +kernel, rfl⟩
theorem ee_O_endsRun_0 : zz_D mm_O_endsRun 0 (.iload_n 2) 1 1 := ⟨by decide +kernel, rfl⟩
theorem ee_O_endsRun_1 : zz_D mm_O_endsRun 1 (.bipush 9) 2 3 := ⟨by decide +kernel, rfl⟩
theorem ee_O_endsRun_3 : zz_D mm_O_endsRun 3 (.if_icmp .eq 28) 3 6 := ⟨by decide +kernel, rfl⟩
theorem ee_O_endsRun_6 : zz_D mm_O_endsRun 6 (.iload_n 1) 1 7 := ⟨by decide +kernel, rfl⟩
theorem ee_O_endsRun_7 : zz_D mm_O_endsRun 7 (.iconst 1) 1 8 := ⟨by decide +kernel, rfl⟩
theorem ee_O_endsRun_8 : zz_D mm_O_endsRun 8 .iadd 1 9 := ⟨by decide +kernel, rfl⟩
theorem ee_O_endsRun_9 : zz_D mm_O_endsRun 9 (.aload_n 0) 1 10 := ⟨by decide +kernel, rfl⟩
theorem ee_O_endsRun_10 : zz_D mm_O_endsRun 10 (.getfield 14) 3 13 := ⟨by decide +kernel, rfl⟩
theorem ff_O_endsRun_14 : zz_F mm_O_endsRun 14 7 1 := ⟨by decide, zz_in 71 (by decide +kernel) rfl⟩
theorem ee_O_endsRun_13 : zz_D mm_O_endsRun 13 (.if_icmp .eq 18) 3 16 := ⟨by decide +kernel, rfl⟩
theorem ee_O_endsRun_16 : zz_D mm_O_endsRun 16 (.aload_n 0) 1 17 := ⟨by decide +kernel, rfl⟩
theorem ee_O_endsRun_17 : zz_D mm_O_endsRun 17 (.iload_n 1) 1 18 := ⟨by decide +kernel, rfl⟩
theorem ee_O_endsRun_18 : zz_D mm_O_endsRun 18 (.iconst 1) 1 19 := ⟨by decide +kernel, rfl⟩
theorem ee_O_endsRun_19 : zz_D mm_O_endsRun 19 .iadd 1 20 := ⟨by decide +kernel, rfl⟩
theorem ee_O_endsRun_20 : zz_D mm_O_endsRun 20 (.invokevirtual 24) 3 23 := ⟨by decide +kernel, rfl⟩
theorem kk_O_endsRun_24 : zz_kV mm_O_endsRun mm_T_at 24 1 := ⟨⟨zz_in 311 (by decide +kernel) rfl, zz_in 20 (by decide +kernel) rfl, by decide +kernel, by decide, by decide⟩, rfl, zz_in 308 (by decide +kernel) rfl, zz_in 309 (by decide +kernel) rfl, zz_in 310 (by decide +kernel) rfl⟩
theorem ee_O_endsRun_23 : zz_D mm_O_endsRun 23 (.aload_n 0) 1 24 := ⟨by decide +kernel, rfl⟩
theorem ee_O_endsRun_24 : zz_D mm_O_endsRun 24 (.iload_n 1) 1 25 := ⟨by decide +kernel, rfl⟩
theorem ee_O_endsRun_25 : zz_D mm_O_endsRun 25 (.invokevirtual 24) 3 28 := ⟨by decide +kernel, rfl⟩
theorem ee_O_endsRun_28 : zz_D mm_O_endsRun 28 (.if_icmp .eq 7) 3 31 := ⟨by decide +kernel, rfl⟩
theorem ee_O_endsRun_31 : zz_D mm_O_endsRun 31 (.iconst 1) 1 32 := ⟨by decide +kernel, rfl⟩
theorem ee_O_endsRun_32 : zz_D mm_O_endsRun 32 (.goto 4) 3 35 := ⟨by decide +kernel, rfl⟩
theorem ee_O_endsRun_35 : zz_D mm_O_endsRun 35 (.iconst 0) 1 36 := ⟨by decide +kernel, rfl⟩
theorem ee_O_endsRun_36 : zz_D mm_O_endsRun 36 .ireturn 1 37 := ⟨by decide +kernel, rfl⟩
theorem ee_O_writeRun_0 : zz_D mm_O_writeRun 0 (.iload_n 1) 1 1 := ⟨by decide +kernel, rfl⟩
theorem ee_O_writeRun_1 : zz_D mm_O_writeRun 1 (.iconst 3) 1 2 := ⟨by decide +kernel, rfl⟩
theorem ee_O_writeRun_2 : zz_D mm_O_writeRun 2 (.if_icmp .lt 7) 3 5 := ⟨by decide +kernel, rfl⟩
theorem ee_O_writeRun_5 : zz_D mm_O_writeRun 5 (.iconst 1) 1 6 := ⟨by decide +kernel, rfl⟩
theorem ee_O_writeRun_6 : zz_D mm_O_writeRun 6 (.goto 4) 3 9 := ⟨by decide +kernel, rfl⟩
theorem ee_O_writeRun_9 : zz_D mm_O_writeRun 9 (.iconst 0) 1 10 := ⟨by decide +kernel, rfl⟩
theorem ee_O_writeRun_10 : zz_D mm_O_writeRun 10 (.istore_n 3) 1 11 := ⟨by decide +kernel, rfl⟩
theorem ee_O_writeRun_11 : zz_D mm_O_writeRun 11 (.iload_n 0) 1 12 := ⟨by decide +kernel, rfl⟩
theorem ee_O_writeRun_12 : zz_D mm_O_writeRun 12 (.invokestatic 32) 3 15 := ⟨by decide +kernel, rfl⟩
theorem kk_O_writeRun_32 : zz_kS mm_O_writeRun mm_O_needsEscape 32 1 := ⟨⟨zz_in 321 (by decide +kernel) rfl, zz_in 41 (by decide +kernel) rfl, by decide +kernel, by decide, by decide⟩, rfl, zz_in 319 (by decide +kernel) rfl, zz_in 320 (by decide +kernel) rfl⟩
theorem ee_O_writeRun_15 : zz_D mm_O_writeRun 15 (.istore 4) 2 17 := ⟨by decide +kernel, rfl⟩
theorem ee_O_writeRun_17 : zz_D mm_O_writeRun 17 (.iload_n 3) 1 18 := ⟨by decide +kernel, rfl⟩
theorem ee_O_writeRun_18 : zz_D mm_O_writeRun 18 (.ifCond .eq 12) 3 21 := ⟨by decide +kernel, rfl⟩
theorem ee_O_writeRun_21 : zz_D mm_O_writeRun 21 (.aload_n 2) 1 22 := ⟨by decide +kernel, rfl⟩
theorem ee_O_writeRun_22 : zz_D mm_O_writeRun 22 (.bipush 48) 2 24 := ⟨by decide +kernel, rfl⟩
theorem ee_O_writeRun_24 : zz_D mm_O_writeRun 24 (.iload_n 1) 1 25 := ⟨by decide +kernel, rfl⟩
theorem ee_O_writeRun_25 : zz_D mm_O_writeRun 25 .iadd 1 26 := ⟨by decide +kernel, rfl⟩
theorem ee_O_writeRun_26 : zz_D mm_O_writeRun 26 .i2c 1 27 := ⟨by decide +kernel, rfl⟩
theorem ee_O_writeRun_27 : zz_D mm_O_writeRun 27 (.invokevirtual 36) 3 30 := ⟨by decide +kernel, rfl⟩
theorem kk_O_writeRun_36 : zz_kV mm_O_writeRun mm_T_add 36 1 := ⟨⟨zz_in 328 (by decide +kernel) rfl, zz_in 20 (by decide +kernel) rfl, by decide +kernel, by decide, by decide⟩, rfl, zz_in 325 (by decide +kernel) rfl, zz_in 326 (by decide +kernel) rfl, zz_in 327 (by decide +kernel) rfl⟩
theorem ee_O_writeRun_30 : zz_D mm_O_writeRun 30 (.iload_n 3) 1 31 := ⟨by decide +kernel, rfl⟩
theorem ee_O_writeRun_31 : zz_D mm_O_writeRun 31 (.ifCond .eq 7) 3 34 := ⟨by decide +kernel, rfl⟩
theorem ee_O_writeRun_34 : zz_D mm_O_writeRun 34 (.iconst 1) 1 35 := ⟨by decide +kernel, rfl⟩
theorem ee_O_writeRun_35 : zz_D mm_O_writeRun 35 (.goto 4) 3 38 := ⟨by decide +kernel, rfl⟩
theorem ee_O_writeRun_38 : zz_D mm_O_writeRun 38 (.iload_n 1) 1 39 := ⟨by decide +kernel, rfl⟩
theorem ee_O_writeRun_39 : zz_D mm_O_writeRun 39 (.istore 5) 2 41 := ⟨by decide +kernel, rfl⟩
theorem ee_O_writeRun_41 : zz_D mm_O_writeRun 41 (.iconst 0) 1 42 := ⟨by decide +kernel, rfl⟩
theorem ee_O_writeRun_42 : zz_D mm_O_writeRun 42 (.istore 6) 2 44 := ⟨by decide +kernel, rfl⟩
theorem ee_O_writeRun_44 : zz_D mm_O_writeRun 44 (.iload 6) 2 46 := ⟨by decide +kernel, rfl⟩
theorem ee_O_writeRun_46 : zz_D mm_O_writeRun 46 (.iload 5) 2 48 := ⟨by decide +kernel, rfl⟩
theorem ee_O_writeRun_48 : zz_D mm_O_writeRun 48 (.if_icmp .ge 25) 3 51 := ⟨by decide +kernel, rfl⟩
theorem ee_O_writeRun_51 : zz_D mm_O_writeRun 51 (.iload 4) 2 53 := ⟨by decide +kernel, rfl⟩
theorem ee_O_writeRun_53 : zz_D mm_O_writeRun 53 (.ifCond .eq 9) 3 56 := ⟨by decide +kernel, rfl⟩
theorem ee_O_writeRun_56 : zz_D mm_O_writeRun 56 (.aload_n 2) 1 57 := ⟨by decide +kernel, rfl⟩
theorem ee_O_writeRun_57 : zz_D mm_O_writeRun 57 (.bipush 92) 2 59 := ⟨by decide +kernel, rfl⟩
theorem ee_O_writeRun_59 : zz_D mm_O_writeRun 59 (.invokevirtual 36) 3 62 := ⟨by decide +kernel, rfl⟩
theorem ee_O_writeRun_62 : zz_D mm_O_writeRun 62 (.aload_n 2) 1 63 := ⟨by decide +kernel, rfl⟩
theorem ee_O_writeRun_63 : zz_D mm_O_writeRun 63 (.iload_n 0) 1 64 := ⟨by decide +kernel, rfl⟩
theorem ee_O_writeRun_64 : zz_D mm_O_writeRun 64 (.invokevirtual 36) 3 67 := ⟨by decide +kernel, rfl⟩
theorem ee_O_writeRun_67 : zz_D mm_O_writeRun 67 (.iinc 6 1) 3 70 := ⟨by decide +kernel, rfl⟩
theorem ee_O_writeRun_70 : zz_D mm_O_writeRun 70 (.goto (-26)) 3 73 := ⟨by decide +kernel, rfl⟩
theorem ee_O_writeRun_73 : zz_D mm_O_writeRun 73 .return_ 1 74 := ⟨by decide +kernel, rfl⟩
theorem ee_O_needsEscape_0 : zz_D mm_O_needsEscape 0 (.iload_n 0) 1 1 := ⟨by decide +kernel, rfl⟩
theorem ee_O_needsEscape_1 : zz_D mm_O_needsEscape 1 (.bipush 92) 2 3 := ⟨by decide +kernel, rfl⟩
theorem ee_O_needsEscape_3 : zz_D mm_O_needsEscape 3 (.if_icmp .eq 10) 3 6 := ⟨by decide +kernel, rfl⟩
theorem ee_O_needsEscape_6 : zz_D mm_O_needsEscape 6 (.iload_n 0) 1 7 := ⟨by decide +kernel, rfl⟩
theorem ee_O_needsEscape_7 : zz_D mm_O_needsEscape 7 (.invokestatic 40) 3 10 := ⟨by decide +kernel, rfl⟩
theorem kk_O_needsEscape_40 : zz_kSN mm_O_needsEscape mm_P_isDigit 40 1 := ⟨⟨zz_in 324 (by decide +kernel) rfl, zz_in 19 (by decide +kernel) rfl, by decide +kernel, by decide, by decide⟩, rfl, ⟨"TurnipPages", zz_inN 322 (by decide +kernel) (by decide +kernel)⟩, zz_in 323 (by decide +kernel) rfl⟩
theorem ee_O_needsEscape_10 : zz_D mm_O_needsEscape 10 (.ifCond .eq 7) 3 13 := ⟨by decide +kernel, rfl⟩
theorem ee_O_needsEscape_13 : zz_D mm_O_needsEscape 13 (.iconst 1) 1 14 := ⟨by decide +kernel, rfl⟩
theorem ee_O_needsEscape_14 : zz_D mm_O_needsEscape 14 (.goto 4) 3 17 := ⟨by decide +kernel, rfl⟩
theorem ee_O_needsEscape_17 : zz_D mm_O_needsEscape 17 (.iconst 0) 1 18 := ⟨by decide +kernel, rfl⟩
theorem ee_O_needsEscape_18 : zz_D mm_O_needsEscape 18 .ireturn 1 19 := ⟨by decide +kernel, rfl⟩
theorem ee_S_countRottenPages_0 : zz_D mm_S_countRottenPages 0 (.iconst 0) 1 1 := ⟨by decide +kernel, rfl⟩
theorem ee_S_countRottenPages_1 : zz_D mm_S_countRottenPages 1 (.istore_n 1) 1 2 := ⟨by decide +kernel, rfl⟩
theorem ee_S_countRottenPages_2 : zz_D mm_S_countRottenPages 2 (.iconst 0) 1 3 := ⟨by decide +kernel, rfl⟩
theorem ee_S_countRottenPages_3 : zz_D mm_S_countRottenPages 3 (.istore_n 2) 1 4 := ⟨by decide +kernel, rfl⟩
theorem ee_S_countRottenPages_4 : zz_D mm_S_countRottenPages 4 (.iload_n 2) 1 5 := ⟨by decide +kernel, rfl⟩
theorem ee_S_countRottenPages_5 : zz_D mm_S_countRottenPages 5 (.aload_n 0) 1 6 := ⟨by decide +kernel, rfl⟩
theorem ee_S_countRottenPages_6 : zz_D mm_S_countRottenPages 6 (.getfield 25) 3 9 := ⟨by decide +kernel, rfl⟩
theorem ff_S_countRottenPages_25 : zz_F mm_S_countRottenPages 25 5 3 := ⟨by decide, zz_in 147 (by decide +kernel) rfl⟩
theorem ee_S_countRottenPages_9 : zz_D mm_S_countRottenPages 9 (.if_icmp .ge 30) 3 12 := ⟨by decide +kernel, rfl⟩
theorem ee_S_countRottenPages_12 : zz_D mm_S_countRottenPages 12 (.iload_n 2) 1 13 := ⟨by decide +kernel, rfl⟩
theorem ee_S_countRottenPages_13 : zz_D mm_S_countRottenPages 13 (.aload_n 0) 1 14 := ⟨by decide +kernel, rfl⟩
theorem ee_S_countRottenPages_14 : zz_D mm_S_countRottenPages 14 (.getfield 17) 3 17 := ⟨by decide +kernel, rfl⟩
theorem ff_S_countRottenPages_17 : zz_F mm_S_countRottenPages 17 5 1 := ⟨by decide, zz_in 143 (by decide +kernel) rfl⟩
theorem ee_S_countRottenPages_17 : zz_D mm_S_countRottenPages 17 .arraylength 1 18 := ⟨by decide +kernel, rfl⟩
theorem ee_S_countRottenPages_18 : zz_D mm_S_countRottenPages 18 (.if_icmp .ge 21) 3 21 := ⟨by decide +kernel, rfl⟩
theorem ee_S_countRottenPages_21 : zz_D mm_S_countRottenPages 21 (.iload_n 1) 1 22 := ⟨by decide +kernel, rfl⟩
theorem ee_S_countRottenPages_22 : zz_D mm_S_countRottenPages 22 (.aload_n 0) 1 23 := ⟨by decide +kernel, rfl⟩
theorem ee_S_countRottenPages_23 : zz_D mm_S_countRottenPages 23 (.getfield 17) 3 26 := ⟨by decide +kernel, rfl⟩
theorem ee_S_countRottenPages_26 : zz_D mm_S_countRottenPages 26 (.iload_n 2) 1 27 := ⟨by decide +kernel, rfl⟩
theorem ee_S_countRottenPages_27 : zz_D mm_S_countRottenPages 27 .aaload 1 28 := ⟨by decide +kernel, rfl⟩
theorem ee_S_countRottenPages_28 : zz_D mm_S_countRottenPages 28 (.invokevirtual 76) 3 31 := ⟨by decide +kernel, rfl⟩
theorem kk_S_countRottenPages_76 : zz_kV mm_S_countRottenPages mm_G_countRottenPages 76 0 := ⟨⟨zz_in 352 (by decide +kernel) rfl, zz_in 24 (by decide +kernel) rfl, by decide +kernel, by decide, by decide⟩, rfl, zz_in 349 (by decide +kernel) rfl, zz_in 350 (by decide +kernel) rfl, zz_in 351 (by decide +kernel) rfl⟩
theorem ee_S_countRottenPages_31 : zz_D mm_S_countRottenPages 31 .iadd 1 32 := ⟨by decide +kernel, rfl⟩
theorem ee_S_countRottenPages_32 : zz_D mm_S_countRottenPages 32 (.istore_n 1) 1 33 := ⟨by decide +kernel, rfl⟩
theorem ee_S_countRottenPages_33 : zz_D mm_S_countRottenPages 33 (.iinc 2 1) 3 36 := ⟨by decide +kernel, rfl⟩
theorem ee_S_countRottenPages_36 : zz_D mm_S_countRottenPages 36 (.goto (-32)) 3 39 := ⟨by decide +kernel, rfl⟩
theorem ee_S_countRottenPages_39 : zz_D mm_S_countRottenPages 39 (.iload_n 1) 1 40 := ⟨by decide +kernel, rfl⟩
theorem ee_S_countRottenPages_40 : zz_D mm_S_countRottenPages 40 .ireturn 1 41 := ⟨by decide +kernel, rfl⟩
theorem ee_S_copyFrom_0 : zz_D mm_S_copyFrom 0 (.iconst 0) 1 1 := ⟨by decide +kernel, rfl⟩
theorem ee_S_copyFrom_1 : zz_D mm_S_copyFrom 1 (.istore_n 2) 1 2 := ⟨by decide +kernel, rfl⟩
theorem ee_S_copyFrom_2 : zz_D mm_S_copyFrom 2 (.iload_n 2) 1 3 := ⟨by decide +kernel, rfl⟩
theorem ee_S_copyFrom_3 : zz_D mm_S_copyFrom 3 (.aload_n 0) 1 4 := ⟨by decide +kernel, rfl⟩
theorem ee_S_copyFrom_4 : zz_D mm_S_copyFrom 4 (.getfield 9) 3 7 := ⟨by decide +kernel, rfl⟩
theorem ff_S_copyFrom_9 : zz_F mm_S_copyFrom 9 5 0 := ⟨by decide, zz_in 142 (by decide +kernel) rfl⟩
theorem ee_S_copyFrom_7 : zz_D mm_S_copyFrom 7 .arraylength 1 8 := ⟨by decide +kernel, rfl⟩
theorem ee_S_copyFrom_8 : zz_D mm_S_copyFrom 8 (.if_icmp .ge 20) 3 11 := ⟨by decide +kernel, rfl⟩
theorem ee_S_copyFrom_11 : zz_D mm_S_copyFrom 11 (.aload_n 0) 1 12 := ⟨by decide +kernel, rfl⟩
theorem ee_S_copyFrom_12 : zz_D mm_S_copyFrom 12 (.getfield 9) 3 15 := ⟨by decide +kernel, rfl⟩
theorem ee_S_copyFrom_15 : zz_D mm_S_copyFrom 15 (.iload_n 2) 1 16 := ⟨by decide +kernel, rfl⟩
theorem ee_S_copyFrom_16 : zz_D mm_S_copyFrom 16 (.aload_n 1) 1 17 := ⟨by decide +kernel, rfl⟩
theorem ee_S_copyFrom_17 : zz_D mm_S_copyFrom 17 (.iload_n 2) 1 18 := ⟨by decide +kernel, rfl⟩
theorem ee_S_copyFrom_18 : zz_D mm_S_copyFrom 18 (.invokevirtual 38) 3 21 := ⟨by decide +kernel, rfl⟩
theorem kk_S_copyFrom_38 : zz_kV mm_S_copyFrom mm_S_dampnessAt 38 1 := ⟨⟨zz_in 376 (by decide +kernel) rfl, zz_in 23 (by decide +kernel) rfl, by decide +kernel, by decide, by decide⟩, rfl, zz_in 373 (by decide +kernel) rfl, zz_in 374 (by decide +kernel) rfl, zz_in 375 (by decide +kernel) rfl⟩
theorem ee_S_copyFrom_21 : zz_D mm_S_copyFrom 21 .iastore 1 22 := ⟨by decide +kernel, rfl⟩
theorem ee_S_copyFrom_22 : zz_D mm_S_copyFrom 22 (.iinc 2 1) 3 25 := ⟨by decide +kernel, rfl⟩
theorem ee_S_copyFrom_25 : zz_D mm_S_copyFrom 25 (.goto (-23)) 3 28 := ⟨by decide +kernel, rfl⟩
theorem ee_S_copyFrom_28 : zz_D mm_S_copyFrom 28 (.iconst 0) 1 29 := ⟨by decide +kernel, rfl⟩
theorem ee_S_copyFrom_29 : zz_D mm_S_copyFrom 29 (.istore_n 2) 1 30 := ⟨by decide +kernel, rfl⟩
theorem ee_S_copyFrom_30 : zz_D mm_S_copyFrom 30 (.iload_n 2) 1 31 := ⟨by decide +kernel, rfl⟩
theorem ee_S_copyFrom_31 : zz_D mm_S_copyFrom 31 (.aload_n 0) 1 32 := ⟨by decide +kernel, rfl⟩
theorem ee_S_copyFrom_32 : zz_D mm_S_copyFrom 32 (.getfield 17) 3 35 := ⟨by decide +kernel, rfl⟩
theorem ff_S_copyFrom_17 : zz_F mm_S_copyFrom 17 5 1 := ⟨by decide, zz_in 143 (by decide +kernel) rfl⟩
theorem ee_S_copyFrom_35 : zz_D mm_S_copyFrom 35 .arraylength 1 36 := ⟨by decide +kernel, rfl⟩
theorem ee_S_copyFrom_36 : zz_D mm_S_copyFrom 36 (.if_icmp .ge 29) 3 39 := ⟨by decide +kernel, rfl⟩
theorem ee_S_copyFrom_39 : zz_D mm_S_copyFrom 39 (.aload_n 1) 1 40 := ⟨by decide +kernel, rfl⟩
theorem ee_S_copyFrom_40 : zz_D mm_S_copyFrom 40 (.iload_n 2) 1 41 := ⟨by decide +kernel, rfl⟩
theorem ee_S_copyFrom_41 : zz_D mm_S_copyFrom 41 (.invokevirtual 42) 3 44 := ⟨by decide +kernel, rfl⟩
theorem kk_S_copyFrom_42 : zz_kV mm_S_copyFrom mm_S_telegramIn 42 1 := ⟨⟨zz_in 384 (by decide +kernel) rfl, zz_in 23 (by decide +kernel) rfl, by decide +kernel, by decide, by decide⟩, rfl, zz_in 381 (by decide +kernel) rfl, zz_in 382 (by decide +kernel) rfl, zz_in 383 (by decide +kernel) rfl⟩
theorem ee_S_copyFrom_44 : zz_D mm_S_copyFrom 44 (.astore_n 3) 1 45 := ⟨by decide +kernel, rfl⟩
theorem ee_S_copyFrom_45 : zz_D mm_S_copyFrom 45 (.aload_n 3) 1 46 := ⟨by decide +kernel, rfl⟩
theorem ee_S_copyFrom_46 : zz_D mm_S_copyFrom 46 (.ifnull 13) 3 49 := ⟨by decide +kernel, rfl⟩
theorem ee_S_copyFrom_49 : zz_D mm_S_copyFrom 49 (.aload_n 0) 1 50 := ⟨by decide +kernel, rfl⟩
theorem ee_S_copyFrom_50 : zz_D mm_S_copyFrom 50 (.getfield 17) 3 53 := ⟨by decide +kernel, rfl⟩
theorem ee_S_copyFrom_53 : zz_D mm_S_copyFrom 53 (.iload_n 2) 1 54 := ⟨by decide +kernel, rfl⟩
theorem ee_S_copyFrom_54 : zz_D mm_S_copyFrom 54 .aaload 1 55 := ⟨by decide +kernel, rfl⟩
theorem ee_S_copyFrom_55 : zz_D mm_S_copyFrom 55 (.aload_n 3) 1 56 := ⟨by decide +kernel, rfl⟩
theorem ee_S_copyFrom_56 : zz_D mm_S_copyFrom 56 (.invokevirtual 46) 3 59 := ⟨by decide +kernel, rfl⟩
theorem kk_S_copyFrom_46 : zz_kV mm_S_copyFrom mm_G_copyFrom 46 1 := ⟨⟨zz_in 388 (by decide +kernel) rfl, zz_in 24 (by decide +kernel) rfl, by decide +kernel, by decide, by decide⟩, rfl, zz_in 385 (by decide +kernel) rfl, zz_in 386 (by decide +kernel) rfl, zz_in 387 (by decide +kernel) rfl⟩
theorem ee_S_copyFrom_59 : zz_D mm_S_copyFrom 59 (.iinc 2 1) 3 62 := ⟨by decide +kernel, rfl⟩
theorem ee_S_copyFrom_62 : zz_D mm_S_copyFrom 62 (.goto (-32)) 3 65 := ⟨by decide +kernel, rfl⟩
theorem ee_S_copyFrom_65 : zz_D mm_S_copyFrom 65 (.aload_n 0) 1 66 := ⟨by decide +kernel, rfl⟩
theorem ee_S_copyFrom_66 : zz_D mm_S_copyFrom 66 (.aload_n 1) 1 67 := ⟨by decide +kernel, rfl⟩
theorem ee_S_copyFrom_67 : zz_D mm_S_copyFrom 67 (.getfield 21) 3 70 := ⟨by decide +kernel, rfl⟩
theorem ff_S_copyFrom_21 : zz_F mm_S_copyFrom 21 5 2 := ⟨by decide, zz_in 144 (by decide +kernel) rfl⟩
theorem ee_S_copyFrom_70 : zz_D mm_S_copyFrom 70 (.putfield 21) 3 73 := ⟨by decide +kernel, rfl⟩
theorem ee_S_copyFrom_73 : zz_D mm_S_copyFrom 73 (.aload_n 0) 1 74 := ⟨by decide +kernel, rfl⟩
theorem ee_S_copyFrom_74 : zz_D mm_S_copyFrom 74 (.aload_n 1) 1 75 := ⟨by decide +kernel, rfl⟩
theorem ee_S_copyFrom_75 : zz_D mm_S_copyFrom 75 (.getfield 25) 3 78 := ⟨by decide +kernel, rfl⟩
theorem ff_S_copyFrom_25 : zz_F mm_S_copyFrom 25 5 3 := ⟨by decide, zz_in 147 (by decide +kernel) rfl⟩
theorem ee_S_copyFrom_78 : zz_D mm_S_copyFrom 78 (.putfield 25) 3 81 := ⟨by decide +kernel, rfl⟩
theorem ee_S_copyFrom_81 : zz_D mm_S_copyFrom 81 (.aload_n 0) 1 82 := ⟨by decide +kernel, rfl⟩
theorem ee_S_copyFrom_82 : zz_D mm_S_copyFrom 82 (.aload_n 1) 1 83 := ⟨by decide +kernel, rfl⟩
theorem ee_S_copyFrom_83 : zz_D mm_S_copyFrom 83 (.getfield 28) 3 86 := ⟨by decide +kernel, rfl⟩
theorem ff_S_copyFrom_28 : zz_F mm_S_copyFrom 28 5 4 := ⟨by decide, zz_in 150 (by decide +kernel) rfl⟩
theorem ee_S_copyFrom_86 : zz_D mm_S_copyFrom 86 (.putfield 28) 3 89 := ⟨by decide +kernel, rfl⟩
theorem ee_S_copyFrom_89 : zz_D mm_S_copyFrom 89 (.aload_n 0) 1 90 := ⟨by decide +kernel, rfl⟩
theorem ee_S_copyFrom_90 : zz_D mm_S_copyFrom 90 (.aload_n 1) 1 91 := ⟨by decide +kernel, rfl⟩
theorem ee_S_copyFrom_91 : zz_D mm_S_copyFrom 91 (.getfield 31) 3 94 := ⟨by decide +kernel, rfl⟩
theorem ff_S_copyFrom_31 : zz_F mm_S_copyFrom 31 5 5 := ⟨by decide, zz_in 151 (by decide +kernel) rfl⟩
theorem ee_S_copyFrom_94 : zz_D mm_S_copyFrom 94 (.putfield 31) 3 97 := ⟨by decide +kernel, rfl⟩
theorem ee_S_copyFrom_97 : zz_D mm_S_copyFrom 97 (.aload_n 0) 1 98 := ⟨by decide +kernel, rfl⟩
theorem ee_S_copyFrom_98 : zz_D mm_S_copyFrom 98 (.aload_n 1) 1 99 := ⟨by decide +kernel, rfl⟩
theorem ee_S_copyFrom_99 : zz_D mm_S_copyFrom 99 (.getfield 34) 3 102 := ⟨by decide +kernel, rfl⟩
theorem ff_S_copyFrom_34 : zz_F mm_S_copyFrom 34 5 6 := ⟨by decide, zz_in 154 (by decide +kernel) rfl⟩
theorem ee_S_copyFrom_102 : zz_D mm_S_copyFrom 102 (.putfield 34) 3 105 := ⟨by decide +kernel, rfl⟩
theorem ee_S_copyFrom_105 : zz_D mm_S_copyFrom 105 .return_ 1 106 := ⟨by decide +kernel, rfl⟩
theorem ee_S_dampnessAt_0 : zz_D mm_S_dampnessAt 0 (.aload_n 0) 1 1 := ⟨by decide +kernel, rfl⟩
theorem ee_S_dampnessAt_1 : zz_D mm_S_dampnessAt 1 (.iload_n 1) 1 2 := ⟨by decide +kernel, rfl⟩
theorem ee_S_dampnessAt_2 : zz_D mm_S_dampnessAt 2 (.invokevirtual 50) 3 5 := ⟨by decide +kernel, rfl⟩
theorem kk_S_dampnessAt_50 : zz_kV mm_S_dampnessAt mm_S_hasRoot 50 1 := ⟨⟨zz_in 380 (by decide +kernel) rfl, zz_in 23 (by decide +kernel) rfl, by decide +kernel, by decide, by decide⟩, rfl, zz_in 377 (by decide +kernel) rfl, zz_in 378 (by decide +kernel) rfl, zz_in 379 (by decide +kernel) rfl⟩
theorem ee_S_dampnessAt_5 : zz_D mm_S_dampnessAt 5 (.ifCond .eq 12) 3 8 := ⟨by decide +kernel, rfl⟩
theorem ee_S_dampnessAt_8 : zz_D mm_S_dampnessAt 8 (.aload_n 0) 1 9 := ⟨by decide +kernel, rfl⟩
theorem ee_S_dampnessAt_9 : zz_D mm_S_dampnessAt 9 (.getfield 9) 3 12 := ⟨by decide +kernel, rfl⟩
theorem ff_S_dampnessAt_9 : zz_F mm_S_dampnessAt 9 5 0 := ⟨by decide, zz_in 142 (by decide +kernel) rfl⟩
theorem ee_S_dampnessAt_12 : zz_D mm_S_dampnessAt 12 (.iload_n 1) 1 13 := ⟨by decide +kernel, rfl⟩
theorem ee_S_dampnessAt_13 : zz_D mm_S_dampnessAt 13 .iaload 1 14 := ⟨by decide +kernel, rfl⟩
theorem ee_S_dampnessAt_14 : zz_D mm_S_dampnessAt 14 (.goto 4) 3 17 := ⟨by decide +kernel, rfl⟩
theorem ee_S_dampnessAt_17 : zz_D mm_S_dampnessAt 17 (.iconst 0) 1 18 := ⟨by decide +kernel, rfl⟩
theorem ee_S_dampnessAt_18 : zz_D mm_S_dampnessAt 18 .ireturn 1 19 := ⟨by decide +kernel, rfl⟩
theorem ee_S_hasRoot_0 : zz_D mm_S_hasRoot 0 (.iload_n 1) 1 1 := ⟨by decide +kernel, rfl⟩
theorem ee_S_hasRoot_1 : zz_D mm_S_hasRoot 1 (.ifCond .lt 24) 3 4 := ⟨by decide +kernel, rfl⟩
theorem ee_S_hasRoot_4 : zz_D mm_S_hasRoot 4 (.iload_n 1) 1 5 := ⟨by decide +kernel, rfl⟩
theorem ee_S_hasRoot_5 : zz_D mm_S_hasRoot 5 (.aload_n 0) 1 6 := ⟨by decide +kernel, rfl⟩
theorem ee_S_hasRoot_6 : zz_D mm_S_hasRoot 6 (.getfield 21) 3 9 := ⟨by decide +kernel, rfl⟩
theorem ff_S_hasRoot_21 : zz_F mm_S_hasRoot 21 5 2 := ⟨by decide, zz_in 144 (by decide +kernel) rfl⟩
theorem ee_S_hasRoot_9 : zz_D mm_S_hasRoot 9 (.if_icmp .ge 16) 3 12 := ⟨by decide +kernel, rfl⟩
theorem ee_S_hasRoot_12 : zz_D mm_S_hasRoot 12 (.iload_n 1) 1 13 := ⟨by decide +kernel, rfl⟩
theorem ee_S_hasRoot_13 : zz_D mm_S_hasRoot 13 (.aload_n 0) 1 14 := ⟨by decide +kernel, rfl⟩
theorem ee_S_hasRoot_14 : zz_D mm_S_hasRoot 14 (.getfield 9) 3 17 := ⟨by decide +kernel, rfl⟩
theorem ff_S_hasRoot_9 : zz_F mm_S_hasRoot 9 5 0 := ⟨by decide, zz_in 142 (by decide +kernel) rfl⟩
theorem ee_S_hasRoot_17 : zz_D mm_S_hasRoot 17 .arraylength 1 18 := ⟨by decide +kernel, rfl⟩
theorem ee_S_hasRoot_18 : zz_D mm_S_hasRoot 18 (.if_icmp .ge 7) 3 21 := ⟨by decide +kernel, rfl⟩
theorem ee_S_hasRoot_21 : zz_D mm_S_hasRoot 21 (.iconst 1) 1 22 := ⟨by decide +kernel, rfl⟩
theorem ee_S_hasRoot_22 : zz_D mm_S_hasRoot 22 (.goto 4) 3 25 := ⟨by decide +kernel, rfl⟩
theorem ee_S_hasRoot_25 : zz_D mm_S_hasRoot 25 (.iconst 0) 1 26 := ⟨by decide +kernel, rfl⟩
theorem ee_S_hasRoot_26 : zz_D mm_S_hasRoot 26 .ireturn 1 27 := ⟨by decide +kernel, rfl⟩
theorem ee_S_telegramIn_0 : zz_D mm_S_telegramIn 0 (.iload_n 1) 1 1 := ⟨by decide +kernel, rfl⟩
theorem ee_S_telegramIn_1 : zz_D mm_S_telegramIn 1 (.ifCond .lt 24) 3 4 := ⟨by decide +kernel, rfl⟩
theorem ee_S_telegramIn_4 : zz_D mm_S_telegramIn 4 (.iload_n 1) 1 5 := ⟨by decide +kernel, rfl⟩
theorem ee_S_telegramIn_5 : zz_D mm_S_telegramIn 5 (.aload_n 0) 1 6 := ⟨by decide +kernel, rfl⟩
theorem ee_S_telegramIn_6 : zz_D mm_S_telegramIn 6 (.getfield 25) 3 9 := ⟨by decide +kernel, rfl⟩
theorem ff_S_telegramIn_25 : zz_F mm_S_telegramIn 25 5 3 := ⟨by decide, zz_in 147 (by decide +kernel) rfl⟩
theorem ee_S_telegramIn_9 : zz_D mm_S_telegramIn 9 (.if_icmp .ge 16) 3 12 := ⟨by decide +kernel, rfl⟩
theorem ee_S_telegramIn_12 : zz_D mm_S_telegramIn 12 (.iload_n 1) 1 13 := ⟨by decide +kernel, rfl⟩
theorem ee_S_telegramIn_13 : zz_D mm_S_telegramIn 13 (.aload_n 0) 1 14 := ⟨by decide +kernel, rfl⟩
theorem ee_S_telegramIn_14 : zz_D mm_S_telegramIn 14 (.getfield 17) 3 17 := ⟨by decide +kernel, rfl⟩
theorem ff_S_telegramIn_17 : zz_F mm_S_telegramIn 17 5 1 := ⟨by decide, zz_in 143 (by decide +kernel) rfl⟩
theorem ee_S_telegramIn_17 : zz_D mm_S_telegramIn 17 .arraylength 1 18 := ⟨by decide +kernel, rfl⟩
theorem ee_S_telegramIn_18 : zz_D mm_S_telegramIn 18 (.if_icmp .ge 7) 3 21 := ⟨by decide +kernel, rfl⟩
theorem ee_S_telegramIn_21 : zz_D mm_S_telegramIn 21 (.iconst 1) 1 22 := ⟨by decide +kernel, rfl⟩
theorem ee_S_telegramIn_22 : zz_D mm_S_telegramIn 22 (.goto 4) 3 25 := ⟨by decide +kernel, rfl⟩
theorem ee_S_telegramIn_25 : zz_D mm_S_telegramIn 25 (.iconst 0) 1 26 := ⟨by decide +kernel, rfl⟩
theorem ee_S_telegramIn_26 : zz_D mm_S_telegramIn 26 (.istore_n 2) 1 27 := ⟨by decide +kernel, rfl⟩
theorem ee_S_telegramIn_27 : zz_D mm_S_telegramIn 27 (.iload_n 2) 1 28 := ⟨by decide +kernel, rfl⟩
theorem ee_S_telegramIn_28 : zz_D mm_S_telegramIn 28 (.ifCond .eq 12) 3 31 := ⟨by decide +kernel, rfl⟩
theorem ee_S_telegramIn_31 : zz_D mm_S_telegramIn 31 (.aload_n 0) 1 32 := ⟨by decide +kernel, rfl⟩
theorem ee_S_telegramIn_32 : zz_D mm_S_telegramIn 32 (.getfield 17) 3 35 := ⟨by decide +kernel, rfl⟩
theorem ee_S_telegramIn_35 : zz_D mm_S_telegramIn 35 (.iload_n 1) 1 36 := ⟨by decide +kernel, rfl⟩
theorem ee_S_telegramIn_36 : zz_D mm_S_telegramIn 36 .aaload 1 37 := ⟨by decide +kernel, rfl⟩
theorem ee_S_telegramIn_37 : zz_D mm_S_telegramIn 37 (.goto 4) 3 40 := ⟨by decide +kernel, rfl⟩
theorem ee_S_telegramIn_40 : zz_D mm_S_telegramIn 40 .aconst_null 1 41 := ⟨by decide +kernel, rfl⟩
theorem ee_S_telegramIn_41 : zz_D mm_S_telegramIn 41 .areturn 1 42 := ⟨by decide +kernel, rfl⟩
theorem ee_S_putDampness_0 : zz_D mm_S_putDampness 0 (.aload_n 0) 1 1 := ⟨by decide +kernel, rfl⟩
theorem ee_S_putDampness_1 : zz_D mm_S_putDampness 1 (.iload_n 1) 1 2 := ⟨by decide +kernel, rfl⟩
theorem ee_S_putDampness_2 : zz_D mm_S_putDampness 2 (.invokevirtual 50) 3 5 := ⟨by decide +kernel, rfl⟩
theorem kk_S_putDampness_50 : zz_kV mm_S_putDampness mm_S_hasRoot 50 1 := ⟨⟨zz_in 380 (by decide +kernel) rfl, zz_in 23 (by decide +kernel) rfl, by decide +kernel, by decide, by decide⟩, rfl, zz_in 377 (by decide +kernel) rfl, zz_in 378 (by decide +kernel) rfl, zz_in 379 (by decide +kernel) rfl⟩
theorem ee_S_putDampness_5 : zz_D mm_S_putDampness 5 (.ifCond .eq 10) 3 8 := ⟨by decide +kernel, rfl⟩
theorem ee_S_putDampness_8 : zz_D mm_S_putDampness 8 (.aload_n 0) 1 9 := ⟨by decide +kernel, rfl⟩
theorem ee_S_putDampness_9 : zz_D mm_S_putDampness 9 (.getfield 9) 3 12 := ⟨by decide +kernel, rfl⟩
theorem ff_S_putDampness_9 : zz_F mm_S_putDampness 9 5 0 := ⟨by decide, zz_in 142 (by decide +kernel) rfl⟩
theorem ee_S_putDampness_12 : zz_D mm_S_putDampness 12 (.iload_n 1) 1 13 := ⟨by decide +kernel, rfl⟩
theorem ee_S_putDampness_13 : zz_D mm_S_putDampness 13 (.iload_n 2) 1 14 := ⟨by decide +kernel, rfl⟩
theorem ee_S_putDampness_14 : zz_D mm_S_putDampness 14 .iastore 1 15 := ⟨by decide +kernel, rfl⟩
theorem ee_S_putDampness_15 : zz_D mm_S_putDampness 15 .return_ 1 16 := ⟨by decide +kernel, rfl⟩
theorem ee_S_countPagesIn_0 : zz_D mm_S_countPagesIn 0 (.iconst 0) 1 1 := ⟨by decide +kernel, rfl⟩
theorem ee_S_countPagesIn_1 : zz_D mm_S_countPagesIn 1 (.istore_n 2) 1 2 := ⟨by decide +kernel, rfl⟩
theorem ee_S_countPagesIn_2 : zz_D mm_S_countPagesIn 2 (.iconst 0) 1 3 := ⟨by decide +kernel, rfl⟩
theorem ee_S_countPagesIn_3 : zz_D mm_S_countPagesIn 3 (.istore_n 3) 1 4 := ⟨by decide +kernel, rfl⟩
theorem ee_S_countPagesIn_4 : zz_D mm_S_countPagesIn 4 (.iload_n 3) 1 5 := ⟨by decide +kernel, rfl⟩
theorem ee_S_countPagesIn_5 : zz_D mm_S_countPagesIn 5 (.aload_n 0) 1 6 := ⟨by decide +kernel, rfl⟩
theorem ee_S_countPagesIn_6 : zz_D mm_S_countPagesIn 6 (.getfield 25) 3 9 := ⟨by decide +kernel, rfl⟩
theorem ff_S_countPagesIn_25 : zz_F mm_S_countPagesIn 25 5 3 := ⟨by decide, zz_in 147 (by decide +kernel) rfl⟩
theorem ee_S_countPagesIn_9 : zz_D mm_S_countPagesIn 9 (.if_icmp .ge 47) 3 12 := ⟨by decide +kernel, rfl⟩
theorem ee_S_countPagesIn_12 : zz_D mm_S_countPagesIn 12 (.iload_n 3) 1 13 := ⟨by decide +kernel, rfl⟩
theorem ee_S_countPagesIn_13 : zz_D mm_S_countPagesIn 13 (.aload_n 0) 1 14 := ⟨by decide +kernel, rfl⟩
theorem ee_S_countPagesIn_14 : zz_D mm_S_countPagesIn 14 (.getfield 17) 3 17 := ⟨by decide +kernel, rfl⟩
theorem ff_S_countPagesIn_17 : zz_F mm_S_countPagesIn 17 5 1 := ⟨by decide, zz_in 143 (by decide +kernel) rfl⟩
theorem ee_S_countPagesIn_17 : zz_D mm_S_countPagesIn 17 .arraylength 1 18 := ⟨by decide +kernel, rfl⟩
theorem ee_S_countPagesIn_18 : zz_D mm_S_countPagesIn 18 (.if_icmp .ge 38) 3 21 := ⟨by decide +kernel, rfl⟩
theorem ee_S_countPagesIn_21 : zz_D mm_S_countPagesIn 21 (.iload_n 2) 1 22 := ⟨by decide +kernel, rfl⟩
theorem ee_S_countPagesIn_22 : zz_D mm_S_countPagesIn 22 (.aload_n 0) 1 23 := ⟨by decide +kernel, rfl⟩
theorem ee_S_countPagesIn_23 : zz_D mm_S_countPagesIn 23 (.getfield 17) 3 26 := ⟨by decide +kernel, rfl⟩
theorem ee_S_countPagesIn_26 : zz_D mm_S_countPagesIn 26 (.iload_n 3) 1 27 := ⟨by decide +kernel, rfl⟩
theorem ee_S_countPagesIn_27 : zz_D mm_S_countPagesIn 27 .aaload 1 28 := ⟨by decide +kernel, rfl⟩
theorem ee_S_countPagesIn_28 : zz_D mm_S_countPagesIn 28 (.getfield 70) 3 31 := ⟨by decide +kernel, rfl⟩
theorem ff_S_countPagesIn_70 : zz_F mm_S_countPagesIn 70 6 4 := ⟨by decide, zz_in 119 (by decide +kernel) rfl⟩
theorem ee_S_countPagesIn_31 : zz_D mm_S_countPagesIn 31 (.iload_n 1) 1 32 := ⟨by decide +kernel, rfl⟩
theorem ee_S_countPagesIn_32 : zz_D mm_S_countPagesIn 32 (.if_icmp .ne 15) 3 35 := ⟨by decide +kernel, rfl⟩
theorem ee_S_countPagesIn_35 : zz_D mm_S_countPagesIn 35 (.aload_n 0) 1 36 := ⟨by decide +kernel, rfl⟩
theorem ee_S_countPagesIn_36 : zz_D mm_S_countPagesIn 36 (.getfield 17) 3 39 := ⟨by decide +kernel, rfl⟩
theorem ee_S_countPagesIn_39 : zz_D mm_S_countPagesIn 39 (.iload_n 3) 1 40 := ⟨by decide +kernel, rfl⟩
theorem ee_S_countPagesIn_40 : zz_D mm_S_countPagesIn 40 .aaload 1 41 := ⟨by decide +kernel, rfl⟩
theorem ee_S_countPagesIn_41 : zz_D mm_S_countPagesIn 41 (.getfield 73) 3 44 := ⟨by decide +kernel, rfl⟩
theorem ff_S_countPagesIn_73 : zz_F mm_S_countPagesIn 73 6 2 := ⟨by decide, zz_in 111 (by decide +kernel) rfl⟩
theorem ee_S_countPagesIn_44 : zz_D mm_S_countPagesIn 44 (.goto 4) 3 47 := ⟨by decide +kernel, rfl⟩
theorem ee_S_countPagesIn_47 : zz_D mm_S_countPagesIn 47 (.iconst 0) 1 48 := ⟨by decide +kernel, rfl⟩
theorem ee_S_countPagesIn_48 : zz_D mm_S_countPagesIn 48 .iadd 1 49 := ⟨by decide +kernel, rfl⟩
theorem ee_S_countPagesIn_49 : zz_D mm_S_countPagesIn 49 (.istore_n 2) 1 50 := ⟨by decide +kernel, rfl⟩
theorem ee_S_countPagesIn_50 : zz_D mm_S_countPagesIn 50 (.iinc 3 1) 3 53 := ⟨by decide +kernel, rfl⟩
theorem ee_S_countPagesIn_53 : zz_D mm_S_countPagesIn 53 (.goto (-49)) 3 56 := ⟨by decide +kernel, rfl⟩
theorem ee_S_countPagesIn_56 : zz_D mm_S_countPagesIn 56 (.iload_n 2) 1 57 := ⟨by decide +kernel, rfl⟩
theorem ee_S_countPagesIn_57 : zz_D mm_S_countPagesIn 57 .ireturn 1 58 := ⟨by decide +kernel, rfl⟩
theorem ee_S_hasRoomFor_0 : zz_D mm_S_hasRoomFor 0 (.aload_n 0) 1 1 := ⟨by decide +kernel, rfl⟩
theorem ee_S_hasRoomFor_1 : zz_D mm_S_hasRoomFor 1 (.iload_n 1) 1 2 := ⟨by decide +kernel, rfl⟩
theorem ee_S_hasRoomFor_2 : zz_D mm_S_hasRoomFor 2 (.invokevirtual 60) 3 5 := ⟨by decide +kernel, rfl⟩
theorem kk_S_hasRoomFor_60 : zz_kV mm_S_hasRoomFor mm_S_countPagesIn 60 1 := ⟨⟨zz_in 640 (by decide +kernel) rfl, zz_in 23 (by decide +kernel) rfl, by decide +kernel, by decide, by decide⟩, rfl, zz_in 661 (by decide +kernel) rfl, zz_in 638 (by decide +kernel) rfl, zz_in 639 (by decide +kernel) rfl⟩
theorem ee_S_hasRoomFor_5 : zz_D mm_S_hasRoomFor 5 (.iload_n 2) 1 6 := ⟨by decide +kernel, rfl⟩
theorem ee_S_hasRoomFor_6 : zz_D mm_S_hasRoomFor 6 .iadd 1 7 := ⟨by decide +kernel, rfl⟩
theorem ee_S_hasRoomFor_7 : zz_D mm_S_hasRoomFor 7 (.bipush 8) 2 9 := ⟨by decide +kernel, rfl⟩
theorem ee_S_hasRoomFor_9 : zz_D mm_S_hasRoomFor 9 (.if_icmp .gt 7) 3 12 := ⟨by decide +kernel, rfl⟩
theorem ee_S_hasRoomFor_12 : zz_D mm_S_hasRoomFor 12 (.iconst 1) 1 13 := ⟨by decide +kernel, rfl⟩
theorem ee_S_hasRoomFor_13 : zz_D mm_S_hasRoomFor 13 (.goto 4) 3 16 := ⟨by decide +kernel, rfl⟩
theorem ee_S_hasRoomFor_16 : zz_D mm_S_hasRoomFor 16 (.iconst 0) 1 17 := ⟨by decide +kernel, rfl⟩
theorem ee_S_hasRoomFor_17 : zz_D mm_S_hasRoomFor 17 .ireturn 1 18 := ⟨by decide +kernel, rfl⟩
theorem ee_S_addTelegram_0 : zz_D mm_S_addTelegram 0 (.aload_n 0) 1 1 := ⟨by decide +kernel, rfl⟩
theorem ee_S_addTelegram_1 : zz_D mm_S_addTelegram 1 (.getfield 25) 3 4 := ⟨by decide +kernel, rfl⟩
theorem ff_S_addTelegram_25 : zz_F mm_S_addTelegram 25 5 3 := ⟨by decide, zz_in 147 (by decide +kernel) rfl⟩
theorem ee_S_addTelegram_4 : zz_D mm_S_addTelegram 4 (.ifCond .lt 15) 3 7 := ⟨by decide +kernel, rfl⟩
theorem ee_S_addTelegram_7 : zz_D mm_S_addTelegram 7 (.aload_n 0) 1 8 := ⟨by decide +kernel, rfl⟩
theorem ee_S_addTelegram_8 : zz_D mm_S_addTelegram 8 (.getfield 25) 3 11 := ⟨by decide +kernel, rfl⟩
theorem ee_S_addTelegram_11 : zz_D mm_S_addTelegram 11 (.aload_n 0) 1 12 := ⟨by decide +kernel, rfl⟩
theorem ee_S_addTelegram_12 : zz_D mm_S_addTelegram 12 (.getfield 17) 3 15 := ⟨by decide +kernel, rfl⟩
theorem ff_S_addTelegram_17 : zz_F mm_S_addTelegram 17 5 1 := ⟨by decide, zz_in 143 (by decide +kernel) rfl⟩
theorem ee_S_addTelegram_15 : zz_D mm_S_addTelegram 15 .arraylength 1 16 := ⟨by decide +kernel, rfl⟩
theorem ee_S_addTelegram_16 : zz_D mm_S_addTelegram 16 (.if_icmp .lt 5) 3 19 := ⟨by decide +kernel, rfl⟩
theorem ee_S_addTelegram_19 : zz_D mm_S_addTelegram 19 .aconst_null 1 20 := ⟨by decide +kernel, rfl⟩
theorem ee_S_addTelegram_20 : zz_D mm_S_addTelegram 20 .areturn 1 21 := ⟨by decide +kernel, rfl⟩
theorem ee_S_addTelegram_21 : zz_D mm_S_addTelegram 21 (.aload_n 0) 1 22 := ⟨by decide +kernel, rfl⟩
theorem ee_S_addTelegram_22 : zz_D mm_S_addTelegram 22 (.getfield 17) 3 25 := ⟨by decide +kernel, rfl⟩
theorem ee_S_addTelegram_25 : zz_D mm_S_addTelegram 25 (.aload_n 0) 1 26 := ⟨by decide +kernel, rfl⟩
theorem ee_S_addTelegram_26 : zz_D mm_S_addTelegram 26 (.getfield 25) 3 29 := ⟨by decide +kernel, rfl⟩
theorem ee_S_addTelegram_29 : zz_D mm_S_addTelegram 29 .aaload 1 30 := ⟨by decide +kernel, rfl⟩
theorem ee_S_addTelegram_30 : zz_D mm_S_addTelegram 30 (.astore_n 1) 1 31 := ⟨by decide +kernel, rfl⟩
theorem ee_S_addTelegram_31 : zz_D mm_S_addTelegram 31 (.aload_n 1) 1 32 := ⟨by decide +kernel, rfl⟩
theorem ee_S_addTelegram_32 : zz_D mm_S_addTelegram 32 (.aload_n 0) 1 33 := ⟨by decide +kernel, rfl⟩
theorem ee_S_addTelegram_33 : zz_D mm_S_addTelegram 33 (.getfield 28) 3 36 := ⟨by decide +kernel, rfl⟩
theorem ff_S_addTelegram_28 : zz_F mm_S_addTelegram 28 5 4 := ⟨by decide, zz_in 150 (by decide +kernel) rfl⟩
theorem ee_S_addTelegram_36 : zz_D mm_S_addTelegram 36 (.putfield 54) 3 39 := ⟨by decide +kernel, rfl⟩
theorem ff_S_addTelegram_54 : zz_F mm_S_addTelegram 54 6 3 := ⟨by decide, zz_in 115 (by decide +kernel) rfl⟩
theorem ee_S_addTelegram_39 : zz_D mm_S_addTelegram 39 (.aload_n 0) 1 40 := ⟨by decide +kernel, rfl⟩
theorem ee_S_addTelegram_40 : zz_D mm_S_addTelegram 40 .dup 1 41 := ⟨by decide +kernel, rfl⟩
theorem ee_S_addTelegram_41 : zz_D mm_S_addTelegram 41 (.getfield 25) 3 44 := ⟨by decide +kernel, rfl⟩
theorem ee_S_addTelegram_44 : zz_D mm_S_addTelegram 44 (.iconst 1) 1 45 := ⟨by decide +kernel, rfl⟩
theorem ee_S_addTelegram_45 : zz_D mm_S_addTelegram 45 .iadd 1 46 := ⟨by decide +kernel, rfl⟩
theorem ee_S_addTelegram_46 : zz_D mm_S_addTelegram 46 (.putfield 25) 3 49 := ⟨by decide +kernel, rfl⟩
theorem ee_S_addTelegram_49 : zz_D mm_S_addTelegram 49 (.aload_n 0) 1 50 := ⟨by decide +kernel, rfl⟩
theorem ee_S_addTelegram_50 : zz_D mm_S_addTelegram 50 .dup 1 51 := ⟨by decide +kernel, rfl⟩
theorem ee_S_addTelegram_51 : zz_D mm_S_addTelegram 51 (.getfield 28) 3 54 := ⟨by decide +kernel, rfl⟩
theorem ee_S_addTelegram_54 : zz_D mm_S_addTelegram 54 (.iconst 1) 1 55 := ⟨by decide +kernel, rfl⟩
theorem ee_S_addTelegram_55 : zz_D mm_S_addTelegram 55 .iadd 1 56 := ⟨by decide +kernel, rfl⟩
theorem ee_S_addTelegram_56 : zz_D mm_S_addTelegram 56 (.putfield 28) 3 59 := ⟨by decide +kernel, rfl⟩
theorem ee_S_addTelegram_59 : zz_D mm_S_addTelegram 59 (.aload_n 1) 1 60 := ⟨by decide +kernel, rfl⟩
theorem ee_S_addTelegram_60 : zz_D mm_S_addTelegram 60 .areturn 1 61 := ⟨by decide +kernel, rfl⟩
theorem ee_O_sumOf_0 : zz_D mm_O_sumOf 0 (.iconst 0) 1 1 := ⟨by decide +kernel, rfl⟩
theorem ee_O_sumOf_1 : zz_D mm_O_sumOf 1 (.istore_n 1) 1 2 := ⟨by decide +kernel, rfl⟩
theorem ee_O_sumOf_2 : zz_D mm_O_sumOf 2 (.iconst 0) 1 3 := ⟨by decide +kernel, rfl⟩
theorem ee_O_sumOf_3 : zz_D mm_O_sumOf 3 (.istore_n 2) 1 4 := ⟨by decide +kernel, rfl⟩
theorem ee_O_sumOf_4 : zz_D mm_O_sumOf 4 (.iload_n 2) 1 5 := ⟨by decide +kernel, rfl⟩
theorem ee_O_sumOf_5 : zz_D mm_O_sumOf 5 (.aload_n 0) 1 6 := ⟨by decide +kernel, rfl⟩
theorem ee_O_sumOf_6 : zz_D mm_O_sumOf 6 (.getfield 14) 3 9 := ⟨by decide +kernel, rfl⟩
theorem ff_O_sumOf_14 : zz_F mm_O_sumOf 14 7 1 := ⟨by decide, zz_in 71 (by decide +kernel) rfl⟩
theorem ee_O_sumOf_9 : zz_D mm_O_sumOf 9 (.if_icmp .ge 21) 3 12 := ⟨by decide +kernel, rfl⟩
theorem ee_O_sumOf_12 : zz_D mm_O_sumOf 12 (.iload_n 1) 1 13 := ⟨by decide +kernel, rfl⟩
theorem ee_O_sumOf_13 : zz_D mm_O_sumOf 13 (.aload_n 0) 1 14 := ⟨by decide +kernel, rfl⟩
theorem ee_O_sumOf_14 : zz_D mm_O_sumOf 14 (.iload_n 2) 1 15 := ⟨by decide +kernel, rfl⟩
theorem ee_O_sumOf_15 : zz_D mm_O_sumOf 15 (.invokevirtual 24) 3 18 := ⟨by decide +kernel, rfl⟩
theorem kk_O_sumOf_24 : zz_kV mm_O_sumOf mm_T_at 24 1 := ⟨⟨zz_in 311 (by decide +kernel) rfl, zz_in 20 (by decide +kernel) rfl, by decide +kernel, by decide, by decide⟩, rfl, zz_in 308 (by decide +kernel) rfl, zz_in 309 (by decide +kernel) rfl, zz_in 310 (by decide +kernel) rfl⟩
theorem ee_O_sumOf_18 : zz_D mm_O_sumOf 18 (.iload_n 2) 1 19 := ⟨by decide +kernel, rfl⟩
theorem ee_O_sumOf_19 : zz_D mm_O_sumOf 19 (.iconst 1) 1 20 := ⟨by decide +kernel, rfl⟩
theorem ee_O_sumOf_20 : zz_D mm_O_sumOf 20 .iadd 1 21 := ⟨by decide +kernel, rfl⟩
theorem ee_O_sumOf_21 : zz_D mm_O_sumOf 21 .imul 1 22 := ⟨by decide +kernel, rfl⟩
theorem ee_O_sumOf_22 : zz_D mm_O_sumOf 22 .iadd 1 23 := ⟨by decide +kernel, rfl⟩
theorem ee_O_sumOf_23 : zz_D mm_O_sumOf 23 (.istore_n 1) 1 24 := ⟨by decide +kernel, rfl⟩
theorem ee_O_sumOf_24 : zz_D mm_O_sumOf 24 (.iinc 2 1) 3 27 := ⟨by decide +kernel, rfl⟩
theorem ee_O_sumOf_27 : zz_D mm_O_sumOf 27 (.goto (-23)) 3 30 := ⟨by decide +kernel, rfl⟩
theorem ee_O_sumOf_30 : zz_D mm_O_sumOf 30 (.iload_n 1) 1 31 := ⟨by decide +kernel, rfl⟩
theorem ee_O_sumOf_31 : zz_D mm_O_sumOf 31 (.bipush 97) 2 33 := ⟨by decide +kernel, rfl⟩
theorem ee_O_sumOf_33 : zz_D mm_O_sumOf 33 .irem 1 34 := ⟨by decide +kernel, rfl⟩
theorem ee_O_sumOf_34 : zz_D mm_O_sumOf 34 .ireturn 1 35 := ⟨by decide +kernel, rfl⟩
theorem ee_S_removeTelegram_0 : zz_D mm_S_removeTelegram 0 (.aload_n 0) 1 1 := ⟨by decide +kernel, rfl⟩
theorem ee_S_removeTelegram_1 : zz_D mm_S_removeTelegram 1 (.iload_n 1) 1 2 := ⟨by decide +kernel, rfl⟩
theorem ee_S_removeTelegram_2 : zz_D mm_S_removeTelegram 2 (.invokevirtual 57) 3 5 := ⟨by decide +kernel, rfl⟩
theorem kk_S_removeTelegram_57 : zz_kV mm_S_removeTelegram mm_S_positionOf 57 1 := ⟨⟨zz_in 693 (by decide +kernel) rfl, zz_in 23 (by decide +kernel) rfl, by decide +kernel, by decide, by decide⟩, rfl, zz_in 690 (by decide +kernel) rfl, zz_in 692 (by decide +kernel) rfl, zz_in 5 (by decide +kernel) rfl⟩
theorem ee_S_removeTelegram_5 : zz_D mm_S_removeTelegram 5 (.istore_n 2) 1 6 := ⟨by decide +kernel, rfl⟩
theorem ee_S_removeTelegram_6 : zz_D mm_S_removeTelegram 6 (.aload_n 0) 1 7 := ⟨by decide +kernel, rfl⟩
theorem ee_S_removeTelegram_7 : zz_D mm_S_removeTelegram 7 (.iload_n 2) 1 8 := ⟨by decide +kernel, rfl⟩
theorem ee_S_removeTelegram_8 : zz_D mm_S_removeTelegram 8 (.invokevirtual 42) 3 11 := ⟨by decide +kernel, rfl⟩
theorem kk_S_removeTelegram_42 : zz_kV mm_S_removeTelegram mm_S_telegramIn 42 1 := ⟨⟨zz_in 384 (by decide +kernel) rfl, zz_in 23 (by decide +kernel) rfl, by decide +kernel, by decide, by decide⟩, rfl, zz_in 381 (by decide +kernel) rfl, zz_in 382 (by decide +kernel) rfl, zz_in 383 (by decide +kernel) rfl⟩
theorem ee_S_removeTelegram_11 : zz_D mm_S_removeTelegram 11 (.astore_n 3) 1 12 := ⟨by decide +kernel, rfl⟩
theorem ee_S_removeTelegram_12 : zz_D mm_S_removeTelegram 12 (.aload_n 3) 1 13 := ⟨by decide +kernel, rfl⟩
theorem ee_S_removeTelegram_13 : zz_D mm_S_removeTelegram 13 (.ifnonnull 5) 3 16 := ⟨by decide +kernel, rfl⟩
theorem ee_S_removeTelegram_16 : zz_D mm_S_removeTelegram 16 (.iconst 0) 1 17 := ⟨by decide +kernel, rfl⟩
theorem ee_S_removeTelegram_17 : zz_D mm_S_removeTelegram 17 .ireturn 1 18 := ⟨by decide +kernel, rfl⟩
theorem ee_S_removeTelegram_18 : zz_D mm_S_removeTelegram 18 (.iload_n 2) 1 19 := ⟨by decide +kernel, rfl⟩
theorem ee_S_removeTelegram_19 : zz_D mm_S_removeTelegram 19 (.istore 4) 2 21 := ⟨by decide +kernel, rfl⟩
theorem ee_S_removeTelegram_21 : zz_D mm_S_removeTelegram 21 (.iload 4) 2 23 := ⟨by decide +kernel, rfl⟩
theorem ee_S_removeTelegram_23 : zz_D mm_S_removeTelegram 23 (.iconst 1) 1 24 := ⟨by decide +kernel, rfl⟩
theorem ee_S_removeTelegram_24 : zz_D mm_S_removeTelegram 24 .iadd 1 25 := ⟨by decide +kernel, rfl⟩
theorem ee_S_removeTelegram_25 : zz_D mm_S_removeTelegram 25 (.aload_n 0) 1 26 := ⟨by decide +kernel, rfl⟩
theorem ee_S_removeTelegram_26 : zz_D mm_S_removeTelegram 26 (.getfield 17) 3 29 := ⟨by decide +kernel, rfl⟩
theorem ff_S_removeTelegram_17 : zz_F mm_S_removeTelegram 17 5 1 := ⟨by decide, zz_in 143 (by decide +kernel) rfl⟩
theorem ee_S_removeTelegram_29 : zz_D mm_S_removeTelegram 29 .arraylength 1 30 := ⟨by decide +kernel, rfl⟩
theorem ee_S_removeTelegram_30 : zz_D mm_S_removeTelegram 30 (.if_icmp .ge 25) 3 33 := ⟨by decide +kernel, rfl⟩
theorem ee_S_removeTelegram_33 : zz_D mm_S_removeTelegram 33 (.aload_n 0) 1 34 := ⟨by decide +kernel, rfl⟩
theorem ee_S_removeTelegram_34 : zz_D mm_S_removeTelegram 34 (.getfield 17) 3 37 := ⟨by decide +kernel, rfl⟩
theorem ee_S_removeTelegram_37 : zz_D mm_S_removeTelegram 37 (.iload 4) 2 39 := ⟨by decide +kernel, rfl⟩
theorem ee_S_removeTelegram_39 : zz_D mm_S_removeTelegram 39 (.aload_n 0) 1 40 := ⟨by decide +kernel, rfl⟩
theorem ee_S_removeTelegram_40 : zz_D mm_S_removeTelegram 40 (.getfield 17) 3 43 := ⟨by decide +kernel, rfl⟩
theorem ee_S_removeTelegram_43 : zz_D mm_S_removeTelegram 43 (.iload 4) 2 45 := ⟨by decide +kernel, rfl⟩
theorem ee_S_removeTelegram_45 : zz_D mm_S_removeTelegram 45 (.iconst 1) 1 46 := ⟨by decide +kernel, rfl⟩
theorem ee_S_removeTelegram_46 : zz_D mm_S_removeTelegram 46 .iadd 1 47 := ⟨by decide +kernel, rfl⟩
theorem ee_S_removeTelegram_47 : zz_D mm_S_removeTelegram 47 .aaload 1 48 := ⟨by decide +kernel, rfl⟩
theorem ee_S_removeTelegram_48 : zz_D mm_S_removeTelegram 48 .aastore 1 49 := ⟨by decide +kernel, rfl⟩
theorem ee_S_removeTelegram_49 : zz_D mm_S_removeTelegram 49 (.iinc 4 1) 3 52 := ⟨by decide +kernel, rfl⟩
theorem ee_S_removeTelegram_52 : zz_D mm_S_removeTelegram 52 (.goto (-31)) 3 55 := ⟨by decide +kernel, rfl⟩
theorem ee_S_removeTelegram_55 : zz_D mm_S_removeTelegram 55 (.aload_n 0) 1 56 := ⟨by decide +kernel, rfl⟩
theorem ee_S_removeTelegram_56 : zz_D mm_S_removeTelegram 56 (.getfield 17) 3 59 := ⟨by decide +kernel, rfl⟩
theorem ee_S_removeTelegram_59 : zz_D mm_S_removeTelegram 59 (.aload_n 0) 1 60 := ⟨by decide +kernel, rfl⟩
theorem ee_S_removeTelegram_60 : zz_D mm_S_removeTelegram 60 (.getfield 17) 3 63 := ⟨by decide +kernel, rfl⟩
theorem ee_S_removeTelegram_63 : zz_D mm_S_removeTelegram 63 .arraylength 1 64 := ⟨by decide +kernel, rfl⟩
theorem ee_S_removeTelegram_64 : zz_D mm_S_removeTelegram 64 (.iconst 1) 1 65 := ⟨by decide +kernel, rfl⟩
theorem ee_S_removeTelegram_65 : zz_D mm_S_removeTelegram 65 .isub 1 66 := ⟨by decide +kernel, rfl⟩
theorem ee_S_removeTelegram_66 : zz_D mm_S_removeTelegram 66 (.aload_n 3) 1 67 := ⟨by decide +kernel, rfl⟩
theorem ee_S_removeTelegram_67 : zz_D mm_S_removeTelegram 67 .aastore 1 68 := ⟨by decide +kernel, rfl⟩
theorem ee_S_removeTelegram_68 : zz_D mm_S_removeTelegram 68 (.aload_n 0) 1 69 := ⟨by decide +kernel, rfl⟩
theorem ee_S_removeTelegram_69 : zz_D mm_S_removeTelegram 69 .dup 1 70 := ⟨by decide +kernel, rfl⟩
theorem ee_S_removeTelegram_70 : zz_D mm_S_removeTelegram 70 (.getfield 25) 3 73 := ⟨by decide +kernel, rfl⟩
theorem ff_S_removeTelegram_25 : zz_F mm_S_removeTelegram 25 5 3 := ⟨by decide, zz_in 147 (by decide +kernel) rfl⟩
theorem ee_S_removeTelegram_73 : zz_D mm_S_removeTelegram 73 (.iconst 1) 1 74 := ⟨by decide +kernel, rfl⟩
theorem ee_S_removeTelegram_74 : zz_D mm_S_removeTelegram 74 .isub 1 75 := ⟨by decide +kernel, rfl⟩
theorem ee_S_removeTelegram_75 : zz_D mm_S_removeTelegram 75 (.putfield 25) 3 78 := ⟨by decide +kernel, rfl⟩
theorem ee_S_removeTelegram_78 : zz_D mm_S_removeTelegram 78 (.iconst 1) 1 79 := ⟨by decide +kernel, rfl⟩
theorem ee_S_removeTelegram_79 : zz_D mm_S_removeTelegram 79 .ireturn 1 80 := ⟨by decide +kernel, rfl⟩
theorem ee_S_positionOf_0 : zz_D mm_S_positionOf 0 (.iconst 0) 1 1 := ⟨by decide +kernel, rfl⟩
theorem ee_S_positionOf_1 : zz_D mm_S_positionOf 1 (.istore_n 2) 1 2 := ⟨by decide +kernel, rfl⟩
theorem ee_S_positionOf_2 : zz_D mm_S_positionOf 2 (.iload_n 2) 1 3 := ⟨by decide +kernel, rfl⟩
theorem ee_S_positionOf_3 : zz_D mm_S_positionOf 3 (.aload_n 0) 1 4 := ⟨by decide +kernel, rfl⟩
theorem ee_S_positionOf_4 : zz_D mm_S_positionOf 4 (.getfield 25) 3 7 := ⟨by decide +kernel, rfl⟩
theorem ff_S_positionOf_25 : zz_F mm_S_positionOf 25 5 3 := ⟨by decide, zz_in 147 (by decide +kernel) rfl⟩
theorem ee_S_positionOf_7 : zz_D mm_S_positionOf 7 (.if_icmp .ge 33) 3 10 := ⟨by decide +kernel, rfl⟩
theorem ee_S_positionOf_10 : zz_D mm_S_positionOf 10 (.iload_n 2) 1 11 := ⟨by decide +kernel, rfl⟩
theorem ee_S_positionOf_11 : zz_D mm_S_positionOf 11 (.aload_n 0) 1 12 := ⟨by decide +kernel, rfl⟩
theorem ee_S_positionOf_12 : zz_D mm_S_positionOf 12 (.getfield 17) 3 15 := ⟨by decide +kernel, rfl⟩
theorem ff_S_positionOf_17 : zz_F mm_S_positionOf 17 5 1 := ⟨by decide, zz_in 143 (by decide +kernel) rfl⟩
theorem ee_S_positionOf_15 : zz_D mm_S_positionOf 15 .arraylength 1 16 := ⟨by decide +kernel, rfl⟩
theorem ee_S_positionOf_16 : zz_D mm_S_positionOf 16 (.if_icmp .ge 24) 3 19 := ⟨by decide +kernel, rfl⟩
theorem ee_S_positionOf_19 : zz_D mm_S_positionOf 19 (.aload_n 0) 1 20 := ⟨by decide +kernel, rfl⟩
theorem ee_S_positionOf_20 : zz_D mm_S_positionOf 20 (.getfield 17) 3 23 := ⟨by decide +kernel, rfl⟩
theorem ee_S_positionOf_23 : zz_D mm_S_positionOf 23 (.iload_n 2) 1 24 := ⟨by decide +kernel, rfl⟩
theorem ee_S_positionOf_24 : zz_D mm_S_positionOf 24 .aaload 1 25 := ⟨by decide +kernel, rfl⟩
theorem ee_S_positionOf_25 : zz_D mm_S_positionOf 25 (.getfield 54) 3 28 := ⟨by decide +kernel, rfl⟩
theorem ff_S_positionOf_54 : zz_F mm_S_positionOf 54 6 3 := ⟨by decide, zz_in 115 (by decide +kernel) rfl⟩
theorem ee_S_positionOf_28 : zz_D mm_S_positionOf 28 (.iload_n 1) 1 29 := ⟨by decide +kernel, rfl⟩
theorem ee_S_positionOf_29 : zz_D mm_S_positionOf 29 (.if_icmp .ne 5) 3 32 := ⟨by decide +kernel, rfl⟩
theorem ee_S_positionOf_32 : zz_D mm_S_positionOf 32 (.iload_n 2) 1 33 := ⟨by decide +kernel, rfl⟩
theorem ee_S_positionOf_33 : zz_D mm_S_positionOf 33 .ireturn 1 34 := ⟨by decide +kernel, rfl⟩
theorem ee_S_positionOf_34 : zz_D mm_S_positionOf 34 (.iinc 2 1) 3 37 := ⟨by decide +kernel, rfl⟩
theorem ee_S_positionOf_37 : zz_D mm_S_positionOf 37 (.goto (-35)) 3 40 := ⟨by decide +kernel, rfl⟩
theorem ee_S_positionOf_40 : zz_D mm_S_positionOf 40 (.iconst (-1)) 1 41 := ⟨by decide +kernel, rfl⟩
theorem ee_S_positionOf_41 : zz_D mm_S_positionOf 41 .ireturn 1 42 := ⟨by decide +kernel, rfl⟩
theorem ee_S_rotBy_0 : zz_D mm_S_rotBy 0 (.iconst 0) 1 1 := ⟨by decide +kernel, rfl⟩
theorem ee_S_rotBy_1 : zz_D mm_S_rotBy 1 (.istore_n 2) 1 2 := ⟨by decide +kernel, rfl⟩
theorem ee_S_rotBy_2 : zz_D mm_S_rotBy 2 (.iconst 0) 1 3 := ⟨by decide +kernel, rfl⟩
theorem ee_S_rotBy_3 : zz_D mm_S_rotBy 3 (.istore_n 3) 1 4 := ⟨by decide +kernel, rfl⟩
theorem ee_S_rotBy_4 : zz_D mm_S_rotBy 4 (.iload_n 3) 1 5 := ⟨by decide +kernel, rfl⟩
theorem ee_S_rotBy_5 : zz_D mm_S_rotBy 5 (.aload_n 0) 1 6 := ⟨by decide +kernel, rfl⟩
theorem ee_S_rotBy_6 : zz_D mm_S_rotBy 6 (.getfield 25) 3 9 := ⟨by decide +kernel, rfl⟩
theorem ff_S_rotBy_25 : zz_F mm_S_rotBy 25 5 3 := ⟨by decide, zz_in 147 (by decide +kernel) rfl⟩
theorem ee_S_rotBy_9 : zz_D mm_S_rotBy 9 (.if_icmp .ge 45) 3 12 := ⟨by decide +kernel, rfl⟩
theorem ee_S_rotBy_12 : zz_D mm_S_rotBy 12 (.iload_n 3) 1 13 := ⟨by decide +kernel, rfl⟩
theorem ee_S_rotBy_13 : zz_D mm_S_rotBy 13 (.aload_n 0) 1 14 := ⟨by decide +kernel, rfl⟩
theorem ee_S_rotBy_14 : zz_D mm_S_rotBy 14 (.getfield 17) 3 17 := ⟨by decide +kernel, rfl⟩
theorem ff_S_rotBy_17 : zz_F mm_S_rotBy 17 5 1 := ⟨by decide, zz_in 143 (by decide +kernel) rfl⟩
theorem ee_S_rotBy_17 : zz_D mm_S_rotBy 17 .arraylength 1 18 := ⟨by decide +kernel, rfl⟩
theorem ee_S_rotBy_18 : zz_D mm_S_rotBy 18 (.if_icmp .ge 36) 3 21 := ⟨by decide +kernel, rfl⟩
theorem ee_S_rotBy_21 : zz_D mm_S_rotBy 21 (.iload_n 2) 1 22 := ⟨by decide +kernel, rfl⟩
theorem ee_S_rotBy_22 : zz_D mm_S_rotBy 22 (.aload_n 0) 1 23 := ⟨by decide +kernel, rfl⟩
theorem ee_S_rotBy_23 : zz_D mm_S_rotBy 23 (.getfield 17) 3 26 := ⟨by decide +kernel, rfl⟩
theorem ee_S_rotBy_26 : zz_D mm_S_rotBy 26 (.iload_n 3) 1 27 := ⟨by decide +kernel, rfl⟩
theorem ee_S_rotBy_27 : zz_D mm_S_rotBy 27 .aaload 1 28 := ⟨by decide +kernel, rfl⟩
theorem ee_S_rotBy_28 : zz_D mm_S_rotBy 28 (.iload_n 1) 1 29 := ⟨by decide +kernel, rfl⟩
theorem ee_S_rotBy_29 : zz_D mm_S_rotBy 29 (.aload_n 0) 1 30 := ⟨by decide +kernel, rfl⟩
theorem ee_S_rotBy_30 : zz_D mm_S_rotBy 30 (.aload_n 0) 1 31 := ⟨by decide +kernel, rfl⟩
theorem ee_S_rotBy_31 : zz_D mm_S_rotBy 31 (.getfield 17) 3 34 := ⟨by decide +kernel, rfl⟩
theorem ee_S_rotBy_34 : zz_D mm_S_rotBy 34 (.iload_n 3) 1 35 := ⟨by decide +kernel, rfl⟩
theorem ee_S_rotBy_35 : zz_D mm_S_rotBy 35 .aaload 1 36 := ⟨by decide +kernel, rfl⟩
theorem ee_S_rotBy_36 : zz_D mm_S_rotBy 36 (.getfield 70) 3 39 := ⟨by decide +kernel, rfl⟩
theorem ff_S_rotBy_70 : zz_F mm_S_rotBy 70 6 4 := ⟨by decide, zz_in 119 (by decide +kernel) rfl⟩
theorem ee_S_rotBy_39 : zz_D mm_S_rotBy 39 (.invokevirtual 38) 3 42 := ⟨by decide +kernel, rfl⟩
theorem kk_S_rotBy_38 : zz_kV mm_S_rotBy mm_S_dampnessAt 38 1 := ⟨⟨zz_in 376 (by decide +kernel) rfl, zz_in 23 (by decide +kernel) rfl, by decide +kernel, by decide, by decide⟩, rfl, zz_in 373 (by decide +kernel) rfl, zz_in 374 (by decide +kernel) rfl, zz_in 375 (by decide +kernel) rfl⟩
theorem ee_S_rotBy_42 : zz_D mm_S_rotBy 42 .imul 1 43 := ⟨by decide +kernel, rfl⟩
theorem ee_S_rotBy_43 : zz_D mm_S_rotBy 43 (.invokevirtual 89) 3 46 := ⟨by decide +kernel, rfl⟩
theorem kk_S_rotBy_89 : zz_kV mm_S_rotBy mm_G_rotBy 89 1 := ⟨⟨zz_in 712 (by decide +kernel) rfl, zz_in 24 (by decide +kernel) rfl, by decide +kernel, by decide, by decide⟩, rfl, zz_in 709 (by decide +kernel) rfl, zz_in 710 (by decide +kernel) rfl, zz_in 711 (by decide +kernel) rfl⟩
theorem ee_S_rotBy_46 : zz_D mm_S_rotBy 46 .iadd 1 47 := ⟨by decide +kernel, rfl⟩
theorem ee_S_rotBy_47 : zz_D mm_S_rotBy 47 (.istore_n 2) 1 48 := ⟨by decide +kernel, rfl⟩
theorem ee_S_rotBy_48 : zz_D mm_S_rotBy 48 (.iinc 3 1) 3 51 := ⟨by decide +kernel, rfl⟩
theorem ee_S_rotBy_51 : zz_D mm_S_rotBy 51 (.goto (-47)) 3 54 := ⟨by decide +kernel, rfl⟩
theorem ee_S_rotBy_54 : zz_D mm_S_rotBy 54 (.iload_n 2) 1 55 := ⟨by decide +kernel, rfl⟩
theorem ee_S_rotBy_55 : zz_D mm_S_rotBy 55 .ireturn 1 56 := ⟨by decide +kernel, rfl⟩
theorem ee_S_find_0 : zz_D mm_S_find 0 (.aload_n 0) 1 1 := ⟨by decide +kernel, rfl⟩
theorem ee_S_find_1 : zz_D mm_S_find 1 (.aload_n 0) 1 2 := ⟨by decide +kernel, rfl⟩
theorem ee_S_find_2 : zz_D mm_S_find 2 (.iload_n 1) 1 3 := ⟨by decide +kernel, rfl⟩
theorem ee_S_find_3 : zz_D mm_S_find 3 (.invokevirtual 57) 3 6 := ⟨by decide +kernel, rfl⟩
theorem kk_S_find_57 : zz_kV mm_S_find mm_S_positionOf 57 1 := ⟨⟨zz_in 693 (by decide +kernel) rfl, zz_in 23 (by decide +kernel) rfl, by decide +kernel, by decide, by decide⟩, rfl, zz_in 690 (by decide +kernel) rfl, zz_in 692 (by decide +kernel) rfl, zz_in 5 (by decide +kernel) rfl⟩
theorem ee_S_find_6 : zz_D mm_S_find 6 (.invokevirtual 42) 3 9 := ⟨by decide +kernel, rfl⟩
theorem kk_S_find_42 : zz_kV mm_S_find mm_S_telegramIn 42 1 := ⟨⟨zz_in 384 (by decide +kernel) rfl, zz_in 23 (by decide +kernel) rfl, by decide +kernel, by decide, by decide⟩, rfl, zz_in 381 (by decide +kernel) rfl, zz_in 382 (by decide +kernel) rfl, zz_in 383 (by decide +kernel) rfl⟩
theorem ee_S_find_9 : zz_D mm_S_find 9 .areturn 1 10 := ⟨by decide +kernel, rfl⟩
theorem ee_O_faultIn_0 : zz_D mm_O_faultIn 0 (.iconst 0) 1 1 := ⟨by decide +kernel, rfl⟩
theorem ee_O_faultIn_1 : zz_D mm_O_faultIn 1 (.istore_n 1) 1 2 := ⟨by decide +kernel, rfl⟩
theorem ee_O_faultIn_2 : zz_D mm_O_faultIn 2 (.iconst 0) 1 3 := ⟨by decide +kernel, rfl⟩
theorem ee_O_faultIn_3 : zz_D mm_O_faultIn 3 (.istore_n 2) 1 4 := ⟨by decide +kernel, rfl⟩
theorem ee_O_faultIn_4 : zz_D mm_O_faultIn 4 (.iconst 0) 1 5 := ⟨by decide +kernel, rfl⟩
theorem ee_O_faultIn_5 : zz_D mm_O_faultIn 5 (.istore_n 3) 1 6 := ⟨by decide +kernel, rfl⟩
theorem ee_O_faultIn_6 : zz_D mm_O_faultIn 6 (.iload_n 3) 1 7 := ⟨by decide +kernel, rfl⟩
theorem ee_O_faultIn_7 : zz_D mm_O_faultIn 7 (.aload_n 0) 1 8 := ⟨by decide +kernel, rfl⟩
theorem ee_O_faultIn_8 : zz_D mm_O_faultIn 8 (.getfield 14) 3 11 := ⟨by decide +kernel, rfl⟩
theorem ff_O_faultIn_14 : zz_F mm_O_faultIn 14 7 1 := ⟨by decide, zz_in 71 (by decide +kernel) rfl⟩
theorem ee_O_faultIn_11 : zz_D mm_O_faultIn 11 (.if_icmp .ge 77) 3 14 := ⟨by decide +kernel, rfl⟩
theorem ee_O_faultIn_14 : zz_D mm_O_faultIn 14 (.aload_n 0) 1 15 := ⟨by decide +kernel, rfl⟩
theorem ee_O_faultIn_15 : zz_D mm_O_faultIn 15 (.iload_n 3) 1 16 := ⟨by decide +kernel, rfl⟩
theorem ee_O_faultIn_16 : zz_D mm_O_faultIn 16 (.invokevirtual 24) 3 19 := ⟨by decide +kernel, rfl⟩
theorem kk_O_faultIn_24 : zz_kV mm_O_faultIn mm_T_at 24 1 := ⟨⟨zz_in 311 (by decide +kernel) rfl, zz_in 20 (by decide +kernel) rfl, by decide +kernel, by decide, by decide⟩, rfl, zz_in 308 (by decide +kernel) rfl, zz_in 309 (by decide +kernel) rfl, zz_in 310 (by decide +kernel) rfl⟩
theorem ee_O_faultIn_19 : zz_D mm_O_faultIn 19 (.istore 4) 2 21 := ⟨by decide +kernel, rfl⟩
theorem ee_O_faultIn_21 : zz_D mm_O_faultIn 21 (.iload_n 2) 1 22 := ⟨by decide +kernel, rfl⟩
theorem ee_O_faultIn_22 : zz_D mm_O_faultIn 22 (.ifCond .eq 20) 3 25 := ⟨by decide +kernel, rfl⟩
theorem ee_O_faultIn_25 : zz_D mm_O_faultIn 25 (.iload 4) 2 27 := ⟨by decide +kernel, rfl⟩
theorem ee_O_faultIn_27 : zz_D mm_O_faultIn 27 (.invokestatic 32) 3 30 := ⟨by decide +kernel, rfl⟩
theorem kk_O_faultIn_32 : zz_kS mm_O_faultIn mm_O_needsEscape 32 1 := ⟨⟨zz_in 321 (by decide +kernel) rfl, zz_in 41 (by decide +kernel) rfl, by decide +kernel, by decide, by decide⟩, rfl, zz_in 319 (by decide +kernel) rfl, zz_in 320 (by decide +kernel) rfl⟩
theorem ee_O_faultIn_30 : zz_D mm_O_faultIn 30 (.ifCond .ne 5) 3 33 := ⟨by decide +kernel, rfl⟩
theorem ee_O_faultIn_33 : zz_D mm_O_faultIn 33 (.iload_n 3) 1 34 := ⟨by decide +kernel, rfl⟩
theorem ee_O_faultIn_34 : zz_D mm_O_faultIn 34 .ireturn 1 35 := ⟨by decide +kernel, rfl⟩
theorem ee_O_faultIn_35 : zz_D mm_O_faultIn 35 (.iconst 0) 1 36 := ⟨by decide +kernel, rfl⟩
theorem ee_O_faultIn_36 : zz_D mm_O_faultIn 36 (.istore_n 2) 1 37 := ⟨by decide +kernel, rfl⟩
theorem ee_O_faultIn_37 : zz_D mm_O_faultIn 37 (.iconst 0) 1 38 := ⟨by decide +kernel, rfl⟩
theorem ee_O_faultIn_38 : zz_D mm_O_faultIn 38 (.istore_n 1) 1 39 := ⟨by decide +kernel, rfl⟩
theorem ee_O_faultIn_39 : zz_D mm_O_faultIn 39 (.goto 43) 3 42 := ⟨by decide +kernel, rfl⟩
theorem ee_O_faultIn_42 : zz_D mm_O_faultIn 42 (.iload 4) 2 44 := ⟨by decide +kernel, rfl⟩
theorem ee_O_faultIn_44 : zz_D mm_O_faultIn 44 (.bipush 92) 2 46 := ⟨by decide +kernel, rfl⟩
theorem ee_O_faultIn_46 : zz_D mm_O_faultIn 46 (.if_icmp .ne 8) 3 49 := ⟨by decide +kernel, rfl⟩
theorem ee_O_faultIn_49 : zz_D mm_O_faultIn 49 (.iconst 1) 1 50 := ⟨by decide +kernel, rfl⟩
theorem ee_O_faultIn_50 : zz_D mm_O_faultIn 50 (.istore_n 2) 1 51 := ⟨by decide +kernel, rfl⟩
theorem ee_O_faultIn_51 : zz_D mm_O_faultIn 51 (.goto 31) 3 54 := ⟨by decide +kernel, rfl⟩
theorem ee_O_faultIn_54 : zz_D mm_O_faultIn 54 (.iload 4) 2 56 := ⟨by decide +kernel, rfl⟩
theorem ee_O_faultIn_56 : zz_D mm_O_faultIn 56 (.invokestatic 40) 3 59 := ⟨by decide +kernel, rfl⟩
theorem kk_O_faultIn_40 : zz_kSN mm_O_faultIn mm_P_isDigit 40 1 := ⟨⟨zz_in 324 (by decide +kernel) rfl, zz_in 19 (by decide +kernel) rfl, by decide +kernel, by decide, by decide⟩, rfl, ⟨"TurnipPages", zz_inN 322 (by decide +kernel) (by decide +kernel)⟩, zz_in 323 (by decide +kernel) rfl⟩
theorem ee_O_faultIn_59 : zz_D mm_O_faultIn 59 (.ifCond .eq 21) 3 62 := ⟨by decide +kernel, rfl⟩
theorem ee_O_faultIn_62 : zz_D mm_O_faultIn 62 (.iload_n 1) 1 63 := ⟨by decide +kernel, rfl⟩
theorem ee_O_faultIn_63 : zz_D mm_O_faultIn 63 (.ifCond .ne 10) 3 66 := ⟨by decide +kernel, rfl⟩
theorem ee_O_faultIn_66 : zz_D mm_O_faultIn 66 (.iload 4) 2 68 := ⟨by decide +kernel, rfl⟩
theorem ee_O_faultIn_68 : zz_D mm_O_faultIn 68 (.bipush 51) 2 70 := ⟨by decide +kernel, rfl⟩
theorem ee_O_faultIn_70 : zz_D mm_O_faultIn 70 (.if_icmp .ge 5) 3 73 := ⟨by decide +kernel, rfl⟩
theorem ee_O_faultIn_73 : zz_D mm_O_faultIn 73 (.iload_n 3) 1 74 := ⟨by decide +kernel, rfl⟩
theorem ee_O_faultIn_74 : zz_D mm_O_faultIn 74 .ireturn 1 75 := ⟨by decide +kernel, rfl⟩
theorem ee_O_faultIn_75 : zz_D mm_O_faultIn 75 (.iconst 1) 1 76 := ⟨by decide +kernel, rfl⟩
theorem ee_O_faultIn_76 : zz_D mm_O_faultIn 76 (.istore_n 1) 1 77 := ⟨by decide +kernel, rfl⟩
theorem ee_O_faultIn_77 : zz_D mm_O_faultIn 77 (.goto 5) 3 80 := ⟨by decide +kernel, rfl⟩
theorem ee_O_faultIn_80 : zz_D mm_O_faultIn 80 (.iconst 0) 1 81 := ⟨by decide +kernel, rfl⟩
theorem ee_O_faultIn_81 : zz_D mm_O_faultIn 81 (.istore_n 1) 1 82 := ⟨by decide +kernel, rfl⟩
theorem ee_O_faultIn_82 : zz_D mm_O_faultIn 82 (.iinc 3 1) 3 85 := ⟨by decide +kernel, rfl⟩
theorem ee_O_faultIn_85 : zz_D mm_O_faultIn 85 (.goto (-79)) 3 88 := ⟨by decide +kernel, rfl⟩
theorem ee_O_faultIn_88 : zz_D mm_O_faultIn 88 (.iload_n 1) 1 89 := ⟨by decide +kernel, rfl⟩
theorem ee_O_faultIn_89 : zz_D mm_O_faultIn 89 (.ifCond .ne 7) 3 92 := ⟨by decide +kernel, rfl⟩
theorem ee_O_faultIn_92 : zz_D mm_O_faultIn 92 (.iload_n 2) 1 93 := ⟨by decide +kernel, rfl⟩
theorem ee_O_faultIn_93 : zz_D mm_O_faultIn 93 (.ifCond .eq 10) 3 96 := ⟨by decide +kernel, rfl⟩
theorem ee_O_faultIn_96 : zz_D mm_O_faultIn 96 (.aload_n 0) 1 97 := ⟨by decide +kernel, rfl⟩
theorem ee_O_faultIn_97 : zz_D mm_O_faultIn 97 (.getfield 14) 3 100 := ⟨by decide +kernel, rfl⟩
theorem ee_O_faultIn_100 : zz_D mm_O_faultIn 100 (.goto 4) 3 103 := ⟨by decide +kernel, rfl⟩
theorem ee_O_faultIn_103 : zz_D mm_O_faultIn 103 (.iconst (-1)) 1 104 := ⟨by decide +kernel, rfl⟩
theorem ee_O_faultIn_104 : zz_D mm_O_faultIn 104 .ireturn 1 105 := ⟨by decide +kernel, rfl⟩
theorem ee_O_unfold_0 : zz_D mm_O_unfold 0 (.aload_n 1) 1 1 := ⟨by decide +kernel, rfl⟩
theorem ee_O_unfold_1 : zz_D mm_O_unfold 1 (.invokevirtual 9) 3 4 := ⟨by decide +kernel, rfl⟩
theorem kk_O_unfold_9 : zz_kV mm_O_unfold mm_T_clear 9 0 := ⟨⟨zz_in 296 (by decide +kernel) rfl, zz_in 20 (by decide +kernel) rfl, by decide +kernel, by decide, by decide⟩, rfl, zz_in 304 (by decide +kernel) rfl, zz_in 294 (by decide +kernel) rfl, zz_in 295 (by decide +kernel) rfl⟩
theorem ee_O_unfold_4 : zz_D mm_O_unfold 4 (.iconst 1) 1 5 := ⟨by decide +kernel, rfl⟩
theorem ee_O_unfold_5 : zz_D mm_O_unfold 5 (.istore_n 2) 1 6 := ⟨by decide +kernel, rfl⟩
theorem ee_O_unfold_6 : zz_D mm_O_unfold 6 (.iconst 0) 1 7 := ⟨by decide +kernel, rfl⟩
theorem ee_O_unfold_7 : zz_D mm_O_unfold 7 (.istore_n 3) 1 8 := ⟨by decide +kernel, rfl⟩
theorem ee_O_unfold_8 : zz_D mm_O_unfold 8 (.iconst 0) 1 9 := ⟨by decide +kernel, rfl⟩
theorem ee_O_unfold_9 : zz_D mm_O_unfold 9 (.istore 4) 2 11 := ⟨by decide +kernel, rfl⟩
theorem ee_O_unfold_11 : zz_D mm_O_unfold 11 (.iload 4) 2 13 := ⟨by decide +kernel, rfl⟩
theorem ee_O_unfold_13 : zz_D mm_O_unfold 13 (.aload_n 0) 1 14 := ⟨by decide +kernel, rfl⟩
theorem ee_O_unfold_14 : zz_D mm_O_unfold 14 (.getfield 14) 3 17 := ⟨by decide +kernel, rfl⟩
theorem ff_O_unfold_14 : zz_F mm_O_unfold 14 7 1 := ⟨by decide, zz_in 71 (by decide +kernel) rfl⟩
theorem ee_O_unfold_17 : zz_D mm_O_unfold 17 (.if_icmp .ge 79) 3 20 := ⟨by decide +kernel, rfl⟩
theorem ee_O_unfold_20 : zz_D mm_O_unfold 20 (.aload_n 0) 1 21 := ⟨by decide +kernel, rfl⟩
theorem ee_O_unfold_21 : zz_D mm_O_unfold 21 (.iload 4) 2 23 := ⟨by decide +kernel, rfl⟩
theorem ee_O_unfold_23 : zz_D mm_O_unfold 23 (.invokevirtual 24) 3 26 := ⟨by decide +kernel, rfl⟩
theorem kk_O_unfold_24 : zz_kV mm_O_unfold mm_T_at 24 1 := ⟨⟨zz_in 311 (by decide +kernel) rfl, zz_in 20 (by decide +kernel) rfl, by decide +kernel, by decide, by decide⟩, rfl, zz_in 308 (by decide +kernel) rfl, zz_in 309 (by decide +kernel) rfl, zz_in 310 (by decide +kernel) rfl⟩
theorem ee_O_unfold_26 : zz_D mm_O_unfold 26 (.istore 5) 2 28 := ⟨by decide +kernel, rfl⟩
theorem ee_O_unfold_28 : zz_D mm_O_unfold 28 (.iload_n 3) 1 29 := ⟨by decide +kernel, rfl⟩
theorem ee_O_unfold_29 : zz_D mm_O_unfold 29 (.ifCond .ne 15) 3 32 := ⟨by decide +kernel, rfl⟩
theorem ee_O_unfold_32 : zz_D mm_O_unfold 32 (.iload 5) 2 34 := ⟨by decide +kernel, rfl⟩
theorem ee_O_unfold_34 : zz_D mm_O_unfold 34 (.bipush 92) 2 36 := ⟨by decide +kernel, rfl⟩
theorem ee_O_unfold_36 : zz_D mm_O_unfold 36 (.if_icmp .ne 8) 3 39 := ⟨by decide +kernel, rfl⟩
theorem ee_O_unfold_39 : zz_D mm_O_unfold 39 (.iconst 1) 1 40 := ⟨by decide +kernel, rfl⟩
theorem ee_O_unfold_40 : zz_D mm_O_unfold 40 (.istore_n 3) 1 41 := ⟨by decide +kernel, rfl⟩
theorem ee_O_unfold_41 : zz_D mm_O_unfold 41 (.goto 49) 3 44 := ⟨by decide +kernel, rfl⟩
theorem ee_O_unfold_44 : zz_D mm_O_unfold 44 (.iload_n 3) 1 45 := ⟨by decide +kernel, rfl⟩
theorem ee_O_unfold_45 : zz_D mm_O_unfold 45 (.ifCond .ne 20) 3 48 := ⟨by decide +kernel, rfl⟩
theorem ee_O_unfold_48 : zz_D mm_O_unfold 48 (.iload 5) 2 50 := ⟨by decide +kernel, rfl⟩
theorem ee_O_unfold_50 : zz_D mm_O_unfold 50 (.invokestatic 40) 3 53 := ⟨by decide +kernel, rfl⟩
theorem kk_O_unfold_40 : zz_kSN mm_O_unfold mm_P_isDigit 40 1 := ⟨⟨zz_in 324 (by decide +kernel) rfl, zz_in 19 (by decide +kernel) rfl, by decide +kernel, by decide, by decide⟩, rfl, ⟨"TurnipPages", zz_inN 322 (by decide +kernel) (by decide +kernel)⟩, zz_in 323 (by decide +kernel) rfl⟩
theorem ee_O_unfold_53 : zz_D mm_O_unfold 53 (.ifCond .eq 12) 3 56 := ⟨by decide +kernel, rfl⟩
theorem ee_O_unfold_56 : zz_D mm_O_unfold 56 (.iload 5) 2 58 := ⟨by decide +kernel, rfl⟩
theorem ee_O_unfold_58 : zz_D mm_O_unfold 58 (.bipush 48) 2 60 := ⟨by decide +kernel, rfl⟩
theorem ee_O_unfold_60 : zz_D mm_O_unfold 60 .isub 1 61 := ⟨by decide +kernel, rfl⟩
theorem ee_O_unfold_61 : zz_D mm_O_unfold 61 (.istore_n 2) 1 62 := ⟨by decide +kernel, rfl⟩
theorem ee_O_unfold_62 : zz_D mm_O_unfold 62 (.goto 28) 3 65 := ⟨by decide +kernel, rfl⟩
theorem ee_O_unfold_65 : zz_D mm_O_unfold 65 (.iconst 0) 1 66 := ⟨by decide +kernel, rfl⟩
theorem ee_O_unfold_66 : zz_D mm_O_unfold 66 (.istore 6) 2 68 := ⟨by decide +kernel, rfl⟩
theorem ee_O_unfold_68 : zz_D mm_O_unfold 68 (.iload 6) 2 70 := ⟨by decide +kernel, rfl⟩
theorem ee_O_unfold_70 : zz_D mm_O_unfold 70 (.iload_n 2) 1 71 := ⟨by decide +kernel, rfl⟩
theorem ee_O_unfold_71 : zz_D mm_O_unfold 71 (.if_icmp .ge 15) 3 74 := ⟨by decide +kernel, rfl⟩
theorem ee_O_unfold_74 : zz_D mm_O_unfold 74 (.aload_n 1) 1 75 := ⟨by decide +kernel, rfl⟩
theorem ee_O_unfold_75 : zz_D mm_O_unfold 75 (.iload 5) 2 77 := ⟨by decide +kernel, rfl⟩
theorem ee_O_unfold_77 : zz_D mm_O_unfold 77 (.invokevirtual 36) 3 80 := ⟨by decide +kernel, rfl⟩
theorem kk_O_unfold_36 : zz_kV mm_O_unfold mm_T_add 36 1 := ⟨⟨zz_in 328 (by decide +kernel) rfl, zz_in 20 (by decide +kernel) rfl, by decide +kernel, by decide, by decide⟩, rfl, zz_in 325 (by decide +kernel) rfl, zz_in 326 (by decide +kernel) rfl, zz_in 327 (by decide +kernel) rfl⟩
theorem ee_O_unfold_80 : zz_D mm_O_unfold 80 (.iinc 6 1) 3 83 := ⟨by decide +kernel, rfl⟩
theorem ee_O_unfold_83 : zz_D mm_O_unfold 83 (.goto (-15)) 3 86 := ⟨by decide +kernel, rfl⟩
theorem ee_O_unfold_86 : zz_D mm_O_unfold 86 (.iconst 1) 1 87 := ⟨by decide +kernel, rfl⟩
theorem ee_O_unfold_87 : zz_D mm_O_unfold 87 (.istore_n 2) 1 88 := ⟨by decide +kernel, rfl⟩
theorem ee_O_unfold_88 : zz_D mm_O_unfold 88 (.iconst 0) 1 89 := ⟨by decide +kernel, rfl⟩
theorem ee_O_unfold_89 : zz_D mm_O_unfold 89 (.istore_n 3) 1 90 := ⟨by decide +kernel, rfl⟩
theorem ee_O_unfold_90 : zz_D mm_O_unfold 90 (.iinc 4 1) 3 93 := ⟨by decide +kernel, rfl⟩
theorem ee_O_unfold_93 : zz_D mm_O_unfold 93 (.goto (-82)) 3 96 := ⟨by decide +kernel, rfl⟩
theorem ee_O_unfold_96 : zz_D mm_O_unfold 96 .return_ 1 97 := ⟨by decide +kernel, rfl⟩
theorem ee_S_sumCodeLengths_0 : zz_D mm_S_sumCodeLengths 0 (.iconst 0) 1 1 := ⟨by decide +kernel, rfl⟩
theorem ee_S_sumCodeLengths_1 : zz_D mm_S_sumCodeLengths 1 (.istore_n 1) 1 2 := ⟨by decide +kernel, rfl⟩
theorem ee_S_sumCodeLengths_2 : zz_D mm_S_sumCodeLengths 2 (.iconst 0) 1 3 := ⟨by decide +kernel, rfl⟩
theorem ee_S_sumCodeLengths_3 : zz_D mm_S_sumCodeLengths 3 (.istore_n 2) 1 4 := ⟨by decide +kernel, rfl⟩
theorem ee_S_sumCodeLengths_4 : zz_D mm_S_sumCodeLengths 4 (.iload_n 2) 1 5 := ⟨by decide +kernel, rfl⟩
theorem ee_S_sumCodeLengths_5 : zz_D mm_S_sumCodeLengths 5 (.aload_n 0) 1 6 := ⟨by decide +kernel, rfl⟩
theorem ee_S_sumCodeLengths_6 : zz_D mm_S_sumCodeLengths 6 (.getfield 25) 3 9 := ⟨by decide +kernel, rfl⟩
theorem ff_S_sumCodeLengths_25 : zz_F mm_S_sumCodeLengths 25 5 3 := ⟨by decide, zz_in 147 (by decide +kernel) rfl⟩
theorem ee_S_sumCodeLengths_9 : zz_D mm_S_sumCodeLengths 9 (.if_icmp .ge 33) 3 12 := ⟨by decide +kernel, rfl⟩
theorem ee_S_sumCodeLengths_12 : zz_D mm_S_sumCodeLengths 12 (.iload_n 2) 1 13 := ⟨by decide +kernel, rfl⟩
theorem ee_S_sumCodeLengths_13 : zz_D mm_S_sumCodeLengths 13 (.aload_n 0) 1 14 := ⟨by decide +kernel, rfl⟩
theorem ee_S_sumCodeLengths_14 : zz_D mm_S_sumCodeLengths 14 (.getfield 17) 3 17 := ⟨by decide +kernel, rfl⟩
theorem ff_S_sumCodeLengths_17 : zz_F mm_S_sumCodeLengths 17 5 1 := ⟨by decide, zz_in 143 (by decide +kernel) rfl⟩
theorem ee_S_sumCodeLengths_17 : zz_D mm_S_sumCodeLengths 17 .arraylength 1 18 := ⟨by decide +kernel, rfl⟩
theorem ee_S_sumCodeLengths_18 : zz_D mm_S_sumCodeLengths 18 (.if_icmp .ge 24) 3 21 := ⟨by decide +kernel, rfl⟩
theorem ee_S_sumCodeLengths_21 : zz_D mm_S_sumCodeLengths 21 (.iload_n 1) 1 22 := ⟨by decide +kernel, rfl⟩
theorem ee_S_sumCodeLengths_22 : zz_D mm_S_sumCodeLengths 22 (.aload_n 0) 1 23 := ⟨by decide +kernel, rfl⟩
theorem ee_S_sumCodeLengths_23 : zz_D mm_S_sumCodeLengths 23 (.getfield 17) 3 26 := ⟨by decide +kernel, rfl⟩
theorem ee_S_sumCodeLengths_26 : zz_D mm_S_sumCodeLengths 26 (.iload_n 2) 1 27 := ⟨by decide +kernel, rfl⟩
theorem ee_S_sumCodeLengths_27 : zz_D mm_S_sumCodeLengths 27 .aaload 1 28 := ⟨by decide +kernel, rfl⟩
theorem ee_S_sumCodeLengths_28 : zz_D mm_S_sumCodeLengths 28 (.getfield 80) 3 31 := ⟨by decide +kernel, rfl⟩
theorem ff_S_sumCodeLengths_80 : zz_F mm_S_sumCodeLengths 80 6 0 := ⟨by decide, zz_in 106 (by decide +kernel) rfl⟩
theorem ee_S_sumCodeLengths_31 : zz_D mm_S_sumCodeLengths 31 (.getfield 84) 3 34 := ⟨by decide +kernel, rfl⟩
theorem ff_S_sumCodeLengths_84 : zz_F mm_S_sumCodeLengths 84 7 1 := ⟨by decide, zz_in 76 (by decide +kernel) rfl⟩
theorem ee_S_sumCodeLengths_34 : zz_D mm_S_sumCodeLengths 34 .iadd 1 35 := ⟨by decide +kernel, rfl⟩
theorem ee_S_sumCodeLengths_35 : zz_D mm_S_sumCodeLengths 35 (.istore_n 1) 1 36 := ⟨by decide +kernel, rfl⟩
theorem ee_S_sumCodeLengths_36 : zz_D mm_S_sumCodeLengths 36 (.iinc 2 1) 3 39 := ⟨by decide +kernel, rfl⟩
theorem ee_S_sumCodeLengths_39 : zz_D mm_S_sumCodeLengths 39 (.goto (-35)) 3 42 := ⟨by decide +kernel, rfl⟩
theorem ee_S_sumCodeLengths_42 : zz_D mm_S_sumCodeLengths 42 (.iload_n 1) 1 43 := ⟨by decide +kernel, rfl⟩
theorem ee_S_sumCodeLengths_43 : zz_D mm_S_sumCodeLengths 43 .ireturn 1 44 := ⟨by decide +kernel, rfl⟩
theorem ee_S_countPages_0 : zz_D mm_S_countPages 0 (.iconst 0) 1 1 := ⟨by decide +kernel, rfl⟩
theorem ee_S_countPages_1 : zz_D mm_S_countPages 1 (.istore_n 1) 1 2 := ⟨by decide +kernel, rfl⟩
theorem ee_S_countPages_2 : zz_D mm_S_countPages 2 (.iconst 0) 1 3 := ⟨by decide +kernel, rfl⟩
theorem ee_S_countPages_3 : zz_D mm_S_countPages 3 (.istore_n 2) 1 4 := ⟨by decide +kernel, rfl⟩
theorem ee_S_countPages_4 : zz_D mm_S_countPages 4 (.iload_n 2) 1 5 := ⟨by decide +kernel, rfl⟩
theorem ee_S_countPages_5 : zz_D mm_S_countPages 5 (.aload_n 0) 1 6 := ⟨by decide +kernel, rfl⟩
theorem ee_S_countPages_6 : zz_D mm_S_countPages 6 (.getfield 25) 3 9 := ⟨by decide +kernel, rfl⟩
theorem ff_S_countPages_25 : zz_F mm_S_countPages 25 5 3 := ⟨by decide, zz_in 147 (by decide +kernel) rfl⟩
theorem ee_S_countPages_9 : zz_D mm_S_countPages 9 (.if_icmp .ge 30) 3 12 := ⟨by decide +kernel, rfl⟩
theorem ee_S_countPages_12 : zz_D mm_S_countPages 12 (.iload_n 2) 1 13 := ⟨by decide +kernel, rfl⟩
theorem ee_S_countPages_13 : zz_D mm_S_countPages 13 (.aload_n 0) 1 14 := ⟨by decide +kernel, rfl⟩
theorem ee_S_countPages_14 : zz_D mm_S_countPages 14 (.getfield 17) 3 17 := ⟨by decide +kernel, rfl⟩
theorem ff_S_countPages_17 : zz_F mm_S_countPages 17 5 1 := ⟨by decide, zz_in 143 (by decide +kernel) rfl⟩
theorem ee_S_countPages_17 : zz_D mm_S_countPages 17 .arraylength 1 18 := ⟨by decide +kernel, rfl⟩
theorem ee_S_countPages_18 : zz_D mm_S_countPages 18 (.if_icmp .ge 21) 3 21 := ⟨by decide +kernel, rfl⟩
theorem ee_S_countPages_21 : zz_D mm_S_countPages 21 (.iload_n 1) 1 22 := ⟨by decide +kernel, rfl⟩
theorem ee_S_countPages_22 : zz_D mm_S_countPages 22 (.aload_n 0) 1 23 := ⟨by decide +kernel, rfl⟩
theorem ee_S_countPages_23 : zz_D mm_S_countPages 23 (.getfield 17) 3 26 := ⟨by decide +kernel, rfl⟩
theorem ee_S_countPages_26 : zz_D mm_S_countPages 26 (.iload_n 2) 1 27 := ⟨by decide +kernel, rfl⟩
theorem ee_S_countPages_27 : zz_D mm_S_countPages 27 .aaload 1 28 := ⟨by decide +kernel, rfl⟩
theorem ee_S_countPages_28 : zz_D mm_S_countPages 28 (.getfield 73) 3 31 := ⟨by decide +kernel, rfl⟩
theorem ff_S_countPages_73 : zz_F mm_S_countPages 73 6 2 := ⟨by decide, zz_in 111 (by decide +kernel) rfl⟩
theorem ee_S_countPages_31 : zz_D mm_S_countPages 31 .iadd 1 32 := ⟨by decide +kernel, rfl⟩
theorem ee_S_countPages_32 : zz_D mm_S_countPages 32 (.istore_n 1) 1 33 := ⟨by decide +kernel, rfl⟩
theorem ee_S_countPages_33 : zz_D mm_S_countPages 33 (.iinc 2 1) 3 36 := ⟨by decide +kernel, rfl⟩
theorem ee_S_countPages_36 : zz_D mm_S_countPages 36 (.goto (-32)) 3 39 := ⟨by decide +kernel, rfl⟩
theorem ee_S_countPages_39 : zz_D mm_S_countPages 39 (.iload_n 1) 1 40 := ⟨by decide +kernel, rfl⟩
theorem ee_S_countPages_40 : zz_D mm_S_countPages 40 .ireturn 1 41 := ⟨by decide +kernel, rfl⟩
theorem ee_S_findByPriority_0 : zz_D mm_S_findByPriority 0 (.iconst 0) 1 1 := ⟨by decide +kernel, rfl⟩
theorem ee_S_findByPriority_1 : zz_D mm_S_findByPriority 1 (.istore_n 2) 1 2 := ⟨by decide +kernel, rfl⟩
theorem ee_S_findByPriority_2 : zz_D mm_S_findByPriority 2 (.iload_n 2) 1 3 := ⟨by decide +kernel, rfl⟩
theorem ee_S_findByPriority_3 : zz_D mm_S_findByPriority 3 (.aload_n 0) 1 4 := ⟨by decide +kernel, rfl⟩
theorem ee_S_findByPriority_4 : zz_D mm_S_findByPriority 4 (.getfield 25) 3 7 := ⟨by decide +kernel, rfl⟩
theorem ff_S_findByPriority_25 : zz_F mm_S_findByPriority 25 5 3 := ⟨by decide, zz_in 147 (by decide +kernel) rfl⟩
theorem ee_S_findByPriority_7 : zz_D mm_S_findByPriority 7 (.if_icmp .ge 90) 3 10 := ⟨by decide +kernel, rfl⟩
theorem ee_S_findByPriority_10 : zz_D mm_S_findByPriority 10 (.iload_n 2) 1 11 := ⟨by decide +kernel, rfl⟩
theorem ee_S_findByPriority_11 : zz_D mm_S_findByPriority 11 (.aload_n 0) 1 12 := ⟨by decide +kernel, rfl⟩
theorem ee_S_findByPriority_12 : zz_D mm_S_findByPriority 12 (.getfield 17) 3 15 := ⟨by decide +kernel, rfl⟩
theorem ff_S_findByPriority_17 : zz_F mm_S_findByPriority 17 5 1 := ⟨by decide, zz_in 143 (by decide +kernel) rfl⟩
theorem ee_S_findByPriority_15 : zz_D mm_S_findByPriority 15 .arraylength 1 16 := ⟨by decide +kernel, rfl⟩
theorem ee_S_findByPriority_16 : zz_D mm_S_findByPriority 16 (.if_icmp .ge 81) 3 19 := ⟨by decide +kernel, rfl⟩
theorem ee_S_findByPriority_19 : zz_D mm_S_findByPriority 19 (.iconst 0) 1 20 := ⟨by decide +kernel, rfl⟩
theorem ee_S_findByPriority_20 : zz_D mm_S_findByPriority 20 (.istore_n 3) 1 21 := ⟨by decide +kernel, rfl⟩
theorem ee_S_findByPriority_21 : zz_D mm_S_findByPriority 21 (.iconst 0) 1 22 := ⟨by decide +kernel, rfl⟩
theorem ee_S_findByPriority_22 : zz_D mm_S_findByPriority 22 (.istore 4) 2 24 := ⟨by decide +kernel, rfl⟩
theorem ee_S_findByPriority_24 : zz_D mm_S_findByPriority 24 (.iload 4) 2 26 := ⟨by decide +kernel, rfl⟩
theorem ee_S_findByPriority_26 : zz_D mm_S_findByPriority 26 (.aload_n 0) 1 27 := ⟨by decide +kernel, rfl⟩
theorem ee_S_findByPriority_27 : zz_D mm_S_findByPriority 27 (.getfield 25) 3 30 := ⟨by decide +kernel, rfl⟩
theorem ee_S_findByPriority_30 : zz_D mm_S_findByPriority 30 (.if_icmp .ge 46) 3 33 := ⟨by decide +kernel, rfl⟩
theorem ee_S_findByPriority_33 : zz_D mm_S_findByPriority 33 (.iload 4) 2 35 := ⟨by decide +kernel, rfl⟩
theorem ee_S_findByPriority_35 : zz_D mm_S_findByPriority 35 (.aload_n 0) 1 36 := ⟨by decide +kernel, rfl⟩
theorem ee_S_findByPriority_36 : zz_D mm_S_findByPriority 36 (.getfield 17) 3 39 := ⟨by decide +kernel, rfl⟩
theorem ee_S_findByPriority_39 : zz_D mm_S_findByPriority 39 .arraylength 1 40 := ⟨by decide +kernel, rfl⟩
theorem ee_S_findByPriority_40 : zz_D mm_S_findByPriority 40 (.if_icmp .ge 36) 3 43 := ⟨by decide +kernel, rfl⟩
theorem ee_S_findByPriority_43 : zz_D mm_S_findByPriority 43 (.iload_n 3) 1 44 := ⟨by decide +kernel, rfl⟩
theorem ee_S_findByPriority_44 : zz_D mm_S_findByPriority 44 (.aload_n 0) 1 45 := ⟨by decide +kernel, rfl⟩
theorem ee_S_findByPriority_45 : zz_D mm_S_findByPriority 45 (.getfield 17) 3 48 := ⟨by decide +kernel, rfl⟩
theorem ee_S_findByPriority_48 : zz_D mm_S_findByPriority 48 (.iload 4) 2 50 := ⟨by decide +kernel, rfl⟩
theorem ee_S_findByPriority_50 : zz_D mm_S_findByPriority 50 .aaload 1 51 := ⟨by decide +kernel, rfl⟩
theorem ee_S_findByPriority_51 : zz_D mm_S_findByPriority 51 (.aload_n 0) 1 52 := ⟨by decide +kernel, rfl⟩
theorem ee_S_findByPriority_52 : zz_D mm_S_findByPriority 52 (.getfield 17) 3 55 := ⟨by decide +kernel, rfl⟩
theorem ee_S_findByPriority_55 : zz_D mm_S_findByPriority 55 (.iload_n 2) 1 56 := ⟨by decide +kernel, rfl⟩
theorem ee_S_findByPriority_56 : zz_D mm_S_findByPriority 56 .aaload 1 57 := ⟨by decide +kernel, rfl⟩
theorem ee_S_findByPriority_57 : zz_D mm_S_findByPriority 57 (.invokevirtual 63) 3 60 := ⟨by decide +kernel, rfl⟩
theorem kk_S_findByPriority_63 : zz_kV mm_S_findByPriority mm_G_isAheadByPriority 63 1 := ⟨⟨zz_in 1291 (by decide +kernel) rfl, zz_in 24 (by decide +kernel) rfl, by decide +kernel, by decide, by decide⟩, rfl, zz_in 1288 (by decide +kernel) rfl, zz_in 1289 (by decide +kernel) rfl, zz_in 1290 (by decide +kernel) rfl⟩
theorem ee_S_findByPriority_60 : zz_D mm_S_findByPriority 60 (.ifCond .eq 7) 3 63 := ⟨by decide +kernel, rfl⟩
theorem ee_S_findByPriority_63 : zz_D mm_S_findByPriority 63 (.iconst 1) 1 64 := ⟨by decide +kernel, rfl⟩
theorem ee_S_findByPriority_64 : zz_D mm_S_findByPriority 64 (.goto 4) 3 67 := ⟨by decide +kernel, rfl⟩
theorem ee_S_findByPriority_67 : zz_D mm_S_findByPriority 67 (.iconst 0) 1 68 := ⟨by decide +kernel, rfl⟩
theorem ee_S_findByPriority_68 : zz_D mm_S_findByPriority 68 .iadd 1 69 := ⟨by decide +kernel, rfl⟩
theorem ee_S_findByPriority_69 : zz_D mm_S_findByPriority 69 (.istore_n 3) 1 70 := ⟨by decide +kernel, rfl⟩
theorem ee_S_findByPriority_70 : zz_D mm_S_findByPriority 70 (.iinc 4 1) 3 73 := ⟨by decide +kernel, rfl⟩
theorem ee_S_findByPriority_73 : zz_D mm_S_findByPriority 73 (.goto (-49)) 3 76 := ⟨by decide +kernel, rfl⟩
theorem ee_S_findByPriority_76 : zz_D mm_S_findByPriority 76 (.iload_n 3) 1 77 := ⟨by decide +kernel, rfl⟩
theorem ee_S_findByPriority_77 : zz_D mm_S_findByPriority 77 (.iload_n 1) 1 78 := ⟨by decide +kernel, rfl⟩
theorem ee_S_findByPriority_78 : zz_D mm_S_findByPriority 78 (.if_icmp .ne 13) 3 81 := ⟨by decide +kernel, rfl⟩
theorem ee_S_findByPriority_81 : zz_D mm_S_findByPriority 81 (.aload_n 0) 1 82 := ⟨by decide +kernel, rfl⟩
theorem ee_S_findByPriority_82 : zz_D mm_S_findByPriority 82 (.getfield 17) 3 85 := ⟨by decide +kernel, rfl⟩
theorem ee_S_findByPriority_85 : zz_D mm_S_findByPriority 85 (.iload_n 2) 1 86 := ⟨by decide +kernel, rfl⟩
theorem ee_S_findByPriority_86 : zz_D mm_S_findByPriority 86 .aaload 1 87 := ⟨by decide +kernel, rfl⟩
theorem ee_S_findByPriority_87 : zz_D mm_S_findByPriority 87 (.getfield 54) 3 90 := ⟨by decide +kernel, rfl⟩
theorem ff_S_findByPriority_54 : zz_F mm_S_findByPriority 54 6 3 := ⟨by decide, zz_in 115 (by decide +kernel) rfl⟩
theorem ee_S_findByPriority_90 : zz_D mm_S_findByPriority 90 .ireturn 1 91 := ⟨by decide +kernel, rfl⟩
theorem ee_S_findByPriority_91 : zz_D mm_S_findByPriority 91 (.iinc 2 1) 3 94 := ⟨by decide +kernel, rfl⟩
theorem ee_S_findByPriority_94 : zz_D mm_S_findByPriority 94 (.goto (-92)) 3 97 := ⟨by decide +kernel, rfl⟩
theorem ee_S_findByPriority_97 : zz_D mm_S_findByPriority 97 (.iconst (-1)) 1 98 := ⟨by decide +kernel, rfl⟩
theorem ee_S_findByPriority_98 : zz_D mm_S_findByPriority 98 .ireturn 1 99 := ⟨by decide +kernel, rfl⟩
theorem ee_S_findByRot_0 : zz_D mm_S_findByRot 0 (.iconst 0) 1 1 := ⟨by decide +kernel, rfl⟩
theorem ee_S_findByRot_1 : zz_D mm_S_findByRot 1 (.istore_n 2) 1 2 := ⟨by decide +kernel, rfl⟩
theorem ee_S_findByRot_2 : zz_D mm_S_findByRot 2 (.iload_n 2) 1 3 := ⟨by decide +kernel, rfl⟩
theorem ee_S_findByRot_3 : zz_D mm_S_findByRot 3 (.aload_n 0) 1 4 := ⟨by decide +kernel, rfl⟩
theorem ee_S_findByRot_4 : zz_D mm_S_findByRot 4 (.getfield 25) 3 7 := ⟨by decide +kernel, rfl⟩
theorem ff_S_findByRot_25 : zz_F mm_S_findByRot 25 5 3 := ⟨by decide, zz_in 147 (by decide +kernel) rfl⟩
theorem ee_S_findByRot_7 : zz_D mm_S_findByRot 7 (.if_icmp .ge 90) 3 10 := ⟨by decide +kernel, rfl⟩
theorem ee_S_findByRot_10 : zz_D mm_S_findByRot 10 (.iload_n 2) 1 11 := ⟨by decide +kernel, rfl⟩
theorem ee_S_findByRot_11 : zz_D mm_S_findByRot 11 (.aload_n 0) 1 12 := ⟨by decide +kernel, rfl⟩
theorem ee_S_findByRot_12 : zz_D mm_S_findByRot 12 (.getfield 17) 3 15 := ⟨by decide +kernel, rfl⟩
theorem ff_S_findByRot_17 : zz_F mm_S_findByRot 17 5 1 := ⟨by decide, zz_in 143 (by decide +kernel) rfl⟩
theorem ee_S_findByRot_15 : zz_D mm_S_findByRot 15 .arraylength 1 16 := ⟨by decide +kernel, rfl⟩
theorem ee_S_findByRot_16 : zz_D mm_S_findByRot 16 (.if_icmp .ge 81) 3 19 := ⟨by decide +kernel, rfl⟩
theorem ee_S_findByRot_19 : zz_D mm_S_findByRot 19 (.iconst 0) 1 20 := ⟨by decide +kernel, rfl⟩
theorem ee_S_findByRot_20 : zz_D mm_S_findByRot 20 (.istore_n 3) 1 21 := ⟨by decide +kernel, rfl⟩
theorem ee_S_findByRot_21 : zz_D mm_S_findByRot 21 (.iconst 0) 1 22 := ⟨by decide +kernel, rfl⟩
theorem ee_S_findByRot_22 : zz_D mm_S_findByRot 22 (.istore 4) 2 24 := ⟨by decide +kernel, rfl⟩
theorem ee_S_findByRot_24 : zz_D mm_S_findByRot 24 (.iload 4) 2 26 := ⟨by decide +kernel, rfl⟩
theorem ee_S_findByRot_26 : zz_D mm_S_findByRot 26 (.aload_n 0) 1 27 := ⟨by decide +kernel, rfl⟩
theorem ee_S_findByRot_27 : zz_D mm_S_findByRot 27 (.getfield 25) 3 30 := ⟨by decide +kernel, rfl⟩
theorem ee_S_findByRot_30 : zz_D mm_S_findByRot 30 (.if_icmp .ge 46) 3 33 := ⟨by decide +kernel, rfl⟩
theorem ee_S_findByRot_33 : zz_D mm_S_findByRot 33 (.iload 4) 2 35 := ⟨by decide +kernel, rfl⟩
theorem ee_S_findByRot_35 : zz_D mm_S_findByRot 35 (.aload_n 0) 1 36 := ⟨by decide +kernel, rfl⟩
theorem ee_S_findByRot_36 : zz_D mm_S_findByRot 36 (.getfield 17) 3 39 := ⟨by decide +kernel, rfl⟩
theorem ee_S_findByRot_39 : zz_D mm_S_findByRot 39 .arraylength 1 40 := ⟨by decide +kernel, rfl⟩
theorem ee_S_findByRot_40 : zz_D mm_S_findByRot 40 (.if_icmp .ge 36) 3 43 := ⟨by decide +kernel, rfl⟩
theorem ee_S_findByRot_43 : zz_D mm_S_findByRot 43 (.iload_n 3) 1 44 := ⟨by decide +kernel, rfl⟩
theorem ee_S_findByRot_44 : zz_D mm_S_findByRot 44 (.aload_n 0) 1 45 := ⟨by decide +kernel, rfl⟩
theorem ee_S_findByRot_45 : zz_D mm_S_findByRot 45 (.getfield 17) 3 48 := ⟨by decide +kernel, rfl⟩
theorem ee_S_findByRot_48 : zz_D mm_S_findByRot 48 (.iload 4) 2 50 := ⟨by decide +kernel, rfl⟩
theorem ee_S_findByRot_50 : zz_D mm_S_findByRot 50 .aaload 1 51 := ⟨by decide +kernel, rfl⟩
theorem ee_S_findByRot_51 : zz_D mm_S_findByRot 51 (.aload_n 0) 1 52 := ⟨by decide +kernel, rfl⟩
theorem ee_S_findByRot_52 : zz_D mm_S_findByRot 52 (.getfield 17) 3 55 := ⟨by decide +kernel, rfl⟩
theorem ee_S_findByRot_55 : zz_D mm_S_findByRot 55 (.iload_n 2) 1 56 := ⟨by decide +kernel, rfl⟩
theorem ee_S_findByRot_56 : zz_D mm_S_findByRot 56 .aaload 1 57 := ⟨by decide +kernel, rfl⟩
theorem ee_S_findByRot_57 : zz_D mm_S_findByRot 57 (.invokevirtual 67) 3 60 := ⟨by decide +kernel, rfl⟩
theorem kk_S_findByRot_67 : zz_kV mm_S_findByRot mm_G_isAheadByRot 67 1 := ⟨⟨zz_in 1309 (by decide +kernel) rfl, zz_in 24 (by decide +kernel) rfl, by decide +kernel, by decide, by decide⟩, rfl, zz_in 1306 (by decide +kernel) rfl, zz_in 1307 (by decide +kernel) rfl, zz_in 1308 (by decide +kernel) rfl⟩
theorem ee_S_findByRot_60 : zz_D mm_S_findByRot 60 (.ifCond .eq 7) 3 63 := ⟨by decide +kernel, rfl⟩
theorem ee_S_findByRot_63 : zz_D mm_S_findByRot 63 (.iconst 1) 1 64 := ⟨by decide +kernel, rfl⟩
theorem ee_S_findByRot_64 : zz_D mm_S_findByRot 64 (.goto 4) 3 67 := ⟨by decide +kernel, rfl⟩
theorem ee_S_findByRot_67 : zz_D mm_S_findByRot 67 (.iconst 0) 1 68 := ⟨by decide +kernel, rfl⟩
theorem ee_S_findByRot_68 : zz_D mm_S_findByRot 68 .iadd 1 69 := ⟨by decide +kernel, rfl⟩
theorem ee_S_findByRot_69 : zz_D mm_S_findByRot 69 (.istore_n 3) 1 70 := ⟨by decide +kernel, rfl⟩
theorem ee_S_findByRot_70 : zz_D mm_S_findByRot 70 (.iinc 4 1) 3 73 := ⟨by decide +kernel, rfl⟩
theorem ee_S_findByRot_73 : zz_D mm_S_findByRot 73 (.goto (-49)) 3 76 := ⟨by decide +kernel, rfl⟩
theorem ee_S_findByRot_76 : zz_D mm_S_findByRot 76 (.iload_n 3) 1 77 := ⟨by decide +kernel, rfl⟩
theorem ee_S_findByRot_77 : zz_D mm_S_findByRot 77 (.iload_n 1) 1 78 := ⟨by decide +kernel, rfl⟩
theorem ee_S_findByRot_78 : zz_D mm_S_findByRot 78 (.if_icmp .ne 13) 3 81 := ⟨by decide +kernel, rfl⟩
theorem ee_S_findByRot_81 : zz_D mm_S_findByRot 81 (.aload_n 0) 1 82 := ⟨by decide +kernel, rfl⟩
theorem ee_S_findByRot_82 : zz_D mm_S_findByRot 82 (.getfield 17) 3 85 := ⟨by decide +kernel, rfl⟩
theorem ee_S_findByRot_85 : zz_D mm_S_findByRot 85 (.iload_n 2) 1 86 := ⟨by decide +kernel, rfl⟩
theorem ee_S_findByRot_86 : zz_D mm_S_findByRot 86 .aaload 1 87 := ⟨by decide +kernel, rfl⟩
theorem ee_S_findByRot_87 : zz_D mm_S_findByRot 87 (.getfield 54) 3 90 := ⟨by decide +kernel, rfl⟩
theorem ff_S_findByRot_54 : zz_F mm_S_findByRot 54 6 3 := ⟨by decide, zz_in 115 (by decide +kernel) rfl⟩
theorem ee_S_findByRot_90 : zz_D mm_S_findByRot 90 .ireturn 1 91 := ⟨by decide +kernel, rfl⟩
theorem ee_S_findByRot_91 : zz_D mm_S_findByRot 91 (.iinc 2 1) 3 94 := ⟨by decide +kernel, rfl⟩
theorem ee_S_findByRot_94 : zz_D mm_S_findByRot 94 (.goto (-92)) 3 97 := ⟨by decide +kernel, rfl⟩
theorem ee_S_findByRot_97 : zz_D mm_S_findByRot 97 (.iconst (-1)) 1 98 := ⟨by decide +kernel, rfl⟩
theorem ee_S_findByRot_98 : zz_D mm_S_findByRot 98 .ireturn 1 99 := ⟨by decide +kernel, rfl⟩
theorem ee_S_countDaysUntilRotten_0 : zz_D mm_S_countDaysUntilRotten 0 (.bipush 20) 2 2 := ⟨by decide +kernel, rfl⟩
theorem ee_S_countDaysUntilRotten_2 : zz_D mm_S_countDaysUntilRotten 2 (.aload_n 1) 1 3 := ⟨by decide +kernel, rfl⟩
theorem ee_S_countDaysUntilRotten_3 : zz_D mm_S_countDaysUntilRotten 3 (.invokevirtual 92) 3 6 := ⟨by decide +kernel, rfl⟩
theorem kk_S_countDaysUntilRotten_92 : zz_kV mm_S_countDaysUntilRotten mm_G_greatestRot 92 0 := ⟨⟨zz_in 1313 (by decide +kernel) rfl, zz_in 24 (by decide +kernel) rfl, by decide +kernel, by decide, by decide⟩, rfl, zz_in 1333 (by decide +kernel) rfl, zz_in 1311 (by decide +kernel) rfl, zz_in 1312 (by decide +kernel) rfl⟩
theorem ee_S_countDaysUntilRotten_6 : zz_D mm_S_countDaysUntilRotten 6 .isub 1 7 := ⟨by decide +kernel, rfl⟩
theorem ee_S_countDaysUntilRotten_7 : zz_D mm_S_countDaysUntilRotten 7 (.istore_n 2) 1 8 := ⟨by decide +kernel, rfl⟩
theorem ee_S_countDaysUntilRotten_8 : zz_D mm_S_countDaysUntilRotten 8 (.aload_n 0) 1 9 := ⟨by decide +kernel, rfl⟩
theorem ee_S_countDaysUntilRotten_9 : zz_D mm_S_countDaysUntilRotten 9 (.aload_n 1) 1 10 := ⟨by decide +kernel, rfl⟩
theorem ee_S_countDaysUntilRotten_10 : zz_D mm_S_countDaysUntilRotten 10 (.getfield 70) 3 13 := ⟨by decide +kernel, rfl⟩
theorem ff_S_countDaysUntilRotten_70 : zz_F mm_S_countDaysUntilRotten 70 6 4 := ⟨by decide, zz_in 119 (by decide +kernel) rfl⟩
theorem ee_S_countDaysUntilRotten_13 : zz_D mm_S_countDaysUntilRotten 13 (.invokevirtual 38) 3 16 := ⟨by decide +kernel, rfl⟩
theorem kk_S_countDaysUntilRotten_38 : zz_kV mm_S_countDaysUntilRotten mm_S_dampnessAt 38 1 := ⟨⟨zz_in 376 (by decide +kernel) rfl, zz_in 23 (by decide +kernel) rfl, by decide +kernel, by decide, by decide⟩, rfl, zz_in 373 (by decide +kernel) rfl, zz_in 374 (by decide +kernel) rfl, zz_in 375 (by decide +kernel) rfl⟩
theorem ee_S_countDaysUntilRotten_16 : zz_D mm_S_countDaysUntilRotten 16 (.istore_n 3) 1 17 := ⟨by decide +kernel, rfl⟩
theorem ee_S_countDaysUntilRotten_17 : zz_D mm_S_countDaysUntilRotten 17 (.iload_n 2) 1 18 := ⟨by decide +kernel, rfl⟩
theorem ee_S_countDaysUntilRotten_18 : zz_D mm_S_countDaysUntilRotten 18 (.ifCond .gt 5) 3 21 := ⟨by decide +kernel, rfl⟩
theorem ee_S_countDaysUntilRotten_21 : zz_D mm_S_countDaysUntilRotten 21 (.iconst 0) 1 22 := ⟨by decide +kernel, rfl⟩
theorem ee_S_countDaysUntilRotten_22 : zz_D mm_S_countDaysUntilRotten 22 .ireturn 1 23 := ⟨by decide +kernel, rfl⟩
theorem ee_S_countDaysUntilRotten_23 : zz_D mm_S_countDaysUntilRotten 23 (.iload_n 3) 1 24 := ⟨by decide +kernel, rfl⟩
theorem ee_S_countDaysUntilRotten_24 : zz_D mm_S_countDaysUntilRotten 24 (.ifCond .le 13) 3 27 := ⟨by decide +kernel, rfl⟩
theorem ee_S_countDaysUntilRotten_27 : zz_D mm_S_countDaysUntilRotten 27 (.iload_n 2) 1 28 := ⟨by decide +kernel, rfl⟩
theorem ee_S_countDaysUntilRotten_28 : zz_D mm_S_countDaysUntilRotten 28 (.iload_n 3) 1 29 := ⟨by decide +kernel, rfl⟩
theorem ee_S_countDaysUntilRotten_29 : zz_D mm_S_countDaysUntilRotten 29 .iadd 1 30 := ⟨by decide +kernel, rfl⟩
theorem ee_S_countDaysUntilRotten_30 : zz_D mm_S_countDaysUntilRotten 30 (.iconst 1) 1 31 := ⟨by decide +kernel, rfl⟩
theorem ee_S_countDaysUntilRotten_31 : zz_D mm_S_countDaysUntilRotten 31 .isub 1 32 := ⟨by decide +kernel, rfl⟩
theorem ee_S_countDaysUntilRotten_32 : zz_D mm_S_countDaysUntilRotten 32 (.iload_n 3) 1 33 := ⟨by decide +kernel, rfl⟩
theorem ee_S_countDaysUntilRotten_33 : zz_D mm_S_countDaysUntilRotten 33 .idiv 1 34 := ⟨by decide +kernel, rfl⟩
theorem ee_S_countDaysUntilRotten_34 : zz_D mm_S_countDaysUntilRotten 34 (.goto 4) 3 37 := ⟨by decide +kernel, rfl⟩
theorem ee_S_countDaysUntilRotten_37 : zz_D mm_S_countDaysUntilRotten 37 (.iconst (-1)) 1 38 := ⟨by decide +kernel, rfl⟩
theorem ee_S_countDaysUntilRotten_38 : zz_D mm_S_countDaysUntilRotten 38 .ireturn 1 39 := ⟨by decide +kernel, rfl⟩
theorem ee_O_unfoldedLength_0 : zz_D mm_O_unfoldedLength 0 (.iconst 0) 1 1 := ⟨by decide +kernel, rfl⟩
theorem ee_O_unfoldedLength_1 : zz_D mm_O_unfoldedLength 1 (.istore_n 1) 1 2 := ⟨by decide +kernel, rfl⟩
theorem ee_O_unfoldedLength_2 : zz_D mm_O_unfoldedLength 2 (.iconst 1) 1 3 := ⟨by decide +kernel, rfl⟩
theorem ee_O_unfoldedLength_3 : zz_D mm_O_unfoldedLength 3 (.istore_n 2) 1 4 := ⟨by decide +kernel, rfl⟩
theorem ee_O_unfoldedLength_4 : zz_D mm_O_unfoldedLength 4 (.iconst 0) 1 5 := ⟨by decide +kernel, rfl⟩
theorem ee_O_unfoldedLength_5 : zz_D mm_O_unfoldedLength 5 (.istore_n 3) 1 6 := ⟨by decide +kernel, rfl⟩
theorem ee_O_unfoldedLength_6 : zz_D mm_O_unfoldedLength 6 (.iconst 0) 1 7 := ⟨by decide +kernel, rfl⟩
theorem ee_O_unfoldedLength_7 : zz_D mm_O_unfoldedLength 7 (.istore 4) 2 9 := ⟨by decide +kernel, rfl⟩
theorem ee_O_unfoldedLength_9 : zz_D mm_O_unfoldedLength 9 (.iload 4) 2 11 := ⟨by decide +kernel, rfl⟩
theorem ee_O_unfoldedLength_11 : zz_D mm_O_unfoldedLength 11 (.aload_n 0) 1 12 := ⟨by decide +kernel, rfl⟩
theorem ee_O_unfoldedLength_12 : zz_D mm_O_unfoldedLength 12 (.getfield 14) 3 15 := ⟨by decide +kernel, rfl⟩
theorem ff_O_unfoldedLength_14 : zz_F mm_O_unfoldedLength 14 7 1 := ⟨by decide, zz_in 71 (by decide +kernel) rfl⟩
theorem ee_O_unfoldedLength_15 : zz_D mm_O_unfoldedLength 15 (.if_icmp .ge 62) 3 18 := ⟨by decide +kernel, rfl⟩
theorem ee_O_unfoldedLength_18 : zz_D mm_O_unfoldedLength 18 (.aload_n 0) 1 19 := ⟨by decide +kernel, rfl⟩
theorem ee_O_unfoldedLength_19 : zz_D mm_O_unfoldedLength 19 (.iload 4) 2 21 := ⟨by decide +kernel, rfl⟩
theorem ee_O_unfoldedLength_21 : zz_D mm_O_unfoldedLength 21 (.invokevirtual 24) 3 24 := ⟨by decide +kernel, rfl⟩
theorem kk_O_unfoldedLength_24 : zz_kV mm_O_unfoldedLength mm_T_at 24 1 := ⟨⟨zz_in 311 (by decide +kernel) rfl, zz_in 20 (by decide +kernel) rfl, by decide +kernel, by decide, by decide⟩, rfl, zz_in 308 (by decide +kernel) rfl, zz_in 309 (by decide +kernel) rfl, zz_in 310 (by decide +kernel) rfl⟩
theorem ee_O_unfoldedLength_24 : zz_D mm_O_unfoldedLength 24 (.istore 5) 2 26 := ⟨by decide +kernel, rfl⟩
theorem ee_O_unfoldedLength_26 : zz_D mm_O_unfoldedLength 26 (.iload_n 3) 1 27 := ⟨by decide +kernel, rfl⟩
theorem ee_O_unfoldedLength_27 : zz_D mm_O_unfoldedLength 27 (.ifCond .ne 15) 3 30 := ⟨by decide +kernel, rfl⟩
theorem ee_O_unfoldedLength_30 : zz_D mm_O_unfoldedLength 30 (.iload 5) 2 32 := ⟨by decide +kernel, rfl⟩
theorem ee_O_unfoldedLength_32 : zz_D mm_O_unfoldedLength 32 (.bipush 92) 2 34 := ⟨by decide +kernel, rfl⟩
theorem ee_O_unfoldedLength_34 : zz_D mm_O_unfoldedLength 34 (.if_icmp .ne 8) 3 37 := ⟨by decide +kernel, rfl⟩
theorem ee_O_unfoldedLength_37 : zz_D mm_O_unfoldedLength 37 (.iconst 1) 1 38 := ⟨by decide +kernel, rfl⟩
theorem ee_O_unfoldedLength_38 : zz_D mm_O_unfoldedLength 38 (.istore_n 3) 1 39 := ⟨by decide +kernel, rfl⟩
theorem ee_O_unfoldedLength_39 : zz_D mm_O_unfoldedLength 39 (.goto 32) 3 42 := ⟨by decide +kernel, rfl⟩
theorem ee_O_unfoldedLength_42 : zz_D mm_O_unfoldedLength 42 (.iload_n 3) 1 43 := ⟨by decide +kernel, rfl⟩
theorem ee_O_unfoldedLength_43 : zz_D mm_O_unfoldedLength 43 (.ifCond .ne 20) 3 46 := ⟨by decide +kernel, rfl⟩
theorem ee_O_unfoldedLength_46 : zz_D mm_O_unfoldedLength 46 (.iload 5) 2 48 := ⟨by decide +kernel, rfl⟩
theorem ee_O_unfoldedLength_48 : zz_D mm_O_unfoldedLength 48 (.invokestatic 40) 3 51 := ⟨by decide +kernel, rfl⟩
theorem kk_O_unfoldedLength_40 : zz_kSN mm_O_unfoldedLength mm_P_isDigit 40 1 := ⟨⟨zz_in 324 (by decide +kernel) rfl, zz_in 19 (by decide +kernel) rfl, by decide +kernel, by decide, by decide⟩, rfl, ⟨"TurnipPages", zz_inN 322 (by decide +kernel) (by decide +kernel)⟩, zz_in 323 (by decide +kernel) rfl⟩
theorem ee_O_unfoldedLength_51 : zz_D mm_O_unfoldedLength 51 (.ifCond .eq 12) 3 54 := ⟨by decide +kernel, rfl⟩
theorem ee_O_unfoldedLength_54 : zz_D mm_O_unfoldedLength 54 (.iload 5) 2 56 := ⟨by decide +kernel, rfl⟩
theorem ee_O_unfoldedLength_56 : zz_D mm_O_unfoldedLength 56 (.bipush 48) 2 58 := ⟨by decide +kernel, rfl⟩
theorem ee_O_unfoldedLength_58 : zz_D mm_O_unfoldedLength 58 .isub 1 59 := ⟨by decide +kernel, rfl⟩
theorem ee_O_unfoldedLength_59 : zz_D mm_O_unfoldedLength 59 (.istore_n 2) 1 60 := ⟨by decide +kernel, rfl⟩
theorem ee_O_unfoldedLength_60 : zz_D mm_O_unfoldedLength 60 (.goto 11) 3 63 := ⟨by decide +kernel, rfl⟩
theorem ee_O_unfoldedLength_63 : zz_D mm_O_unfoldedLength 63 (.iload_n 1) 1 64 := ⟨by decide +kernel, rfl⟩
theorem ee_O_unfoldedLength_64 : zz_D mm_O_unfoldedLength 64 (.iload_n 2) 1 65 := ⟨by decide +kernel, rfl⟩
theorem ee_O_unfoldedLength_65 : zz_D mm_O_unfoldedLength 65 .iadd 1 66 := ⟨by decide +kernel, rfl⟩
theorem ee_O_unfoldedLength_66 : zz_D mm_O_unfoldedLength 66 (.istore_n 1) 1 67 := ⟨by decide +kernel, rfl⟩
theorem ee_O_unfoldedLength_67 : zz_D mm_O_unfoldedLength 67 (.iconst 1) 1 68 := ⟨by decide +kernel, rfl⟩
theorem ee_O_unfoldedLength_68 : zz_D mm_O_unfoldedLength 68 (.istore_n 2) 1 69 := ⟨by decide +kernel, rfl⟩
theorem ee_O_unfoldedLength_69 : zz_D mm_O_unfoldedLength 69 (.iconst 0) 1 70 := ⟨by decide +kernel, rfl⟩
theorem ee_O_unfoldedLength_70 : zz_D mm_O_unfoldedLength 70 (.istore_n 3) 1 71 := ⟨by decide +kernel, rfl⟩
theorem ee_O_unfoldedLength_71 : zz_D mm_O_unfoldedLength 71 (.iinc 4 1) 3 74 := ⟨by decide +kernel, rfl⟩
theorem ee_O_unfoldedLength_74 : zz_D mm_O_unfoldedLength 74 (.goto (-65)) 3 77 := ⟨by decide +kernel, rfl⟩
theorem ee_O_unfoldedLength_77 : zz_D mm_O_unfoldedLength 77 (.iload_n 1) 1 78 := ⟨by decide +kernel, rfl⟩
theorem ee_O_unfoldedLength_78 : zz_D mm_O_unfoldedLength 78 .ireturn 1 79 := ⟨by decide +kernel, rfl⟩
end
section
theorem ee_V_init_0 : zz_D mm_V_init 0 (.aload_n 0) 1 1 := ⟨by decide +kernel, rfl⟩
theorem ee_V_init_1 : zz_D mm_V_init 1 (.invokespecial 3) 3 4 := ⟨by decide +kernel, rfl⟩
theorem oo_V_init_3 : Cond.methodLink (zz_y mm_V_init).cls 3 Lib.objectInit ∈ zz_gw := zz_in 88 (by decide +kernel) rfl
theorem ee_V_init_4 : zz_D mm_V_init 4 (.aload_n 0) 1 5 := ⟨by decide +kernel, rfl⟩
theorem ee_V_init_5 : zz_D mm_V_init 5 (.new 9) 3 8 := ⟨by decide +kernel, rfl⟩
theorem nn_V_init_9 : zz_Nw2 mm_V_init 9 5 7 := ⟨zz_in 89 (by decide +kernel) rfl, zz_in 90 (by decide +kernel) rfl, zz_in 23 (by decide +kernel) rfl, by decide⟩
theorem ee_V_init_8 : zz_D mm_V_init 8 .dup 1 9 := ⟨by decide +kernel, rfl⟩
theorem ee_V_init_9 : zz_D mm_V_init 9 (.invokespecial 11) 3 12 := ⟨by decide +kernel, rfl⟩
theorem kk_V_init_11 : zz_kI mm_V_init mm_S_init 11 0 := ⟨⟨zz_in 93 (by decide +kernel) rfl, zz_in 23 (by decide +kernel) rfl, by decide +kernel, by decide, by decide⟩, rfl, rfl, rfl, zz_in 91 (by decide +kernel) rfl, zz_in 92 (by decide +kernel) rfl⟩
theorem ee_V_init_12 : zz_D mm_V_init 12 (.putfield 12) 3 15 := ⟨by decide +kernel, rfl⟩
theorem ff_V_init_12 : zz_F mm_V_init 12 1 0 := ⟨by decide, zz_in 174 (by decide +kernel) rfl⟩
theorem ee_V_init_15 : zz_D mm_V_init 15 (.aload_n 0) 1 16 := ⟨by decide +kernel, rfl⟩
theorem ee_V_init_16 : zz_D mm_V_init 16 (.new 18) 3 19 := ⟨by decide +kernel, rfl⟩
theorem nn_V_init_18 : zz_Nw2 mm_V_init 18 7 2 := ⟨zz_in 172 (by decide +kernel) rfl, zz_in 61 (by decide +kernel) rfl, zz_in 20 (by decide +kernel) rfl, by decide⟩
theorem ee_V_init_19 : zz_D mm_V_init 19 .dup 1 20 := ⟨by decide +kernel, rfl⟩
theorem ee_V_init_20 : zz_D mm_V_init 20 (.sipush 432) 3 23 := ⟨by decide +kernel, rfl⟩
theorem ee_V_init_23 : zz_D mm_V_init 23 (.invokespecial 20) 3 26 := ⟨by decide +kernel, rfl⟩
theorem kk_V_init_20 : zz_kI mm_V_init mm_T_init 20 1 := ⟨⟨zz_in 64 (by decide +kernel) rfl, zz_in 20 (by decide +kernel) rfl, by decide +kernel, by decide, by decide⟩, rfl, rfl, rfl, zz_in 173 (by decide +kernel) rfl, zz_in 63 (by decide +kernel) rfl⟩
theorem ee_V_init_26 : zz_D mm_V_init 26 (.putfield 23) 3 29 := ⟨by decide +kernel, rfl⟩
theorem ff_V_init_23 : zz_F mm_V_init 23 1 1 := ⟨by decide, zz_in 176 (by decide +kernel) rfl⟩
theorem ee_V_init_29 : zz_D mm_V_init 29 (.aload_n 0) 1 30 := ⟨by decide +kernel, rfl⟩
theorem ee_V_init_30 : zz_D mm_V_init 30 (.new 18) 3 33 := ⟨by decide +kernel, rfl⟩
theorem ee_V_init_33 : zz_D mm_V_init 33 .dup 1 34 := ⟨by decide +kernel, rfl⟩
theorem ee_V_init_34 : zz_D mm_V_init 34 (.sipush 864) 3 37 := ⟨by decide +kernel, rfl⟩
theorem ee_V_init_37 : zz_D mm_V_init 37 (.invokespecial 20) 3 40 := ⟨by decide +kernel, rfl⟩
theorem ee_V_init_40 : zz_D mm_V_init 40 (.putfield 27) 3 43 := ⟨by decide +kernel, rfl⟩
theorem ff_V_init_27 : zz_F mm_V_init 27 1 2 := ⟨by decide, zz_in 178 (by decide +kernel) rfl⟩
theorem ee_V_init_43 : zz_D mm_V_init 43 (.aload_n 0) 1 44 := ⟨by decide +kernel, rfl⟩
theorem ee_V_init_44 : zz_D mm_V_init 44 (.iconst 0) 1 45 := ⟨by decide +kernel, rfl⟩
theorem ee_V_init_45 : zz_D mm_V_init 45 (.putfield 30) 3 48 := ⟨by decide +kernel, rfl⟩
theorem ff_V_init_30 : zz_F mm_V_init 30 1 3 := ⟨by decide, zz_in 180 (by decide +kernel) rfl⟩
theorem ee_V_init_48 : zz_D mm_V_init 48 .return_ 1 49 := ⟨by decide +kernel, rfl⟩
theorem ee_C_init_0 : zz_D mm_C_init 0 (.aload_n 0) 1 1 := ⟨by decide +kernel, rfl⟩
theorem ee_C_init_1 : zz_D mm_C_init 1 (.invokespecial 3) 3 4 := ⟨by decide +kernel, rfl⟩
theorem oo_C_init_3 : Cond.methodLink (zz_y mm_C_init).cls 3 Lib.objectInit ∈ zz_gw := zz_in 218 (by decide +kernel) rfl
theorem ee_C_init_4 : zz_D mm_C_init 4 (.aload_n 0) 1 5 := ⟨by decide +kernel, rfl⟩
theorem ee_C_init_5 : zz_D mm_C_init 5 (.bipush 10) 2 7 := ⟨by decide +kernel, rfl⟩
theorem ee_C_init_7 : zz_D mm_C_init 7 (.newarray .int) 2 9 := ⟨by decide +kernel, rfl⟩
theorem ee_C_init_9 : zz_D mm_C_init 9 (.putfield 9) 3 12 := ⟨by decide +kernel, rfl⟩
theorem ff_C_init_9 : zz_F mm_C_init 9 2 0 := ⟨by decide, zz_in 219 (by decide +kernel) rfl⟩
theorem ee_C_init_12 : zz_D mm_C_init 12 (.aload_n 0) 1 13 := ⟨by decide +kernel, rfl⟩
theorem ee_C_init_13 : zz_D mm_C_init 13 (.bipush 10) 2 15 := ⟨by decide +kernel, rfl⟩
theorem ee_C_init_15 : zz_D mm_C_init 15 (.newarray .int) 2 17 := ⟨by decide +kernel, rfl⟩
theorem ee_C_init_17 : zz_D mm_C_init 17 (.putfield 15) 3 20 := ⟨by decide +kernel, rfl⟩
theorem ff_C_init_15 : zz_F mm_C_init 15 2 1 := ⟨by decide, zz_in 220 (by decide +kernel) rfl⟩
theorem ee_C_init_20 : zz_D mm_C_init 20 (.aload_n 0) 1 21 := ⟨by decide +kernel, rfl⟩
theorem ee_C_init_21 : zz_D mm_C_init 21 (.bipush 10) 2 23 := ⟨by decide +kernel, rfl⟩
theorem ee_C_init_23 : zz_D mm_C_init 23 (.newarray .int) 2 25 := ⟨by decide +kernel, rfl⟩
theorem ee_C_init_25 : zz_D mm_C_init 25 (.putfield 18) 3 28 := ⟨by decide +kernel, rfl⟩
theorem ff_C_init_18 : zz_F mm_C_init 18 2 2 := ⟨by decide, zz_in 221 (by decide +kernel) rfl⟩
theorem ee_C_init_28 : zz_D mm_C_init 28 (.aload_n 0) 1 29 := ⟨by decide +kernel, rfl⟩
theorem ee_C_init_29 : zz_D mm_C_init 29 (.iconst 0) 1 30 := ⟨by decide +kernel, rfl⟩
theorem ee_C_init_30 : zz_D mm_C_init 30 (.putfield 21) 3 33 := ⟨by decide +kernel, rfl⟩
theorem ff_C_init_21 : zz_F mm_C_init 21 2 3 := ⟨by decide, zz_in 222 (by decide +kernel) rfl⟩
theorem ee_C_init_33 : zz_D mm_C_init 33 (.aload_n 0) 1 34 := ⟨by decide +kernel, rfl⟩
theorem ee_C_init_34 : zz_D mm_C_init 34 (.iconst 0) 1 35 := ⟨by decide +kernel, rfl⟩
theorem ee_C_init_35 : zz_D mm_C_init 35 (.putfield 25) 3 38 := ⟨by decide +kernel, rfl⟩
theorem ff_C_init_25 : zz_F mm_C_init 25 2 4 := ⟨by decide, zz_in 223 (by decide +kernel) rfl⟩
theorem ee_C_init_38 : zz_D mm_C_init 38 .return_ 1 39 := ⟨by decide +kernel, rfl⟩
theorem ee_V_plantRoot_0 : zz_D mm_V_plantRoot 0 (.iload_n 1) 1 1 := ⟨by decide +kernel, rfl⟩
theorem ee_V_plantRoot_1 : zz_D mm_V_plantRoot 1 (.ifCond .lt 8) 3 4 := ⟨by decide +kernel, rfl⟩
theorem ee_V_plantRoot_4 : zz_D mm_V_plantRoot 4 (.iload_n 1) 1 5 := ⟨by decide +kernel, rfl⟩
theorem ee_V_plantRoot_5 : zz_D mm_V_plantRoot 5 (.iconst 5) 1 6 := ⟨by decide +kernel, rfl⟩
theorem ee_V_plantRoot_6 : zz_D mm_V_plantRoot 6 (.if_icmp .le 6) 3 9 := ⟨by decide +kernel, rfl⟩
theorem ee_V_plantRoot_9 : zz_D mm_V_plantRoot 9 (.bipush (-13)) 2 11 := ⟨by decide +kernel, rfl⟩
theorem ee_V_plantRoot_11 : zz_D mm_V_plantRoot 11 .ireturn 1 12 := ⟨by decide +kernel, rfl⟩
theorem ee_V_plantRoot_12 : zz_D mm_V_plantRoot 12 (.aload_n 0) 1 13 := ⟨by decide +kernel, rfl⟩
theorem ee_V_plantRoot_13 : zz_D mm_V_plantRoot 13 (.getfield 12) 3 16 := ⟨by decide +kernel, rfl⟩
theorem ff_V_plantRoot_12 : zz_F mm_V_plantRoot 12 1 0 := ⟨by decide, zz_in 174 (by decide +kernel) rfl⟩
theorem ee_V_plantRoot_16 : zz_D mm_V_plantRoot 16 (.getfield 54) 3 19 := ⟨by decide +kernel, rfl⟩
theorem ff_V_plantRoot_54 : zz_F mm_V_plantRoot 54 5 2 := ⟨by decide, zz_in 145 (by decide +kernel) rfl⟩
theorem ee_V_plantRoot_19 : zz_D mm_V_plantRoot 19 (.iconst 4) 1 20 := ⟨by decide +kernel, rfl⟩
theorem ee_V_plantRoot_20 : zz_D mm_V_plantRoot 20 (.if_icmp .lt 10) 3 23 := ⟨by decide +kernel, rfl⟩
theorem ee_V_plantRoot_23 : zz_D mm_V_plantRoot 23 (.aload_n 0) 1 24 := ⟨by decide +kernel, rfl⟩
theorem ee_V_plantRoot_24 : zz_D mm_V_plantRoot 24 (.iconst 1) 1 25 := ⟨by decide +kernel, rfl⟩
theorem ee_V_plantRoot_25 : zz_D mm_V_plantRoot 25 (.iconst 4) 1 26 := ⟨by decide +kernel, rfl⟩
theorem ee_V_plantRoot_26 : zz_D mm_V_plantRoot 26 (.invokevirtual 57) 3 29 := ⟨by decide +kernel, rfl⟩
theorem kk_V_plantRoot_57 : zz_kV mm_V_plantRoot mm_V_denied 57 2 := ⟨⟨zz_in 526 (by decide +kernel) rfl, zz_in 22 (by decide +kernel) rfl, by decide +kernel, by decide, by decide⟩, rfl, zz_in 523 (by decide +kernel) rfl, zz_in 525 (by decide +kernel) rfl, zz_in 1 (by decide +kernel) rfl⟩
theorem ee_V_plantRoot_29 : zz_D mm_V_plantRoot 29 .ireturn 1 30 := ⟨by decide +kernel, rfl⟩
theorem ee_V_plantRoot_30 : zz_D mm_V_plantRoot 30 (.aload_n 0) 1 31 := ⟨by decide +kernel, rfl⟩
theorem ee_V_plantRoot_31 : zz_D mm_V_plantRoot 31 (.getfield 12) 3 34 := ⟨by decide +kernel, rfl⟩
theorem ee_V_plantRoot_34 : zz_D mm_V_plantRoot 34 (.getfield 54) 3 37 := ⟨by decide +kernel, rfl⟩
theorem ee_V_plantRoot_37 : zz_D mm_V_plantRoot 37 (.istore_n 2) 1 38 := ⟨by decide +kernel, rfl⟩
theorem ee_V_plantRoot_38 : zz_D mm_V_plantRoot 38 (.aload_n 0) 1 39 := ⟨by decide +kernel, rfl⟩
theorem ee_V_plantRoot_39 : zz_D mm_V_plantRoot 39 (.getfield 12) 3 42 := ⟨by decide +kernel, rfl⟩
theorem ee_V_plantRoot_42 : zz_D mm_V_plantRoot 42 .dup 1 43 := ⟨by decide +kernel, rfl⟩
theorem ee_V_plantRoot_43 : zz_D mm_V_plantRoot 43 (.getfield 54) 3 46 := ⟨by decide +kernel, rfl⟩
theorem ee_V_plantRoot_46 : zz_D mm_V_plantRoot 46 (.iconst 1) 1 47 := ⟨by decide +kernel, rfl⟩
theorem ee_V_plantRoot_47 : zz_D mm_V_plantRoot 47 .iadd 1 48 := ⟨by decide +kernel, rfl⟩
theorem ee_V_plantRoot_48 : zz_D mm_V_plantRoot 48 (.putfield 54) 3 51 := ⟨by decide +kernel, rfl⟩
theorem ee_V_plantRoot_51 : zz_D mm_V_plantRoot 51 (.aload_n 0) 1 52 := ⟨by decide +kernel, rfl⟩
theorem ee_V_plantRoot_52 : zz_D mm_V_plantRoot 52 (.getfield 12) 3 55 := ⟨by decide +kernel, rfl⟩
theorem ee_V_plantRoot_55 : zz_D mm_V_plantRoot 55 (.iload_n 2) 1 56 := ⟨by decide +kernel, rfl⟩
theorem ee_V_plantRoot_56 : zz_D mm_V_plantRoot 56 (.iload_n 1) 1 57 := ⟨by decide +kernel, rfl⟩
theorem ee_V_plantRoot_57 : zz_D mm_V_plantRoot 57 (.invokevirtual 60) 3 60 := ⟨by decide +kernel, rfl⟩
theorem kk_V_plantRoot_60 : zz_kV mm_V_plantRoot mm_S_putDampness 60 2 := ⟨⟨zz_in 530 (by decide +kernel) rfl, zz_in 23 (by decide +kernel) rfl, by decide +kernel, by decide, by decide⟩, rfl, zz_in 527 (by decide +kernel) rfl, zz_in 528 (by decide +kernel) rfl, zz_in 529 (by decide +kernel) rfl⟩
theorem ee_V_plantRoot_60 : zz_D mm_V_plantRoot 60 (.iload_n 2) 1 61 := ⟨by decide +kernel, rfl⟩
theorem ee_V_plantRoot_61 : zz_D mm_V_plantRoot 61 .ireturn 1 62 := ⟨by decide +kernel, rfl⟩
theorem ee_V_denied_0 : zz_D mm_V_denied 0 (.aload_n 0) 1 1 := ⟨by decide +kernel, rfl⟩
theorem ee_V_denied_1 : zz_D mm_V_denied 1 (.iload_n 2) 1 2 := ⟨by decide +kernel, rfl⟩
theorem ee_V_denied_2 : zz_D mm_V_denied 2 (.putfield 30) 3 5 := ⟨by decide +kernel, rfl⟩
theorem ff_V_denied_30 : zz_F mm_V_denied 30 1 3 := ⟨by decide, zz_in 180 (by decide +kernel) rfl⟩
theorem ee_V_denied_5 : zz_D mm_V_denied 5 (.iload_n 1) 1 6 := ⟨by decide +kernel, rfl⟩
theorem ee_V_denied_6 : zz_D mm_V_denied 6 .ineg 1 7 := ⟨by decide +kernel, rfl⟩
theorem ee_V_denied_7 : zz_D mm_V_denied 7 .ireturn 1 8 := ⟨by decide +kernel, rfl⟩
theorem ee_V_carveText_0 : zz_D mm_V_carveText 0 (.aload_n 0) 1 1 := ⟨by decide +kernel, rfl⟩
theorem ee_V_carveText_1 : zz_D mm_V_carveText 1 (.getfield 12) 3 4 := ⟨by decide +kernel, rfl⟩
theorem ff_V_carveText_12 : zz_F mm_V_carveText 12 1 0 := ⟨by decide, zz_in 174 (by decide +kernel) rfl⟩
theorem ee_V_carveText_4 : zz_D mm_V_carveText 4 (.iload_n 1) 1 5 := ⟨by decide +kernel, rfl⟩
theorem ee_V_carveText_5 : zz_D mm_V_carveText 5 (.invokevirtual 64) 3 8 := ⟨by decide +kernel, rfl⟩
theorem kk_V_carveText_64 : zz_kV mm_V_carveText mm_S_hasRoot 64 1 := ⟨⟨zz_in 380 (by decide +kernel) rfl, zz_in 23 (by decide +kernel) rfl, by decide +kernel, by decide, by decide⟩, rfl, zz_in 652 (by decide +kernel) rfl, zz_in 378 (by decide +kernel) rfl, zz_in 379 (by decide +kernel) rfl⟩
theorem ee_V_carveText_8 : zz_D mm_V_carveText 8 (.ifCond .ne 6) 3 11 := ⟨by decide +kernel, rfl⟩
theorem ee_V_carveText_11 : zz_D mm_V_carveText 11 (.bipush (-12)) 2 13 := ⟨by decide +kernel, rfl⟩
theorem ee_V_carveText_13 : zz_D mm_V_carveText 13 .ireturn 1 14 := ⟨by decide +kernel, rfl⟩
theorem ee_V_carveText_14 : zz_D mm_V_carveText 14 (.iload_n 2) 1 15 := ⟨by decide +kernel, rfl⟩
theorem ee_V_carveText_15 : zz_D mm_V_carveText 15 (.ifCond .lt 9) 3 18 := ⟨by decide +kernel, rfl⟩
theorem ee_V_carveText_18 : zz_D mm_V_carveText 18 (.iload_n 2) 1 19 := ⟨by decide +kernel, rfl⟩
theorem ee_V_carveText_19 : zz_D mm_V_carveText 19 (.bipush 9) 2 21 := ⟨by decide +kernel, rfl⟩
theorem ee_V_carveText_21 : zz_D mm_V_carveText 21 (.if_icmp .le 6) 3 24 := ⟨by decide +kernel, rfl⟩
theorem ee_V_carveText_24 : zz_D mm_V_carveText 24 (.bipush (-13)) 2 26 := ⟨by decide +kernel, rfl⟩
theorem ee_V_carveText_26 : zz_D mm_V_carveText 26 .ireturn 1 27 := ⟨by decide +kernel, rfl⟩
theorem ee_V_carveText_27 : zz_D mm_V_carveText 27 (.aload_n 3) 1 28 := ⟨by decide +kernel, rfl⟩
theorem ee_V_carveText_28 : zz_D mm_V_carveText 28 (.getfield 71) 3 31 := ⟨by decide +kernel, rfl⟩
theorem ff_V_carveText_71 : zz_F mm_V_carveText 71 7 1 := ⟨by decide, zz_in 75 (by decide +kernel) rfl⟩
theorem ee_V_carveText_31 : zz_D mm_V_carveText 31 (.ifCond .ne 16) 3 34 := ⟨by decide +kernel, rfl⟩
theorem ee_V_carveText_34 : zz_D mm_V_carveText 34 (.aload_n 0) 1 35 := ⟨by decide +kernel, rfl⟩
theorem ee_V_carveText_35 : zz_D mm_V_carveText 35 (.iconst 2) 1 36 := ⟨by decide +kernel, rfl⟩
theorem ee_V_carveText_36 : zz_D mm_V_carveText 36 (.aload_n 0) 1 37 := ⟨by decide +kernel, rfl⟩
theorem ee_V_carveText_37 : zz_D mm_V_carveText 37 (.getfield 12) 3 40 := ⟨by decide +kernel, rfl⟩
theorem ee_V_carveText_40 : zz_D mm_V_carveText 40 (.getfield 74) 3 43 := ⟨by decide +kernel, rfl⟩
theorem ff_V_carveText_74 : zz_F mm_V_carveText 74 5 3 := ⟨by decide, zz_in 148 (by decide +kernel) rfl⟩
theorem ee_V_carveText_43 : zz_D mm_V_carveText 43 (.invokevirtual 57) 3 46 := ⟨by decide +kernel, rfl⟩
theorem kk_V_carveText_57 : zz_kV mm_V_carveText mm_V_denied 57 2 := ⟨⟨zz_in 526 (by decide +kernel) rfl, zz_in 22 (by decide +kernel) rfl, by decide +kernel, by decide, by decide⟩, rfl, zz_in 523 (by decide +kernel) rfl, zz_in 525 (by decide +kernel) rfl, zz_in 1 (by decide +kernel) rfl⟩
theorem ee_V_carveText_46 : zz_D mm_V_carveText 46 .ireturn 1 47 := ⟨by decide +kernel, rfl⟩
theorem ee_V_carveText_47 : zz_D mm_V_carveText 47 (.aload_n 3) 1 48 := ⟨by decide +kernel, rfl⟩
theorem ee_V_carveText_48 : zz_D mm_V_carveText 48 (.aload_n 0) 1 49 := ⟨by decide +kernel, rfl⟩
theorem ee_V_carveText_49 : zz_D mm_V_carveText 49 (.getfield 27) 3 52 := ⟨by decide +kernel, rfl⟩
theorem ff_V_carveText_27 : zz_F mm_V_carveText 27 1 2 := ⟨by decide, zz_in 178 (by decide +kernel) rfl⟩
theorem ee_V_carveText_52 : zz_D mm_V_carveText 52 (.invokestatic 77) 3 55 := ⟨by decide +kernel, rfl⟩
theorem kk_V_carveText_77 : zz_kS mm_V_carveText mm_O_fold 77 2 := ⟨⟨zz_in 303 (by decide +kernel) rfl, zz_in 41 (by decide +kernel) rfl, by decide +kernel, by decide, by decide⟩, rfl, zz_in 653 (by decide +kernel) rfl, zz_in 302 (by decide +kernel) rfl⟩
theorem ee_V_carveText_55 : zz_D mm_V_carveText 55 (.aload_n 0) 1 56 := ⟨by decide +kernel, rfl⟩
theorem ee_V_carveText_56 : zz_D mm_V_carveText 56 (.getfield 12) 3 59 := ⟨by decide +kernel, rfl⟩
theorem ee_V_carveText_59 : zz_D mm_V_carveText 59 (.iload_n 1) 1 60 := ⟨by decide +kernel, rfl⟩
theorem ee_V_carveText_60 : zz_D mm_V_carveText 60 (.aload_n 0) 1 61 := ⟨by decide +kernel, rfl⟩
theorem ee_V_carveText_61 : zz_D mm_V_carveText 61 (.getfield 27) 3 64 := ⟨by decide +kernel, rfl⟩
theorem ee_V_carveText_64 : zz_D mm_V_carveText 64 (.getfield 71) 3 67 := ⟨by decide +kernel, rfl⟩
theorem ee_V_carveText_67 : zz_D mm_V_carveText 67 (.invokestatic 83) 3 70 := ⟨by decide +kernel, rfl⟩
theorem kk_V_carveText_83 : zz_kS mm_V_carveText mm_G_pagesFor 83 1 := ⟨⟨zz_in 656 (by decide +kernel) rfl, zz_in 24 (by decide +kernel) rfl, by decide +kernel, by decide, by decide⟩, rfl, zz_in 654 (by decide +kernel) rfl, zz_in 655 (by decide +kernel) rfl⟩
theorem ee_V_carveText_70 : zz_D mm_V_carveText 70 (.invokevirtual 88) 3 73 := ⟨by decide +kernel, rfl⟩
theorem kk_V_carveText_88 : zz_kV mm_V_carveText mm_S_hasRoomFor 88 2 := ⟨⟨zz_in 660 (by decide +kernel) rfl, zz_in 23 (by decide +kernel) rfl, by decide +kernel, by decide, by decide⟩, rfl, zz_in 657 (by decide +kernel) rfl, zz_in 658 (by decide +kernel) rfl, zz_in 659 (by decide +kernel) rfl⟩
theorem ee_V_carveText_73 : zz_D mm_V_carveText 73 (.istore 4) 2 75 := ⟨by decide +kernel, rfl⟩
theorem ee_V_carveText_75 : zz_D mm_V_carveText 75 (.iload 4) 2 77 := ⟨by decide +kernel, rfl⟩
theorem ee_V_carveText_77 : zz_D mm_V_carveText 77 (.ifCond .eq 13) 3 80 := ⟨by decide +kernel, rfl⟩
theorem ee_V_carveText_80 : zz_D mm_V_carveText 80 (.aload_n 0) 1 81 := ⟨by decide +kernel, rfl⟩
theorem ee_V_carveText_81 : zz_D mm_V_carveText 81 (.getfield 12) 3 84 := ⟨by decide +kernel, rfl⟩
theorem ee_V_carveText_84 : zz_D mm_V_carveText 84 (.invokevirtual 92) 3 87 := ⟨by decide +kernel, rfl⟩
theorem kk_V_carveText_92 : zz_kV mm_V_carveText mm_S_addTelegram 92 0 := ⟨⟨zz_in 665 (by decide +kernel) rfl, zz_in 23 (by decide +kernel) rfl, by decide +kernel, by decide, by decide⟩, rfl, zz_in 662 (by decide +kernel) rfl, zz_in 663 (by decide +kernel) rfl, zz_in 664 (by decide +kernel) rfl⟩
theorem ee_V_carveText_87 : zz_D mm_V_carveText 87 (.goto 4) 3 90 := ⟨by decide +kernel, rfl⟩
theorem ee_V_carveText_90 : zz_D mm_V_carveText 90 .aconst_null 1 91 := ⟨by decide +kernel, rfl⟩
theorem ee_V_carveText_91 : zz_D mm_V_carveText 91 (.astore 5) 2 93 := ⟨by decide +kernel, rfl⟩
theorem ee_V_carveText_93 : zz_D mm_V_carveText 93 (.aload 5) 2 95 := ⟨by decide +kernel, rfl⟩
theorem ee_V_carveText_95 : zz_D mm_V_carveText 95 (.ifnonnull 11) 3 98 := ⟨by decide +kernel, rfl⟩
theorem ee_V_carveText_98 : zz_D mm_V_carveText 98 (.aload_n 0) 1 99 := ⟨by decide +kernel, rfl⟩
theorem ee_V_carveText_99 : zz_D mm_V_carveText 99 (.iconst 1) 1 100 := ⟨by decide +kernel, rfl⟩
theorem ee_V_carveText_100 : zz_D mm_V_carveText 100 (.bipush 8) 2 102 := ⟨by decide +kernel, rfl⟩
theorem ee_V_carveText_102 : zz_D mm_V_carveText 102 (.invokevirtual 57) 3 105 := ⟨by decide +kernel, rfl⟩
theorem ee_V_carveText_105 : zz_D mm_V_carveText 105 .ireturn 1 106 := ⟨by decide +kernel, rfl⟩
theorem ee_V_carveText_106 : zz_D mm_V_carveText 106 (.aload 5) 2 108 := ⟨by decide +kernel, rfl⟩
theorem ee_V_carveText_108 : zz_D mm_V_carveText 108 (.iload_n 1) 1 109 := ⟨by decide +kernel, rfl⟩
theorem ee_V_carveText_109 : zz_D mm_V_carveText 109 (.putfield 96) 3 112 := ⟨by decide +kernel, rfl⟩
theorem ff_V_carveText_96 : zz_F mm_V_carveText 96 6 4 := ⟨by decide, zz_in 118 (by decide +kernel) rfl⟩
theorem ee_V_carveText_112 : zz_D mm_V_carveText 112 (.aload 5) 2 114 := ⟨by decide +kernel, rfl⟩
theorem ee_V_carveText_114 : zz_D mm_V_carveText 114 (.iload_n 2) 1 115 := ⟨by decide +kernel, rfl⟩
theorem ee_V_carveText_115 : zz_D mm_V_carveText 115 (.putfield 99) 3 118 := ⟨by decide +kernel, rfl⟩
theorem ff_V_carveText_99 : zz_F mm_V_carveText 99 6 5 := ⟨by decide, zz_in 122 (by decide +kernel) rfl⟩
theorem ee_V_carveText_118 : zz_D mm_V_carveText 118 (.aload 5) 2 120 := ⟨by decide +kernel, rfl⟩
theorem ee_V_carveText_120 : zz_D mm_V_carveText 120 (.aload_n 3) 1 121 := ⟨by decide +kernel, rfl⟩
theorem ee_V_carveText_121 : zz_D mm_V_carveText 121 (.invokestatic 102) 3 124 := ⟨by decide +kernel, rfl⟩
theorem kk_V_carveText_102 : zz_kS mm_V_carveText mm_O_sumOf 102 1 := ⟨⟨zz_in 668 (by decide +kernel) rfl, zz_in 41 (by decide +kernel) rfl, by decide +kernel, by decide, by decide⟩, rfl, zz_in 666 (by decide +kernel) rfl, zz_in 667 (by decide +kernel) rfl⟩
theorem ee_V_carveText_124 : zz_D mm_V_carveText 124 (.putfield 106) 3 127 := ⟨by decide +kernel, rfl⟩
theorem ff_V_carveText_106 : zz_F mm_V_carveText 106 6 6 := ⟨by decide, zz_in 124 (by decide +kernel) rfl⟩
theorem ee_V_carveText_127 : zz_D mm_V_carveText 127 (.aload 5) 2 129 := ⟨by decide +kernel, rfl⟩
theorem ee_V_carveText_129 : zz_D mm_V_carveText 129 (.aload_n 0) 1 130 := ⟨by decide +kernel, rfl⟩
theorem ee_V_carveText_130 : zz_D mm_V_carveText 130 (.getfield 27) 3 133 := ⟨by decide +kernel, rfl⟩
theorem ee_V_carveText_133 : zz_D mm_V_carveText 133 (.invokevirtual 109) 3 136 := ⟨by decide +kernel, rfl⟩
theorem kk_V_carveText_109 : zz_kV mm_V_carveText mm_G_inscribe 109 1 := ⟨⟨zz_in 672 (by decide +kernel) rfl, zz_in 24 (by decide +kernel) rfl, by decide +kernel, by decide, by decide⟩, rfl, zz_in 669 (by decide +kernel) rfl, zz_in 670 (by decide +kernel) rfl, zz_in 671 (by decide +kernel) rfl⟩
theorem ee_V_carveText_136 : zz_D mm_V_carveText 136 (.aload_n 0) 1 137 := ⟨by decide +kernel, rfl⟩
theorem ee_V_carveText_137 : zz_D mm_V_carveText 137 (.getfield 12) 3 140 := ⟨by decide +kernel, rfl⟩
theorem ee_V_carveText_140 : zz_D mm_V_carveText 140 .dup 1 141 := ⟨by decide +kernel, rfl⟩
theorem ee_V_carveText_141 : zz_D mm_V_carveText 141 (.getfield 113) 3 144 := ⟨by decide +kernel, rfl⟩
theorem ff_V_carveText_113 : zz_F mm_V_carveText 113 5 6 := ⟨by decide, zz_in 155 (by decide +kernel) rfl⟩
theorem ee_V_carveText_144 : zz_D mm_V_carveText 144 (.aload_n 3) 1 145 := ⟨by decide +kernel, rfl⟩
theorem ee_V_carveText_145 : zz_D mm_V_carveText 145 (.getfield 71) 3 148 := ⟨by decide +kernel, rfl⟩
theorem ee_V_carveText_148 : zz_D mm_V_carveText 148 .iadd 1 149 := ⟨by decide +kernel, rfl⟩
theorem ee_V_carveText_149 : zz_D mm_V_carveText 149 (.putfield 113) 3 152 := ⟨by decide +kernel, rfl⟩
theorem ee_V_carveText_152 : zz_D mm_V_carveText 152 (.aload 5) 2 154 := ⟨by decide +kernel, rfl⟩
theorem ee_V_carveText_154 : zz_D mm_V_carveText 154 (.getfield 116) 3 157 := ⟨by decide +kernel, rfl⟩
theorem ff_V_carveText_116 : zz_F mm_V_carveText 116 6 3 := ⟨by decide, zz_in 114 (by decide +kernel) rfl⟩
theorem ee_V_carveText_157 : zz_D mm_V_carveText 157 .ireturn 1 158 := ⟨by decide +kernel, rfl⟩
theorem ee_V_dropTelegram_0 : zz_D mm_V_dropTelegram 0 (.aload_n 0) 1 1 := ⟨by decide +kernel, rfl⟩
theorem ee_V_dropTelegram_1 : zz_D mm_V_dropTelegram 1 (.getfield 12) 3 4 := ⟨by decide +kernel, rfl⟩
theorem ff_V_dropTelegram_12 : zz_F mm_V_dropTelegram 12 1 0 := ⟨by decide, zz_in 174 (by decide +kernel) rfl⟩
theorem ee_V_dropTelegram_4 : zz_D mm_V_dropTelegram 4 (.iload_n 1) 1 5 := ⟨by decide +kernel, rfl⟩
theorem ee_V_dropTelegram_5 : zz_D mm_V_dropTelegram 5 (.invokevirtual 148) 3 8 := ⟨by decide +kernel, rfl⟩
theorem kk_V_dropTelegram_148 : zz_kV mm_V_dropTelegram mm_S_removeTelegram 148 1 := ⟨⟨zz_in 689 (by decide +kernel) rfl, zz_in 23 (by decide +kernel) rfl, by decide +kernel, by decide, by decide⟩, rfl, zz_in 686 (by decide +kernel) rfl, zz_in 687 (by decide +kernel) rfl, zz_in 688 (by decide +kernel) rfl⟩
theorem ee_V_dropTelegram_8 : zz_D mm_V_dropTelegram 8 (.ifCond .eq 13) 3 11 := ⟨by decide +kernel, rfl⟩
theorem ee_V_dropTelegram_11 : zz_D mm_V_dropTelegram 11 (.aload_n 0) 1 12 := ⟨by decide +kernel, rfl⟩
theorem ee_V_dropTelegram_12 : zz_D mm_V_dropTelegram 12 (.getfield 12) 3 15 := ⟨by decide +kernel, rfl⟩
theorem ee_V_dropTelegram_15 : zz_D mm_V_dropTelegram 15 (.getfield 74) 3 18 := ⟨by decide +kernel, rfl⟩
theorem ff_V_dropTelegram_74 : zz_F mm_V_dropTelegram 74 5 3 := ⟨by decide, zz_in 148 (by decide +kernel) rfl⟩
theorem ee_V_dropTelegram_18 : zz_D mm_V_dropTelegram 18 (.goto 5) 3 21 := ⟨by decide +kernel, rfl⟩
theorem ee_V_dropTelegram_21 : zz_D mm_V_dropTelegram 21 (.bipush (-11)) 2 23 := ⟨by decide +kernel, rfl⟩
theorem ee_V_dropTelegram_23 : zz_D mm_V_dropTelegram 23 .ireturn 1 24 := ⟨by decide +kernel, rfl⟩
theorem ee_V_passDays_0 : zz_D mm_V_passDays 0 (.iload_n 1) 1 1 := ⟨by decide +kernel, rfl⟩
theorem ee_V_passDays_1 : zz_D mm_V_passDays 1 (.iconst 1) 1 2 := ⟨by decide +kernel, rfl⟩
theorem ee_V_passDays_2 : zz_D mm_V_passDays 2 (.if_icmp .lt 9) 3 5 := ⟨by decide +kernel, rfl⟩
theorem ee_V_passDays_5 : zz_D mm_V_passDays 5 (.iload_n 1) 1 6 := ⟨by decide +kernel, rfl⟩
theorem ee_V_passDays_6 : zz_D mm_V_passDays 6 (.bipush 20) 2 8 := ⟨by decide +kernel, rfl⟩
theorem ee_V_passDays_8 : zz_D mm_V_passDays 8 (.if_icmp .le 6) 3 11 := ⟨by decide +kernel, rfl⟩
theorem ee_V_passDays_11 : zz_D mm_V_passDays 11 (.bipush (-13)) 2 13 := ⟨by decide +kernel, rfl⟩
theorem ee_V_passDays_13 : zz_D mm_V_passDays 13 .ireturn 1 14 := ⟨by decide +kernel, rfl⟩
theorem ee_V_passDays_14 : zz_D mm_V_passDays 14 (.aload_n 0) 1 15 := ⟨by decide +kernel, rfl⟩
theorem ee_V_passDays_15 : zz_D mm_V_passDays 15 (.getfield 12) 3 18 := ⟨by decide +kernel, rfl⟩
theorem ff_V_passDays_12 : zz_F mm_V_passDays 12 1 0 := ⟨by decide, zz_in 174 (by decide +kernel) rfl⟩
theorem ee_V_passDays_18 : zz_D mm_V_passDays 18 .dup 1 19 := ⟨by decide +kernel, rfl⟩
theorem ee_V_passDays_19 : zz_D mm_V_passDays 19 (.getfield 151) 3 22 := ⟨by decide +kernel, rfl⟩
theorem ff_V_passDays_151 : zz_F mm_V_passDays 151 5 5 := ⟨by decide, zz_in 152 (by decide +kernel) rfl⟩
theorem ee_V_passDays_22 : zz_D mm_V_passDays 22 (.iload_n 1) 1 23 := ⟨by decide +kernel, rfl⟩
theorem ee_V_passDays_23 : zz_D mm_V_passDays 23 .iadd 1 24 := ⟨by decide +kernel, rfl⟩
theorem ee_V_passDays_24 : zz_D mm_V_passDays 24 (.putfield 151) 3 27 := ⟨by decide +kernel, rfl⟩
theorem ee_V_passDays_27 : zz_D mm_V_passDays 27 (.aload_n 0) 1 28 := ⟨by decide +kernel, rfl⟩
theorem ee_V_passDays_28 : zz_D mm_V_passDays 28 (.getfield 12) 3 31 := ⟨by decide +kernel, rfl⟩
theorem ee_V_passDays_31 : zz_D mm_V_passDays 31 (.iload_n 1) 1 32 := ⟨by decide +kernel, rfl⟩
theorem ee_V_passDays_32 : zz_D mm_V_passDays 32 (.invokevirtual 154) 3 35 := ⟨by decide +kernel, rfl⟩
theorem kk_V_passDays_154 : zz_kV mm_V_passDays mm_S_rotBy 154 1 := ⟨⟨zz_in 708 (by decide +kernel) rfl, zz_in 23 (by decide +kernel) rfl, by decide +kernel, by decide, by decide⟩, rfl, zz_in 705 (by decide +kernel) rfl, zz_in 706 (by decide +kernel) rfl, zz_in 707 (by decide +kernel) rfl⟩
theorem ee_V_passDays_35 : zz_D mm_V_passDays 35 .ireturn 1 36 := ⟨by decide +kernel, rfl⟩
theorem ee_C_parse_0 : zz_D mm_C_parse 0 (.aload_n 0) 1 1 := ⟨by decide +kernel, rfl⟩
theorem ee_C_parse_1 : zz_D mm_C_parse 1 (.iconst 0) 1 2 := ⟨by decide +kernel, rfl⟩
theorem ee_C_parse_2 : zz_D mm_C_parse 2 (.putfield 21) 3 5 := ⟨by decide +kernel, rfl⟩
theorem ff_C_parse_21 : zz_F mm_C_parse 21 2 3 := ⟨by decide, zz_in 222 (by decide +kernel) rfl⟩
theorem ee_C_parse_5 : zz_D mm_C_parse 5 (.aload_n 0) 1 6 := ⟨by decide +kernel, rfl⟩
theorem ee_C_parse_6 : zz_D mm_C_parse 6 (.iconst 0) 1 7 := ⟨by decide +kernel, rfl⟩
theorem ee_C_parse_7 : zz_D mm_C_parse 7 (.putfield 25) 3 10 := ⟨by decide +kernel, rfl⟩
theorem ff_C_parse_25 : zz_F mm_C_parse 25 2 4 := ⟨by decide, zz_in 223 (by decide +kernel) rfl⟩
theorem ee_C_parse_10 : zz_D mm_C_parse 10 (.iconst 0) 1 11 := ⟨by decide +kernel, rfl⟩
theorem ee_C_parse_11 : zz_D mm_C_parse 11 (.istore_n 2) 1 12 := ⟨by decide +kernel, rfl⟩
theorem ee_C_parse_12 : zz_D mm_C_parse 12 (.iload_n 2) 1 13 := ⟨by decide +kernel, rfl⟩
theorem ee_C_parse_13 : zz_D mm_C_parse 13 (.bipush 10) 2 15 := ⟨by decide +kernel, rfl⟩
theorem ee_C_parse_15 : zz_D mm_C_parse 15 (.if_icmp .ge 50) 3 18 := ⟨by decide +kernel, rfl⟩
theorem ee_C_parse_18 : zz_D mm_C_parse 18 (.aload_n 0) 1 19 := ⟨by decide +kernel, rfl⟩
theorem ee_C_parse_19 : zz_D mm_C_parse 19 (.aload_n 1) 1 20 := ⟨by decide +kernel, rfl⟩
theorem ee_C_parse_20 : zz_D mm_C_parse 20 (.invokevirtual 28) 3 23 := ⟨by decide +kernel, rfl⟩
theorem kk_C_parse_28 : zz_kV mm_C_parse mm_C_parseCommand 28 1 := ⟨⟨zz_in 760 (by decide +kernel) rfl, zz_in 26 (by decide +kernel) rfl, by decide +kernel, by decide, by decide⟩, rfl, zz_in 757 (by decide +kernel) rfl, zz_in 759 (by decide +kernel) rfl, zz_in 7 (by decide +kernel) rfl⟩
theorem ee_C_parse_23 : zz_D mm_C_parse 23 (.ifCond .ne 8) 3 26 := ⟨by decide +kernel, rfl⟩
theorem ee_C_parse_26 : zz_D mm_C_parse 26 (.aload_n 0) 1 27 := ⟨by decide +kernel, rfl⟩
theorem ee_C_parse_27 : zz_D mm_C_parse 27 (.getfield 21) 3 30 := ⟨by decide +kernel, rfl⟩
theorem ee_C_parse_30 : zz_D mm_C_parse 30 .ireturn 1 31 := ⟨by decide +kernel, rfl⟩
theorem ee_C_parse_31 : zz_D mm_C_parse 31 (.aload_n 0) 1 32 := ⟨by decide +kernel, rfl⟩
theorem ee_C_parse_32 : zz_D mm_C_parse 32 (.getfield 21) 3 35 := ⟨by decide +kernel, rfl⟩
theorem ee_C_parse_35 : zz_D mm_C_parse 35 (.aload_n 1) 1 36 := ⟨by decide +kernel, rfl⟩
theorem ee_C_parse_36 : zz_D mm_C_parse 36 (.getfield 32) 3 39 := ⟨by decide +kernel, rfl⟩
theorem ff_C_parse_32 : zz_F mm_C_parse 32 7 1 := ⟨by decide, zz_in 72 (by decide +kernel) rfl⟩
theorem ee_C_parse_39 : zz_D mm_C_parse 39 (.if_icmp .ne 5) 3 42 := ⟨by decide +kernel, rfl⟩
theorem ee_C_parse_42 : zz_D mm_C_parse 42 (.iconst (-1)) 1 43 := ⟨by decide +kernel, rfl⟩
theorem ee_C_parse_43 : zz_D mm_C_parse 43 .ireturn 1 44 := ⟨by decide +kernel, rfl⟩
theorem ee_C_parse_44 : zz_D mm_C_parse 44 (.aload_n 0) 1 45 := ⟨by decide +kernel, rfl⟩
theorem ee_C_parse_45 : zz_D mm_C_parse 45 (.aload_n 1) 1 46 := ⟨by decide +kernel, rfl⟩
theorem ee_C_parse_46 : zz_D mm_C_parse 46 (.bipush 59) 2 48 := ⟨by decide +kernel, rfl⟩
theorem ee_C_parse_48 : zz_D mm_C_parse 48 (.invokevirtual 37) 3 51 := ⟨by decide +kernel, rfl⟩
theorem kk_C_parse_37 : zz_kV mm_C_parse mm_C_parseSign 37 2 := ⟨⟨zz_in 836 (by decide +kernel) rfl, zz_in 26 (by decide +kernel) rfl, by decide +kernel, by decide, by decide⟩, rfl, zz_in 833 (by decide +kernel) rfl, zz_in 835 (by decide +kernel) rfl, zz_in 11 (by decide +kernel) rfl⟩
theorem ee_C_parse_51 : zz_D mm_C_parse 51 (.ifCond .ne 8) 3 54 := ⟨by decide +kernel, rfl⟩
theorem ee_C_parse_54 : zz_D mm_C_parse 54 (.aload_n 0) 1 55 := ⟨by decide +kernel, rfl⟩
theorem ee_C_parse_55 : zz_D mm_C_parse 55 (.getfield 21) 3 58 := ⟨by decide +kernel, rfl⟩
theorem ee_C_parse_58 : zz_D mm_C_parse 58 .ireturn 1 59 := ⟨by decide +kernel, rfl⟩
theorem ee_C_parse_59 : zz_D mm_C_parse 59 (.iinc 2 1) 3 62 := ⟨by decide +kernel, rfl⟩
theorem ee_C_parse_62 : zz_D mm_C_parse 62 (.goto (-50)) 3 65 := ⟨by decide +kernel, rfl⟩
theorem ee_C_parse_65 : zz_D mm_C_parse 65 (.aload_n 0) 1 66 := ⟨by decide +kernel, rfl⟩
theorem ee_C_parse_66 : zz_D mm_C_parse 66 (.getfield 21) 3 69 := ⟨by decide +kernel, rfl⟩
theorem ee_C_parse_69 : zz_D mm_C_parse 69 .ireturn 1 70 := ⟨by decide +kernel, rfl⟩
theorem ee_C_parseCommand_0 : zz_D mm_C_parseCommand 0 (.aload_n 0) 1 1 := ⟨by decide +kernel, rfl⟩
theorem ee_C_parseCommand_1 : zz_D mm_C_parseCommand 1 (.aload_n 1) 1 2 := ⟨by decide +kernel, rfl⟩
theorem ee_C_parseCommand_2 : zz_D mm_C_parseCommand 2 (.invokevirtual 41) 3 5 := ⟨by decide +kernel, rfl⟩
theorem kk_C_parseCommand_41 : zz_kV mm_C_parseCommand mm_C_parseWord 41 1 := ⟨⟨zz_in 764 (by decide +kernel) rfl, zz_in 26 (by decide +kernel) rfl, by decide +kernel, by decide, by decide⟩, rfl, zz_in 761 (by decide +kernel) rfl, zz_in 763 (by decide +kernel) rfl, zz_in 8 (by decide +kernel) rfl⟩
theorem ee_C_parseCommand_5 : zz_D mm_C_parseCommand 5 (.istore_n 2) 1 6 := ⟨by decide +kernel, rfl⟩
theorem ee_C_parseCommand_6 : zz_D mm_C_parseCommand 6 (.iload_n 2) 1 7 := ⟨by decide +kernel, rfl⟩
theorem ee_C_parseCommand_7 : zz_D mm_C_parseCommand 7 (.iconst (-1)) 1 8 := ⟨by decide +kernel, rfl⟩
theorem ee_C_parseCommand_8 : zz_D mm_C_parseCommand 8 (.if_icmp .ne 5) 3 11 := ⟨by decide +kernel, rfl⟩
theorem ee_C_parseCommand_11 : zz_D mm_C_parseCommand 11 (.iconst 0) 1 12 := ⟨by decide +kernel, rfl⟩
theorem ee_C_parseCommand_12 : zz_D mm_C_parseCommand 12 .ireturn 1 13 := ⟨by decide +kernel, rfl⟩
theorem ee_C_parseCommand_13 : zz_D mm_C_parseCommand 13 (.aload_n 0) 1 14 := ⟨by decide +kernel, rfl⟩
theorem ee_C_parseCommand_14 : zz_D mm_C_parseCommand 14 (.aload_n 1) 1 15 := ⟨by decide +kernel, rfl⟩
theorem ee_C_parseCommand_15 : zz_D mm_C_parseCommand 15 (.iload_n 2) 1 16 := ⟨by decide +kernel, rfl⟩
theorem ee_C_parseCommand_16 : zz_D mm_C_parseCommand 16 (.ifCond .eq 8) 3 19 := ⟨by decide +kernel, rfl⟩
theorem ee_C_parseCommand_19 : zz_D mm_C_parseCommand 19 (.iload_n 2) 1 20 := ⟨by decide +kernel, rfl⟩
theorem ee_C_parseCommand_20 : zz_D mm_C_parseCommand 20 (.iconst 1) 1 21 := ⟨by decide +kernel, rfl⟩
theorem ee_C_parseCommand_21 : zz_D mm_C_parseCommand 21 (.if_icmp .ne 7) 3 24 := ⟨by decide +kernel, rfl⟩
theorem ee_C_parseCommand_24 : zz_D mm_C_parseCommand 24 (.iconst 1) 1 25 := ⟨by decide +kernel, rfl⟩
theorem ee_C_parseCommand_25 : zz_D mm_C_parseCommand 25 (.goto 4) 3 28 := ⟨by decide +kernel, rfl⟩
theorem ee_C_parseCommand_28 : zz_D mm_C_parseCommand 28 (.iconst 2) 1 29 := ⟨by decide +kernel, rfl⟩
theorem ee_C_parseCommand_29 : zz_D mm_C_parseCommand 29 (.invokevirtual 45) 3 32 := ⟨by decide +kernel, rfl⟩
theorem kk_C_parseCommand_45 : zz_kV mm_C_parseCommand mm_C_parseDigits 45 2 := ⟨⟨zz_in 831 (by decide +kernel) rfl, zz_in 26 (by decide +kernel) rfl, by decide +kernel, by decide, by decide⟩, rfl, zz_in 828 (by decide +kernel) rfl, zz_in 830 (by decide +kernel) rfl, zz_in 10 (by decide +kernel) rfl⟩
theorem ee_C_parseCommand_32 : zz_D mm_C_parseCommand 32 (.istore_n 3) 1 33 := ⟨by decide +kernel, rfl⟩
theorem ee_C_parseCommand_33 : zz_D mm_C_parseCommand 33 (.iload_n 3) 1 34 := ⟨by decide +kernel, rfl⟩
theorem ee_C_parseCommand_34 : zz_D mm_C_parseCommand 34 (.iconst (-1)) 1 35 := ⟨by decide +kernel, rfl⟩
theorem ee_C_parseCommand_35 : zz_D mm_C_parseCommand 35 (.if_icmp .ne 5) 3 38 := ⟨by decide +kernel, rfl⟩
theorem ee_C_parseCommand_38 : zz_D mm_C_parseCommand 38 (.iconst 0) 1 39 := ⟨by decide +kernel, rfl⟩
theorem ee_C_parseCommand_39 : zz_D mm_C_parseCommand 39 .ireturn 1 40 := ⟨by decide +kernel, rfl⟩
theorem ee_C_parseCommand_40 : zz_D mm_C_parseCommand 40 (.iconst 0) 1 41 := ⟨by decide +kernel, rfl⟩
theorem ee_C_parseCommand_41 : zz_D mm_C_parseCommand 41 (.istore 4) 2 43 := ⟨by decide +kernel, rfl⟩
theorem ee_C_parseCommand_43 : zz_D mm_C_parseCommand 43 (.iload_n 2) 1 44 := ⟨by decide +kernel, rfl⟩
theorem ee_C_parseCommand_44 : zz_D mm_C_parseCommand 44 (.iconst 4) 1 45 := ⟨by decide +kernel, rfl⟩
theorem ee_C_parseCommand_45 : zz_D mm_C_parseCommand 45 (.if_icmp .ne 25) 3 48 := ⟨by decide +kernel, rfl⟩
theorem ee_C_parseCommand_48 : zz_D mm_C_parseCommand 48 (.aload_n 0) 1 49 := ⟨by decide +kernel, rfl⟩
theorem ee_C_parseCommand_49 : zz_D mm_C_parseCommand 49 (.aload_n 1) 1 50 := ⟨by decide +kernel, rfl⟩
theorem ee_C_parseCommand_50 : zz_D mm_C_parseCommand 50 (.bipush 32) 2 52 := ⟨by decide +kernel, rfl⟩
theorem ee_C_parseCommand_52 : zz_D mm_C_parseCommand 52 (.invokevirtual 37) 3 55 := ⟨by decide +kernel, rfl⟩
theorem kk_C_parseCommand_37 : zz_kV mm_C_parseCommand mm_C_parseSign 37 2 := ⟨⟨zz_in 836 (by decide +kernel) rfl, zz_in 26 (by decide +kernel) rfl, by decide +kernel, by decide, by decide⟩, rfl, zz_in 833 (by decide +kernel) rfl, zz_in 835 (by decide +kernel) rfl, zz_in 11 (by decide +kernel) rfl⟩
theorem ee_C_parseCommand_55 : zz_D mm_C_parseCommand 55 (.ifCond .eq 12) 3 58 := ⟨by decide +kernel, rfl⟩
theorem ee_C_parseCommand_58 : zz_D mm_C_parseCommand 58 (.aload_n 0) 1 59 := ⟨by decide +kernel, rfl⟩
theorem ee_C_parseCommand_59 : zz_D mm_C_parseCommand 59 (.aload_n 1) 1 60 := ⟨by decide +kernel, rfl⟩
theorem ee_C_parseCommand_60 : zz_D mm_C_parseCommand 60 (.iconst 1) 1 61 := ⟨by decide +kernel, rfl⟩
theorem ee_C_parseCommand_61 : zz_D mm_C_parseCommand 61 (.invokevirtual 45) 3 64 := ⟨by decide +kernel, rfl⟩
theorem ee_C_parseCommand_64 : zz_D mm_C_parseCommand 64 (.goto 4) 3 67 := ⟨by decide +kernel, rfl⟩
theorem ee_C_parseCommand_67 : zz_D mm_C_parseCommand 67 (.iconst (-1)) 1 68 := ⟨by decide +kernel, rfl⟩
theorem ee_C_parseCommand_68 : zz_D mm_C_parseCommand 68 (.istore 4) 2 70 := ⟨by decide +kernel, rfl⟩
theorem ee_C_parseCommand_70 : zz_D mm_C_parseCommand 70 (.iload 4) 2 72 := ⟨by decide +kernel, rfl⟩
theorem ee_C_parseCommand_72 : zz_D mm_C_parseCommand 72 (.iconst (-1)) 1 73 := ⟨by decide +kernel, rfl⟩
theorem ee_C_parseCommand_73 : zz_D mm_C_parseCommand 73 (.if_icmp .ne 5) 3 76 := ⟨by decide +kernel, rfl⟩
theorem ee_C_parseCommand_76 : zz_D mm_C_parseCommand 76 (.iconst 0) 1 77 := ⟨by decide +kernel, rfl⟩
theorem ee_C_parseCommand_77 : zz_D mm_C_parseCommand 77 .ireturn 1 78 := ⟨by decide +kernel, rfl⟩
theorem ee_C_parseCommand_78 : zz_D mm_C_parseCommand 78 (.aload_n 0) 1 79 := ⟨by decide +kernel, rfl⟩
theorem ee_C_parseCommand_79 : zz_D mm_C_parseCommand 79 (.iload_n 2) 1 80 := ⟨by decide +kernel, rfl⟩
theorem ee_C_parseCommand_80 : zz_D mm_C_parseCommand 80 (.iload_n 3) 1 81 := ⟨by decide +kernel, rfl⟩
theorem ee_C_parseCommand_81 : zz_D mm_C_parseCommand 81 (.iload 4) 2 83 := ⟨by decide +kernel, rfl⟩
theorem ee_C_parseCommand_83 : zz_D mm_C_parseCommand 83 (.invokevirtual 49) 3 86 := ⟨by decide +kernel, rfl⟩
theorem kk_C_parseCommand_49 : zz_kV mm_C_parseCommand mm_C_keepCommand 49 3 := ⟨⟨zz_in 840 (by decide +kernel) rfl, zz_in 26 (by decide +kernel) rfl, by decide +kernel, by decide, by decide⟩, rfl, zz_in 837 (by decide +kernel) rfl, zz_in 839 (by decide +kernel) rfl, zz_in 12 (by decide +kernel) rfl⟩
theorem ee_C_parseCommand_86 : zz_D mm_C_parseCommand 86 (.iconst 1) 1 87 := ⟨by decide +kernel, rfl⟩
theorem ee_C_parseCommand_87 : zz_D mm_C_parseCommand 87 .ireturn 1 88 := ⟨by decide +kernel, rfl⟩
theorem ee_C_parseWord_0 : zz_D mm_C_parseWord 0 (.iconst 0) 1 1 := ⟨by decide +kernel, rfl⟩
theorem ee_C_parseWord_1 : zz_D mm_C_parseWord 1 (.istore_n 2) 1 2 := ⟨by decide +kernel, rfl⟩
theorem ee_C_parseWord_2 : zz_D mm_C_parseWord 2 (.iconst 0) 1 3 := ⟨by decide +kernel, rfl⟩
theorem ee_C_parseWord_3 : zz_D mm_C_parseWord 3 (.istore_n 3) 1 4 := ⟨by decide +kernel, rfl⟩
theorem ee_C_parseWord_4 : zz_D mm_C_parseWord 4 (.iload_n 3) 1 5 := ⟨by decide +kernel, rfl⟩
theorem ee_C_parseWord_5 : zz_D mm_C_parseWord 5 (.bipush 6) 2 7 := ⟨by decide +kernel, rfl⟩
theorem ee_C_parseWord_7 : zz_D mm_C_parseWord 7 (.if_icmp .ge 54) 3 10 := ⟨by decide +kernel, rfl⟩
theorem ee_C_parseWord_10 : zz_D mm_C_parseWord 10 (.iload_n 3) 1 11 := ⟨by decide +kernel, rfl⟩
theorem ee_C_parseWord_11 : zz_D mm_C_parseWord 11 (.invokestatic 57) 3 14 := ⟨by decide +kernel, rfl⟩
theorem kk_C_parseWord_57 : zz_kS mm_C_parseWord mm_C_wordOf 57 1 := ⟨⟨zz_in 767 (by decide +kernel) rfl, zz_in 26 (by decide +kernel) rfl, by decide +kernel, by decide, by decide⟩, rfl, zz_in 765 (by decide +kernel) rfl, zz_in 766 (by decide +kernel) rfl⟩
theorem ee_C_parseWord_14 : zz_D mm_C_parseWord 14 (.astore 4) 2 16 := ⟨by decide +kernel, rfl⟩
theorem ee_C_parseWord_16 : zz_D mm_C_parseWord 16 (.aload_n 0) 1 17 := ⟨by decide +kernel, rfl⟩
theorem ee_C_parseWord_17 : zz_D mm_C_parseWord 17 (.aload_n 1) 1 18 := ⟨by decide +kernel, rfl⟩
theorem ee_C_parseWord_18 : zz_D mm_C_parseWord 18 (.aload 4) 2 20 := ⟨by decide +kernel, rfl⟩
theorem ee_C_parseWord_20 : zz_D mm_C_parseWord 20 (.invokevirtual 61) 3 23 := ⟨by decide +kernel, rfl⟩
theorem kk_C_parseWord_61 : zz_kV mm_C_parseWord mm_C_countMatching 61 2 := ⟨⟨zz_in 777 (by decide +kernel) rfl, zz_in 26 (by decide +kernel) rfl, by decide +kernel, by decide, by decide⟩, rfl, zz_in 774 (by decide +kernel) rfl, zz_in 776 (by decide +kernel) rfl, zz_in 9 (by decide +kernel) rfl⟩
theorem ee_C_parseWord_23 : zz_D mm_C_parseWord 23 (.istore 5) 2 25 := ⟨by decide +kernel, rfl⟩
theorem ee_C_parseWord_25 : zz_D mm_C_parseWord 25 (.iload 5) 2 27 := ⟨by decide +kernel, rfl⟩
theorem ee_C_parseWord_27 : zz_D mm_C_parseWord 27 (.aload 4) 2 29 := ⟨by decide +kernel, rfl⟩
theorem ee_C_parseWord_29 : zz_D mm_C_parseWord 29 (.invokevirtual 65) 3 32 := ⟨by decide +kernel, rfl⟩
theorem kk_C_parseWord_65 : zz_kV mm_C_parseWord mm_JS_length 65 0 := ⟨⟨zz_in 781 (by decide +kernel) rfl, zz_in 37 (by decide +kernel) rfl, by decide +kernel, by decide, by decide⟩, rfl, zz_in 778 (by decide +kernel) rfl, zz_in 779 (by decide +kernel) rfl, zz_in 780 (by decide +kernel) rfl⟩
theorem ee_C_parseWord_32 : zz_D mm_C_parseWord 32 (.if_icmp .ne 16) 3 35 := ⟨by decide +kernel, rfl⟩
theorem ee_C_parseWord_35 : zz_D mm_C_parseWord 35 (.aload_n 0) 1 36 := ⟨by decide +kernel, rfl⟩
theorem ee_C_parseWord_36 : zz_D mm_C_parseWord 36 .dup 1 37 := ⟨by decide +kernel, rfl⟩
theorem ee_C_parseWord_37 : zz_D mm_C_parseWord 37 (.getfield 21) 3 40 := ⟨by decide +kernel, rfl⟩
theorem ff_C_parseWord_21 : zz_F mm_C_parseWord 21 2 3 := ⟨by decide, zz_in 222 (by decide +kernel) rfl⟩
theorem ee_C_parseWord_40 : zz_D mm_C_parseWord 40 (.iload 5) 2 42 := ⟨by decide +kernel, rfl⟩
theorem ee_C_parseWord_42 : zz_D mm_C_parseWord 42 .iadd 1 43 := ⟨by decide +kernel, rfl⟩
theorem ee_C_parseWord_43 : zz_D mm_C_parseWord 43 (.putfield 21) 3 46 := ⟨by decide +kernel, rfl⟩
theorem ee_C_parseWord_46 : zz_D mm_C_parseWord 46 (.iload_n 3) 1 47 := ⟨by decide +kernel, rfl⟩
theorem ee_C_parseWord_47 : zz_D mm_C_parseWord 47 .ireturn 1 48 := ⟨by decide +kernel, rfl⟩
theorem ee_C_parseWord_48 : zz_D mm_C_parseWord 48 (.iload_n 2) 1 49 := ⟨by decide +kernel, rfl⟩
theorem ee_C_parseWord_49 : zz_D mm_C_parseWord 49 (.iload 5) 2 51 := ⟨by decide +kernel, rfl⟩
theorem ee_C_parseWord_51 : zz_D mm_C_parseWord 51 (.invokestatic 70) 3 54 := ⟨by decide +kernel, rfl⟩
theorem kk_C_parseWord_70 : zz_kS mm_C_parseWord mm_JM_max 70 2 := ⟨⟨zz_in 68 (by decide +kernel) rfl, zz_in 21 (by decide +kernel) rfl, by decide +kernel, by decide, by decide⟩, rfl, zz_in 827 (by decide +kernel) rfl, zz_in 67 (by decide +kernel) rfl⟩
theorem ee_C_parseWord_54 : zz_D mm_C_parseWord 54 (.istore_n 2) 1 55 := ⟨by decide +kernel, rfl⟩
theorem ee_C_parseWord_55 : zz_D mm_C_parseWord 55 (.iinc 3 1) 3 58 := ⟨by decide +kernel, rfl⟩
theorem ee_C_parseWord_58 : zz_D mm_C_parseWord 58 (.goto (-54)) 3 61 := ⟨by decide +kernel, rfl⟩
theorem ee_C_parseWord_61 : zz_D mm_C_parseWord 61 (.aload_n 0) 1 62 := ⟨by decide +kernel, rfl⟩
theorem ee_C_parseWord_62 : zz_D mm_C_parseWord 62 .dup 1 63 := ⟨by decide +kernel, rfl⟩
theorem ee_C_parseWord_63 : zz_D mm_C_parseWord 63 (.getfield 21) 3 66 := ⟨by decide +kernel, rfl⟩
theorem ee_C_parseWord_66 : zz_D mm_C_parseWord 66 (.iload_n 2) 1 67 := ⟨by decide +kernel, rfl⟩
theorem ee_C_parseWord_67 : zz_D mm_C_parseWord 67 .iadd 1 68 := ⟨by decide +kernel, rfl⟩
theorem ee_C_parseWord_68 : zz_D mm_C_parseWord 68 (.putfield 21) 3 71 := ⟨by decide +kernel, rfl⟩
theorem ee_C_parseWord_71 : zz_D mm_C_parseWord 71 (.iconst (-1)) 1 72 := ⟨by decide +kernel, rfl⟩
theorem ee_C_parseWord_72 : zz_D mm_C_parseWord 72 .ireturn 1 73 := ⟨by decide +kernel, rfl⟩
theorem ee_C_wordOf_0 : zz_D mm_C_wordOf 0 (.iload_n 0) 1 1 := ⟨by decide +kernel, rfl⟩
theorem ee_C_wordOf_1 : zz_D mm_C_wordOf 1 (.tableswitch 50 0 4 #[35, 38, 41, 44, 47]) 35 36 := ⟨by decide +kernel, rfl⟩
theorem ee_C_wordOf_36 : zz_D mm_C_wordOf 36 (.ldc 83) 2 38 := ⟨by decide +kernel, rfl⟩
theorem ee_C_wordOf_38 : zz_D mm_C_wordOf 38 .areturn 1 39 := ⟨by decide +kernel, rfl⟩
theorem ee_C_wordOf_39 : zz_D mm_C_wordOf 39 (.ldc 85) 2 41 := ⟨by decide +kernel, rfl⟩
theorem ee_C_wordOf_41 : zz_D mm_C_wordOf 41 .areturn 1 42 := ⟨by decide +kernel, rfl⟩
theorem ee_C_wordOf_42 : zz_D mm_C_wordOf 42 (.ldc 87) 2 44 := ⟨by decide +kernel, rfl⟩
theorem ee_C_wordOf_44 : zz_D mm_C_wordOf 44 .areturn 1 45 := ⟨by decide +kernel, rfl⟩
theorem ee_C_wordOf_45 : zz_D mm_C_wordOf 45 (.ldc 89) 2 47 := ⟨by decide +kernel, rfl⟩
theorem ee_C_wordOf_47 : zz_D mm_C_wordOf 47 .areturn 1 48 := ⟨by decide +kernel, rfl⟩
theorem ee_C_wordOf_48 : zz_D mm_C_wordOf 48 (.ldc 91) 2 50 := ⟨by decide +kernel, rfl⟩
theorem ee_C_wordOf_50 : zz_D mm_C_wordOf 50 .areturn 1 51 := ⟨by decide +kernel, rfl⟩
theorem ee_C_wordOf_51 : zz_D mm_C_wordOf 51 (.ldc 93) 2 53 := ⟨by decide +kernel, rfl⟩
theorem ee_C_wordOf_53 : zz_D mm_C_wordOf 53 .areturn 1 54 := ⟨by decide +kernel, rfl⟩
theorem ee_C_countMatching_0 : zz_D mm_C_countMatching 0 (.iconst 0) 1 1 := ⟨by decide +kernel, rfl⟩
theorem ee_C_countMatching_1 : zz_D mm_C_countMatching 1 (.istore_n 3) 1 2 := ⟨by decide +kernel, rfl⟩
theorem ee_C_countMatching_2 : zz_D mm_C_countMatching 2 (.iload_n 3) 1 3 := ⟨by decide +kernel, rfl⟩
theorem ee_C_countMatching_3 : zz_D mm_C_countMatching 3 (.aload_n 2) 1 4 := ⟨by decide +kernel, rfl⟩
theorem ee_C_countMatching_4 : zz_D mm_C_countMatching 4 (.invokevirtual 65) 3 7 := ⟨by decide +kernel, rfl⟩
theorem kk_C_countMatching_65 : zz_kV mm_C_countMatching mm_JS_length 65 0 := ⟨⟨zz_in 781 (by decide +kernel) rfl, zz_in 37 (by decide +kernel) rfl, by decide +kernel, by decide, by decide⟩, rfl, zz_in 778 (by decide +kernel) rfl, zz_in 779 (by decide +kernel) rfl, zz_in 780 (by decide +kernel) rfl⟩
theorem ee_C_countMatching_7 : zz_D mm_C_countMatching 7 (.if_icmp .ge 29) 3 10 := ⟨by decide +kernel, rfl⟩
theorem ee_C_countMatching_10 : zz_D mm_C_countMatching 10 (.aload_n 1) 1 11 := ⟨by decide +kernel, rfl⟩
theorem ee_C_countMatching_11 : zz_D mm_C_countMatching 11 (.aload_n 0) 1 12 := ⟨by decide +kernel, rfl⟩
theorem ee_C_countMatching_12 : zz_D mm_C_countMatching 12 (.getfield 21) 3 15 := ⟨by decide +kernel, rfl⟩
theorem ff_C_countMatching_21 : zz_F mm_C_countMatching 21 2 3 := ⟨by decide, zz_in 222 (by decide +kernel) rfl⟩
theorem ee_C_countMatching_15 : zz_D mm_C_countMatching 15 (.iload_n 3) 1 16 := ⟨by decide +kernel, rfl⟩
theorem ee_C_countMatching_16 : zz_D mm_C_countMatching 16 .iadd 1 17 := ⟨by decide +kernel, rfl⟩
theorem ee_C_countMatching_17 : zz_D mm_C_countMatching 17 (.invokevirtual 76) 3 20 := ⟨by decide +kernel, rfl⟩
theorem kk_C_countMatching_76 : zz_kV mm_C_countMatching mm_T_at 76 1 := ⟨⟨zz_in 311 (by decide +kernel) rfl, zz_in 20 (by decide +kernel) rfl, by decide +kernel, by decide, by decide⟩, rfl, zz_in 788 (by decide +kernel) rfl, zz_in 309 (by decide +kernel) rfl, zz_in 310 (by decide +kernel) rfl⟩
theorem ee_C_countMatching_20 : zz_D mm_C_countMatching 20 (.aload_n 2) 1 21 := ⟨by decide +kernel, rfl⟩
theorem ee_C_countMatching_21 : zz_D mm_C_countMatching 21 (.iload_n 3) 1 22 := ⟨by decide +kernel, rfl⟩
theorem ee_C_countMatching_22 : zz_D mm_C_countMatching 22 (.invokevirtual 80) 3 25 := ⟨by decide +kernel, rfl⟩
theorem kk_C_countMatching_80 : zz_kV mm_C_countMatching mm_JS_charAt 80 1 := ⟨⟨zz_in 792 (by decide +kernel) rfl, zz_in 37 (by decide +kernel) rfl, by decide +kernel, by decide, by decide⟩, rfl, zz_in 789 (by decide +kernel) rfl, zz_in 790 (by decide +kernel) rfl, zz_in 791 (by decide +kernel) rfl⟩
theorem ee_C_countMatching_25 : zz_D mm_C_countMatching 25 (.if_icmp .eq 5) 3 28 := ⟨by decide +kernel, rfl⟩
theorem ee_C_countMatching_28 : zz_D mm_C_countMatching 28 (.iload_n 3) 1 29 := ⟨by decide +kernel, rfl⟩
theorem ee_C_countMatching_29 : zz_D mm_C_countMatching 29 .ireturn 1 30 := ⟨by decide +kernel, rfl⟩
theorem ee_C_countMatching_30 : zz_D mm_C_countMatching 30 (.iinc 3 1) 3 33 := ⟨by decide +kernel, rfl⟩
theorem ee_C_countMatching_33 : zz_D mm_C_countMatching 33 (.goto (-31)) 3 36 := ⟨by decide +kernel, rfl⟩
theorem ee_C_countMatching_36 : zz_D mm_C_countMatching 36 (.aload_n 2) 1 37 := ⟨by decide +kernel, rfl⟩
theorem ee_C_countMatching_37 : zz_D mm_C_countMatching 37 (.invokevirtual 65) 3 40 := ⟨by decide +kernel, rfl⟩
theorem ee_C_countMatching_40 : zz_D mm_C_countMatching 40 .ireturn 1 41 := ⟨by decide +kernel, rfl⟩
theorem ee_C_parseDigits_0 : zz_D mm_C_parseDigits 0 (.iconst (-1)) 1 1 := ⟨by decide +kernel, rfl⟩
theorem ee_C_parseDigits_1 : zz_D mm_C_parseDigits 1 (.istore_n 3) 1 2 := ⟨by decide +kernel, rfl⟩
theorem ee_C_parseDigits_2 : zz_D mm_C_parseDigits 2 (.iconst 0) 1 3 := ⟨by decide +kernel, rfl⟩
theorem ee_C_parseDigits_3 : zz_D mm_C_parseDigits 3 (.istore 4) 2 5 := ⟨by decide +kernel, rfl⟩
theorem ee_C_parseDigits_5 : zz_D mm_C_parseDigits 5 (.iload 4) 2 7 := ⟨by decide +kernel, rfl⟩
theorem ee_C_parseDigits_7 : zz_D mm_C_parseDigits 7 (.iload_n 2) 1 8 := ⟨by decide +kernel, rfl⟩
theorem ee_C_parseDigits_8 : zz_D mm_C_parseDigits 8 (.if_icmp .ge 54) 3 11 := ⟨by decide +kernel, rfl⟩
theorem ee_C_parseDigits_11 : zz_D mm_C_parseDigits 11 (.aload_n 1) 1 12 := ⟨by decide +kernel, rfl⟩
theorem ee_C_parseDigits_12 : zz_D mm_C_parseDigits 12 (.aload_n 0) 1 13 := ⟨by decide +kernel, rfl⟩
theorem ee_C_parseDigits_13 : zz_D mm_C_parseDigits 13 (.getfield 21) 3 16 := ⟨by decide +kernel, rfl⟩
theorem ff_C_parseDigits_21 : zz_F mm_C_parseDigits 21 2 3 := ⟨by decide, zz_in 222 (by decide +kernel) rfl⟩
theorem ee_C_parseDigits_16 : zz_D mm_C_parseDigits 16 (.invokevirtual 76) 3 19 := ⟨by decide +kernel, rfl⟩
theorem kk_C_parseDigits_76 : zz_kV mm_C_parseDigits mm_T_at 76 1 := ⟨⟨zz_in 311 (by decide +kernel) rfl, zz_in 20 (by decide +kernel) rfl, by decide +kernel, by decide, by decide⟩, rfl, zz_in 788 (by decide +kernel) rfl, zz_in 309 (by decide +kernel) rfl, zz_in 310 (by decide +kernel) rfl⟩
theorem ee_C_parseDigits_19 : zz_D mm_C_parseDigits 19 (.invokestatic 95) 3 22 := ⟨by decide +kernel, rfl⟩
theorem kk_C_parseDigits_95 : zz_kSN mm_C_parseDigits mm_P_isDigit 95 1 := ⟨⟨zz_in 324 (by decide +kernel) rfl, zz_in 19 (by decide +kernel) rfl, by decide +kernel, by decide, by decide⟩, rfl, ⟨"TurnipPages", zz_inN 832 (by decide +kernel) (by decide +kernel)⟩, zz_in 323 (by decide +kernel) rfl⟩
theorem ee_C_parseDigits_22 : zz_D mm_C_parseDigits 22 (.ifCond .eq 40) 3 25 := ⟨by decide +kernel, rfl⟩
theorem ee_C_parseDigits_25 : zz_D mm_C_parseDigits 25 (.iload_n 3) 1 26 := ⟨by decide +kernel, rfl⟩
theorem ee_C_parseDigits_26 : zz_D mm_C_parseDigits 26 (.iconst 0) 1 27 := ⟨by decide +kernel, rfl⟩
theorem ee_C_parseDigits_27 : zz_D mm_C_parseDigits 27 (.invokestatic 70) 3 30 := ⟨by decide +kernel, rfl⟩
theorem kk_C_parseDigits_70 : zz_kS mm_C_parseDigits mm_JM_max 70 2 := ⟨⟨zz_in 68 (by decide +kernel) rfl, zz_in 21 (by decide +kernel) rfl, by decide +kernel, by decide, by decide⟩, rfl, zz_in 827 (by decide +kernel) rfl, zz_in 67 (by decide +kernel) rfl⟩
theorem ee_C_parseDigits_30 : zz_D mm_C_parseDigits 30 (.bipush 10) 2 32 := ⟨by decide +kernel, rfl⟩
theorem ee_C_parseDigits_32 : zz_D mm_C_parseDigits 32 .imul 1 33 := ⟨by decide +kernel, rfl⟩
theorem ee_C_parseDigits_33 : zz_D mm_C_parseDigits 33 (.aload_n 1) 1 34 := ⟨by decide +kernel, rfl⟩
theorem ee_C_parseDigits_34 : zz_D mm_C_parseDigits 34 (.aload_n 0) 1 35 := ⟨by decide +kernel, rfl⟩
theorem ee_C_parseDigits_35 : zz_D mm_C_parseDigits 35 (.getfield 21) 3 38 := ⟨by decide +kernel, rfl⟩
theorem ee_C_parseDigits_38 : zz_D mm_C_parseDigits 38 (.invokevirtual 76) 3 41 := ⟨by decide +kernel, rfl⟩
theorem ee_C_parseDigits_41 : zz_D mm_C_parseDigits 41 .iadd 1 42 := ⟨by decide +kernel, rfl⟩
theorem ee_C_parseDigits_42 : zz_D mm_C_parseDigits 42 (.bipush 48) 2 44 := ⟨by decide +kernel, rfl⟩
theorem ee_C_parseDigits_44 : zz_D mm_C_parseDigits 44 .isub 1 45 := ⟨by decide +kernel, rfl⟩
theorem ee_C_parseDigits_45 : zz_D mm_C_parseDigits 45 (.istore_n 3) 1 46 := ⟨by decide +kernel, rfl⟩
theorem ee_C_parseDigits_46 : zz_D mm_C_parseDigits 46 (.aload_n 0) 1 47 := ⟨by decide +kernel, rfl⟩
theorem ee_C_parseDigits_47 : zz_D mm_C_parseDigits 47 .dup 1 48 := ⟨by decide +kernel, rfl⟩
theorem ee_C_parseDigits_48 : zz_D mm_C_parseDigits 48 (.getfield 21) 3 51 := ⟨by decide +kernel, rfl⟩
theorem ee_C_parseDigits_51 : zz_D mm_C_parseDigits 51 (.iconst 1) 1 52 := ⟨by decide +kernel, rfl⟩
theorem ee_C_parseDigits_52 : zz_D mm_C_parseDigits 52 .iadd 1 53 := ⟨by decide +kernel, rfl⟩
theorem ee_C_parseDigits_53 : zz_D mm_C_parseDigits 53 (.putfield 21) 3 56 := ⟨by decide +kernel, rfl⟩
theorem ee_C_parseDigits_56 : zz_D mm_C_parseDigits 56 (.iinc 4 1) 3 59 := ⟨by decide +kernel, rfl⟩
theorem ee_C_parseDigits_59 : zz_D mm_C_parseDigits 59 (.goto (-54)) 3 62 := ⟨by decide +kernel, rfl⟩
theorem ee_C_parseDigits_62 : zz_D mm_C_parseDigits 62 (.iload_n 3) 1 63 := ⟨by decide +kernel, rfl⟩
theorem ee_C_parseDigits_63 : zz_D mm_C_parseDigits 63 .ireturn 1 64 := ⟨by decide +kernel, rfl⟩
theorem ee_C_parseSign_0 : zz_D mm_C_parseSign 0 (.aload_n 1) 1 1 := ⟨by decide +kernel, rfl⟩
theorem ee_C_parseSign_1 : zz_D mm_C_parseSign 1 (.aload_n 0) 1 2 := ⟨by decide +kernel, rfl⟩
theorem ee_C_parseSign_2 : zz_D mm_C_parseSign 2 (.getfield 21) 3 5 := ⟨by decide +kernel, rfl⟩
theorem ff_C_parseSign_21 : zz_F mm_C_parseSign 21 2 3 := ⟨by decide, zz_in 222 (by decide +kernel) rfl⟩
theorem ee_C_parseSign_5 : zz_D mm_C_parseSign 5 (.invokevirtual 76) 3 8 := ⟨by decide +kernel, rfl⟩
theorem kk_C_parseSign_76 : zz_kV mm_C_parseSign mm_T_at 76 1 := ⟨⟨zz_in 311 (by decide +kernel) rfl, zz_in 20 (by decide +kernel) rfl, by decide +kernel, by decide, by decide⟩, rfl, zz_in 788 (by decide +kernel) rfl, zz_in 309 (by decide +kernel) rfl, zz_in 310 (by decide +kernel) rfl⟩
theorem ee_C_parseSign_8 : zz_D mm_C_parseSign 8 (.iload_n 2) 1 9 := ⟨by decide +kernel, rfl⟩
theorem ee_C_parseSign_9 : zz_D mm_C_parseSign 9 (.if_icmp .eq 5) 3 12 := ⟨by decide +kernel, rfl⟩
theorem ee_C_parseSign_12 : zz_D mm_C_parseSign 12 (.iconst 0) 1 13 := ⟨by decide +kernel, rfl⟩
theorem ee_C_parseSign_13 : zz_D mm_C_parseSign 13 .ireturn 1 14 := ⟨by decide +kernel, rfl⟩
theorem ee_C_parseSign_14 : zz_D mm_C_parseSign 14 (.aload_n 0) 1 15 := ⟨by decide +kernel, rfl⟩
theorem ee_C_parseSign_15 : zz_D mm_C_parseSign 15 .dup 1 16 := ⟨by decide +kernel, rfl⟩
theorem ee_C_parseSign_16 : zz_D mm_C_parseSign 16 (.getfield 21) 3 19 := ⟨by decide +kernel, rfl⟩
theorem ee_C_parseSign_19 : zz_D mm_C_parseSign 19 (.iconst 1) 1 20 := ⟨by decide +kernel, rfl⟩
theorem ee_C_parseSign_20 : zz_D mm_C_parseSign 20 .iadd 1 21 := ⟨by decide +kernel, rfl⟩
theorem ee_C_parseSign_21 : zz_D mm_C_parseSign 21 (.putfield 21) 3 24 := ⟨by decide +kernel, rfl⟩
theorem ee_C_parseSign_24 : zz_D mm_C_parseSign 24 (.iconst 1) 1 25 := ⟨by decide +kernel, rfl⟩
theorem ee_C_parseSign_25 : zz_D mm_C_parseSign 25 .ireturn 1 26 := ⟨by decide +kernel, rfl⟩
theorem ee_C_keepCommand_0 : zz_D mm_C_keepCommand 0 (.aload_n 0) 1 1 := ⟨by decide +kernel, rfl⟩
theorem ee_C_keepCommand_1 : zz_D mm_C_keepCommand 1 (.aload_n 0) 1 2 := ⟨by decide +kernel, rfl⟩
theorem ee_C_keepCommand_2 : zz_D mm_C_keepCommand 2 (.getfield 25) 3 5 := ⟨by decide +kernel, rfl⟩
theorem ff_C_keepCommand_25 : zz_F mm_C_keepCommand 25 2 4 := ⟨by decide, zz_in 223 (by decide +kernel) rfl⟩
theorem ee_C_keepCommand_5 : zz_D mm_C_keepCommand 5 (.invokevirtual 53) 3 8 := ⟨by decide +kernel, rfl⟩
theorem kk_C_keepCommand_53 : zz_kV mm_C_keepCommand mm_C_has 53 1 := ⟨⟨zz_in 844 (by decide +kernel) rfl, zz_in 26 (by decide +kernel) rfl, by decide +kernel, by decide, by decide⟩, rfl, zz_in 841 (by decide +kernel) rfl, zz_in 843 (by decide +kernel) rfl, zz_in 13 (by decide +kernel) rfl⟩
theorem ee_C_keepCommand_8 : zz_D mm_C_keepCommand 8 (.ifCond .eq 43) 3 11 := ⟨by decide +kernel, rfl⟩
theorem ee_C_keepCommand_11 : zz_D mm_C_keepCommand 11 (.aload_n 0) 1 12 := ⟨by decide +kernel, rfl⟩
theorem ee_C_keepCommand_12 : zz_D mm_C_keepCommand 12 (.getfield 9) 3 15 := ⟨by decide +kernel, rfl⟩
theorem ff_C_keepCommand_9 : zz_F mm_C_keepCommand 9 2 0 := ⟨by decide, zz_in 219 (by decide +kernel) rfl⟩
theorem ee_C_keepCommand_15 : zz_D mm_C_keepCommand 15 (.aload_n 0) 1 16 := ⟨by decide +kernel, rfl⟩
theorem ee_C_keepCommand_16 : zz_D mm_C_keepCommand 16 (.getfield 25) 3 19 := ⟨by decide +kernel, rfl⟩
theorem ee_C_keepCommand_19 : zz_D mm_C_keepCommand 19 (.iload_n 1) 1 20 := ⟨by decide +kernel, rfl⟩
theorem ee_C_keepCommand_20 : zz_D mm_C_keepCommand 20 .iastore 1 21 := ⟨by decide +kernel, rfl⟩
theorem ee_C_keepCommand_21 : zz_D mm_C_keepCommand 21 (.aload_n 0) 1 22 := ⟨by decide +kernel, rfl⟩
theorem ee_C_keepCommand_22 : zz_D mm_C_keepCommand 22 (.getfield 15) 3 25 := ⟨by decide +kernel, rfl⟩
theorem ff_C_keepCommand_15 : zz_F mm_C_keepCommand 15 2 1 := ⟨by decide, zz_in 220 (by decide +kernel) rfl⟩
theorem ee_C_keepCommand_25 : zz_D mm_C_keepCommand 25 (.aload_n 0) 1 26 := ⟨by decide +kernel, rfl⟩
theorem ee_C_keepCommand_26 : zz_D mm_C_keepCommand 26 (.getfield 25) 3 29 := ⟨by decide +kernel, rfl⟩
theorem ee_C_keepCommand_29 : zz_D mm_C_keepCommand 29 (.iload_n 2) 1 30 := ⟨by decide +kernel, rfl⟩
theorem ee_C_keepCommand_30 : zz_D mm_C_keepCommand 30 .iastore 1 31 := ⟨by decide +kernel, rfl⟩
theorem ee_C_keepCommand_31 : zz_D mm_C_keepCommand 31 (.aload_n 0) 1 32 := ⟨by decide +kernel, rfl⟩
theorem ee_C_keepCommand_32 : zz_D mm_C_keepCommand 32 (.getfield 18) 3 35 := ⟨by decide +kernel, rfl⟩
theorem ff_C_keepCommand_18 : zz_F mm_C_keepCommand 18 2 2 := ⟨by decide, zz_in 221 (by decide +kernel) rfl⟩
theorem ee_C_keepCommand_35 : zz_D mm_C_keepCommand 35 (.aload_n 0) 1 36 := ⟨by decide +kernel, rfl⟩
theorem ee_C_keepCommand_36 : zz_D mm_C_keepCommand 36 (.getfield 25) 3 39 := ⟨by decide +kernel, rfl⟩
theorem ee_C_keepCommand_39 : zz_D mm_C_keepCommand 39 (.iload_n 3) 1 40 := ⟨by decide +kernel, rfl⟩
theorem ee_C_keepCommand_40 : zz_D mm_C_keepCommand 40 .iastore 1 41 := ⟨by decide +kernel, rfl⟩
theorem ee_C_keepCommand_41 : zz_D mm_C_keepCommand 41 (.aload_n 0) 1 42 := ⟨by decide +kernel, rfl⟩
theorem ee_C_keepCommand_42 : zz_D mm_C_keepCommand 42 .dup 1 43 := ⟨by decide +kernel, rfl⟩
theorem ee_C_keepCommand_43 : zz_D mm_C_keepCommand 43 (.getfield 25) 3 46 := ⟨by decide +kernel, rfl⟩
theorem ee_C_keepCommand_46 : zz_D mm_C_keepCommand 46 (.iconst 1) 1 47 := ⟨by decide +kernel, rfl⟩
theorem ee_C_keepCommand_47 : zz_D mm_C_keepCommand 47 .iadd 1 48 := ⟨by decide +kernel, rfl⟩
theorem ee_C_keepCommand_48 : zz_D mm_C_keepCommand 48 (.putfield 25) 3 51 := ⟨by decide +kernel, rfl⟩
theorem ee_C_keepCommand_51 : zz_D mm_C_keepCommand 51 .return_ 1 52 := ⟨by decide +kernel, rfl⟩
theorem ee_C_has_0 : zz_D mm_C_has 0 (.iload_n 1) 1 1 := ⟨by decide +kernel, rfl⟩
theorem ee_C_has_1 : zz_D mm_C_has 1 (.ifCond .lt 13) 3 4 := ⟨by decide +kernel, rfl⟩
theorem ee_C_has_4 : zz_D mm_C_has 4 (.iload_n 1) 1 5 := ⟨by decide +kernel, rfl⟩
theorem ee_C_has_5 : zz_D mm_C_has 5 (.bipush 10) 2 7 := ⟨by decide +kernel, rfl⟩
theorem ee_C_has_7 : zz_D mm_C_has 7 (.if_icmp .ge 7) 3 10 := ⟨by decide +kernel, rfl⟩
theorem ee_C_has_10 : zz_D mm_C_has 10 (.iconst 1) 1 11 := ⟨by decide +kernel, rfl⟩
theorem ee_C_has_11 : zz_D mm_C_has 11 (.goto 4) 3 14 := ⟨by decide +kernel, rfl⟩
theorem ee_C_has_14 : zz_D mm_C_has 14 (.iconst 0) 1 15 := ⟨by decide +kernel, rfl⟩
theorem ee_C_has_15 : zz_D mm_C_has 15 .ireturn 1 16 := ⟨by decide +kernel, rfl⟩
theorem ee_C_kindOf_0 : zz_D mm_C_kindOf 0 (.aload_n 0) 1 1 := ⟨by decide +kernel, rfl⟩
theorem ee_C_kindOf_1 : zz_D mm_C_kindOf 1 (.iload_n 1) 1 2 := ⟨by decide +kernel, rfl⟩
theorem ee_C_kindOf_2 : zz_D mm_C_kindOf 2 (.invokevirtual 53) 3 5 := ⟨by decide +kernel, rfl⟩
theorem kk_C_kindOf_53 : zz_kV mm_C_kindOf mm_C_has 53 1 := ⟨⟨zz_in 844 (by decide +kernel) rfl, zz_in 26 (by decide +kernel) rfl, by decide +kernel, by decide, by decide⟩, rfl, zz_in 841 (by decide +kernel) rfl, zz_in 843 (by decide +kernel) rfl, zz_in 13 (by decide +kernel) rfl⟩
theorem ee_C_kindOf_5 : zz_D mm_C_kindOf 5 (.ifCond .eq 12) 3 8 := ⟨by decide +kernel, rfl⟩
theorem ee_C_kindOf_8 : zz_D mm_C_kindOf 8 (.aload_n 0) 1 9 := ⟨by decide +kernel, rfl⟩
theorem ee_C_kindOf_9 : zz_D mm_C_kindOf 9 (.getfield 9) 3 12 := ⟨by decide +kernel, rfl⟩
theorem ff_C_kindOf_9 : zz_F mm_C_kindOf 9 2 0 := ⟨by decide, zz_in 219 (by decide +kernel) rfl⟩
theorem ee_C_kindOf_12 : zz_D mm_C_kindOf 12 (.iload_n 1) 1 13 := ⟨by decide +kernel, rfl⟩
theorem ee_C_kindOf_13 : zz_D mm_C_kindOf 13 .iaload 1 14 := ⟨by decide +kernel, rfl⟩
theorem ee_C_kindOf_14 : zz_D mm_C_kindOf 14 (.goto 4) 3 17 := ⟨by decide +kernel, rfl⟩
theorem ee_C_kindOf_17 : zz_D mm_C_kindOf 17 (.iconst (-1)) 1 18 := ⟨by decide +kernel, rfl⟩
theorem ee_C_kindOf_18 : zz_D mm_C_kindOf 18 .ireturn 1 19 := ⟨by decide +kernel, rfl⟩
theorem ee_C_firstOf_0 : zz_D mm_C_firstOf 0 (.aload_n 0) 1 1 := ⟨by decide +kernel, rfl⟩
theorem ee_C_firstOf_1 : zz_D mm_C_firstOf 1 (.iload_n 1) 1 2 := ⟨by decide +kernel, rfl⟩
theorem ee_C_firstOf_2 : zz_D mm_C_firstOf 2 (.invokevirtual 53) 3 5 := ⟨by decide +kernel, rfl⟩
theorem kk_C_firstOf_53 : zz_kV mm_C_firstOf mm_C_has 53 1 := ⟨⟨zz_in 844 (by decide +kernel) rfl, zz_in 26 (by decide +kernel) rfl, by decide +kernel, by decide, by decide⟩, rfl, zz_in 841 (by decide +kernel) rfl, zz_in 843 (by decide +kernel) rfl, zz_in 13 (by decide +kernel) rfl⟩
theorem ee_C_firstOf_5 : zz_D mm_C_firstOf 5 (.ifCond .eq 12) 3 8 := ⟨by decide +kernel, rfl⟩
theorem ee_C_firstOf_8 : zz_D mm_C_firstOf 8 (.aload_n 0) 1 9 := ⟨by decide +kernel, rfl⟩
theorem ee_C_firstOf_9 : zz_D mm_C_firstOf 9 (.getfield 15) 3 12 := ⟨by decide +kernel, rfl⟩
theorem ff_C_firstOf_15 : zz_F mm_C_firstOf 15 2 1 := ⟨by decide, zz_in 220 (by decide +kernel) rfl⟩
theorem ee_C_firstOf_12 : zz_D mm_C_firstOf 12 (.iload_n 1) 1 13 := ⟨by decide +kernel, rfl⟩
theorem ee_C_firstOf_13 : zz_D mm_C_firstOf 13 .iaload 1 14 := ⟨by decide +kernel, rfl⟩
theorem ee_C_firstOf_14 : zz_D mm_C_firstOf 14 (.goto 4) 3 17 := ⟨by decide +kernel, rfl⟩
theorem ee_C_firstOf_17 : zz_D mm_C_firstOf 17 (.iconst 0) 1 18 := ⟨by decide +kernel, rfl⟩
theorem ee_C_firstOf_18 : zz_D mm_C_firstOf 18 .ireturn 1 19 := ⟨by decide +kernel, rfl⟩
theorem ee_C_secondOf_0 : zz_D mm_C_secondOf 0 (.aload_n 0) 1 1 := ⟨by decide +kernel, rfl⟩
theorem ee_C_secondOf_1 : zz_D mm_C_secondOf 1 (.iload_n 1) 1 2 := ⟨by decide +kernel, rfl⟩
theorem ee_C_secondOf_2 : zz_D mm_C_secondOf 2 (.invokevirtual 53) 3 5 := ⟨by decide +kernel, rfl⟩
theorem kk_C_secondOf_53 : zz_kV mm_C_secondOf mm_C_has 53 1 := ⟨⟨zz_in 844 (by decide +kernel) rfl, zz_in 26 (by decide +kernel) rfl, by decide +kernel, by decide, by decide⟩, rfl, zz_in 841 (by decide +kernel) rfl, zz_in 843 (by decide +kernel) rfl, zz_in 13 (by decide +kernel) rfl⟩
theorem ee_C_secondOf_5 : zz_D mm_C_secondOf 5 (.ifCond .eq 12) 3 8 := ⟨by decide +kernel, rfl⟩
theorem ee_C_secondOf_8 : zz_D mm_C_secondOf 8 (.aload_n 0) 1 9 := ⟨by decide +kernel, rfl⟩
theorem ee_C_secondOf_9 : zz_D mm_C_secondOf 9 (.getfield 18) 3 12 := ⟨by decide +kernel, rfl⟩
theorem ff_C_secondOf_18 : zz_F mm_C_secondOf 18 2 2 := ⟨by decide, zz_in 221 (by decide +kernel) rfl⟩
theorem ee_C_secondOf_12 : zz_D mm_C_secondOf 12 (.iload_n 1) 1 13 := ⟨by decide +kernel, rfl⟩
theorem ee_C_secondOf_13 : zz_D mm_C_secondOf 13 .iaload 1 14 := ⟨by decide +kernel, rfl⟩
theorem ee_C_secondOf_14 : zz_D mm_C_secondOf 14 (.goto 4) 3 17 := ⟨by decide +kernel, rfl⟩
theorem ee_C_secondOf_17 : zz_D mm_C_secondOf 17 (.iconst 0) 1 18 := ⟨by decide +kernel, rfl⟩
theorem ee_C_secondOf_18 : zz_D mm_C_secondOf 18 .ireturn 1 19 := ⟨by decide +kernel, rfl⟩
theorem ee_V_carryOut_0 : zz_D mm_V_carryOut 0 (.iload_n 1) 1 1 := ⟨by decide +kernel, rfl⟩
theorem ee_V_carryOut_1 : zz_D mm_V_carryOut 1 (.tableswitch 76 0 5 #[39, 45, 51, 57, 63, 70]) 39 40 := ⟨by decide +kernel, rfl⟩
theorem ee_V_carryOut_40 : zz_D mm_V_carryOut 40 (.aload_n 0) 1 41 := ⟨by decide +kernel, rfl⟩
theorem ee_V_carryOut_41 : zz_D mm_V_carryOut 41 (.iload_n 2) 1 42 := ⟨by decide +kernel, rfl⟩
theorem ee_V_carryOut_42 : zz_D mm_V_carryOut 42 (.invokevirtual 34) 3 45 := ⟨by decide +kernel, rfl⟩
theorem kk_V_carryOut_34 : zz_kV mm_V_carryOut mm_V_plantRoot 34 1 := ⟨⟨zz_in 522 (by decide +kernel) rfl, zz_in 22 (by decide +kernel) rfl, by decide +kernel, by decide, by decide⟩, rfl, zz_in 861 (by decide +kernel) rfl, zz_in 520 (by decide +kernel) rfl, zz_in 521 (by decide +kernel) rfl⟩
theorem ee_V_carryOut_45 : zz_D mm_V_carryOut 45 .ireturn 1 46 := ⟨by decide +kernel, rfl⟩
theorem ee_V_carryOut_46 : zz_D mm_V_carryOut 46 (.aload_n 0) 1 47 := ⟨by decide +kernel, rfl⟩
theorem ee_V_carryOut_47 : zz_D mm_V_carryOut 47 (.iload_n 2) 1 48 := ⟨by decide +kernel, rfl⟩
theorem ee_V_carryOut_48 : zz_D mm_V_carryOut 48 (.invokevirtual 38) 3 51 := ⟨by decide +kernel, rfl⟩
theorem kk_V_carryOut_38 : zz_kV mm_V_carryOut mm_V_dryRoot 38 1 := ⟨⟨zz_in 865 (by decide +kernel) rfl, zz_in 22 (by decide +kernel) rfl, by decide +kernel, by decide, by decide⟩, rfl, zz_in 862 (by decide +kernel) rfl, zz_in 863 (by decide +kernel) rfl, zz_in 864 (by decide +kernel) rfl⟩
theorem ee_V_carryOut_51 : zz_D mm_V_carryOut 51 .ireturn 1 52 := ⟨by decide +kernel, rfl⟩
theorem ee_V_carryOut_52 : zz_D mm_V_carryOut 52 (.aload_n 0) 1 53 := ⟨by decide +kernel, rfl⟩
theorem ee_V_carryOut_53 : zz_D mm_V_carryOut 53 (.iload_n 2) 1 54 := ⟨by decide +kernel, rfl⟩
theorem ee_V_carryOut_54 : zz_D mm_V_carryOut 54 (.invokevirtual 41) 3 57 := ⟨by decide +kernel, rfl⟩
theorem kk_V_carryOut_41 : zz_kV mm_V_carryOut mm_V_passDays 41 1 := ⟨⟨zz_in 704 (by decide +kernel) rfl, zz_in 22 (by decide +kernel) rfl, by decide +kernel, by decide, by decide⟩, rfl, zz_in 867 (by decide +kernel) rfl, zz_in 702 (by decide +kernel) rfl, zz_in 703 (by decide +kernel) rfl⟩
theorem ee_V_carryOut_57 : zz_D mm_V_carryOut 57 .ireturn 1 58 := ⟨by decide +kernel, rfl⟩
theorem ee_V_carryOut_58 : zz_D mm_V_carryOut 58 (.aload_n 0) 1 59 := ⟨by decide +kernel, rfl⟩
theorem ee_V_carryOut_59 : zz_D mm_V_carryOut 59 (.iload_n 2) 1 60 := ⟨by decide +kernel, rfl⟩
theorem ee_V_carryOut_60 : zz_D mm_V_carryOut 60 (.invokevirtual 44) 3 63 := ⟨by decide +kernel, rfl⟩
theorem kk_V_carryOut_44 : zz_kV mm_V_carryOut mm_V_carveAnew 44 1 := ⟨⟨zz_in 871 (by decide +kernel) rfl, zz_in 22 (by decide +kernel) rfl, by decide +kernel, by decide, by decide⟩, rfl, zz_in 868 (by decide +kernel) rfl, zz_in 869 (by decide +kernel) rfl, zz_in 870 (by decide +kernel) rfl⟩
theorem ee_V_carryOut_63 : zz_D mm_V_carryOut 63 .ireturn 1 64 := ⟨by decide +kernel, rfl⟩
theorem ee_V_carryOut_64 : zz_D mm_V_carryOut 64 (.aload_n 0) 1 65 := ⟨by decide +kernel, rfl⟩
theorem ee_V_carryOut_65 : zz_D mm_V_carryOut 65 (.iload_n 2) 1 66 := ⟨by decide +kernel, rfl⟩
theorem ee_V_carryOut_66 : zz_D mm_V_carryOut 66 (.iload_n 3) 1 67 := ⟨by decide +kernel, rfl⟩
theorem ee_V_carryOut_67 : zz_D mm_V_carryOut 67 (.invokevirtual 47) 3 70 := ⟨by decide +kernel, rfl⟩
theorem kk_V_carryOut_47 : zz_kV mm_V_carryOut mm_V_moveTelegram 47 2 := ⟨⟨zz_in 890 (by decide +kernel) rfl, zz_in 22 (by decide +kernel) rfl, by decide +kernel, by decide, by decide⟩, rfl, zz_in 887 (by decide +kernel) rfl, zz_in 888 (by decide +kernel) rfl, zz_in 889 (by decide +kernel) rfl⟩
theorem ee_V_carryOut_70 : zz_D mm_V_carryOut 70 .ireturn 1 71 := ⟨by decide +kernel, rfl⟩
theorem ee_V_carryOut_71 : zz_D mm_V_carryOut 71 (.aload_n 0) 1 72 := ⟨by decide +kernel, rfl⟩
theorem ee_V_carryOut_72 : zz_D mm_V_carryOut 72 (.iload_n 2) 1 73 := ⟨by decide +kernel, rfl⟩
theorem ee_V_carryOut_73 : zz_D mm_V_carryOut 73 (.invokevirtual 51) 3 76 := ⟨by decide +kernel, rfl⟩
theorem kk_V_carryOut_51 : zz_kV mm_V_carryOut mm_V_dropTelegram 51 1 := ⟨⟨zz_in 685 (by decide +kernel) rfl, zz_in 22 (by decide +kernel) rfl, by decide +kernel, by decide, by decide⟩, rfl, zz_in 891 (by decide +kernel) rfl, zz_in 683 (by decide +kernel) rfl, zz_in 684 (by decide +kernel) rfl⟩
theorem ee_V_carryOut_76 : zz_D mm_V_carryOut 76 .ireturn 1 77 := ⟨by decide +kernel, rfl⟩
theorem ee_V_carryOut_77 : zz_D mm_V_carryOut 77 (.bipush (-13)) 2 79 := ⟨by decide +kernel, rfl⟩
theorem ee_V_carryOut_79 : zz_D mm_V_carryOut 79 .ireturn 1 80 := ⟨by decide +kernel, rfl⟩
theorem ee_V_dryRoot_0 : zz_D mm_V_dryRoot 0 (.aload_n 0) 1 1 := ⟨by decide +kernel, rfl⟩
theorem ee_V_dryRoot_1 : zz_D mm_V_dryRoot 1 (.getfield 12) 3 4 := ⟨by decide +kernel, rfl⟩
theorem ff_V_dryRoot_12 : zz_F mm_V_dryRoot 12 1 0 := ⟨by decide, zz_in 174 (by decide +kernel) rfl⟩
theorem ee_V_dryRoot_4 : zz_D mm_V_dryRoot 4 (.iload_n 1) 1 5 := ⟨by decide +kernel, rfl⟩
theorem ee_V_dryRoot_5 : zz_D mm_V_dryRoot 5 (.invokevirtual 64) 3 8 := ⟨by decide +kernel, rfl⟩
theorem kk_V_dryRoot_64 : zz_kV mm_V_dryRoot mm_S_hasRoot 64 1 := ⟨⟨zz_in 380 (by decide +kernel) rfl, zz_in 23 (by decide +kernel) rfl, by decide +kernel, by decide, by decide⟩, rfl, zz_in 652 (by decide +kernel) rfl, zz_in 378 (by decide +kernel) rfl, zz_in 379 (by decide +kernel) rfl⟩
theorem ee_V_dryRoot_8 : zz_D mm_V_dryRoot 8 (.ifCond .ne 6) 3 11 := ⟨by decide +kernel, rfl⟩
theorem ee_V_dryRoot_11 : zz_D mm_V_dryRoot 11 (.bipush (-12)) 2 13 := ⟨by decide +kernel, rfl⟩
theorem ee_V_dryRoot_13 : zz_D mm_V_dryRoot 13 .ireturn 1 14 := ⟨by decide +kernel, rfl⟩
theorem ee_V_dryRoot_14 : zz_D mm_V_dryRoot 14 (.aload_n 0) 1 15 := ⟨by decide +kernel, rfl⟩
theorem ee_V_dryRoot_15 : zz_D mm_V_dryRoot 15 (.getfield 12) 3 18 := ⟨by decide +kernel, rfl⟩
theorem ee_V_dryRoot_18 : zz_D mm_V_dryRoot 18 (.iload_n 1) 1 19 := ⟨by decide +kernel, rfl⟩
theorem ee_V_dryRoot_19 : zz_D mm_V_dryRoot 19 (.invokevirtual 68) 3 22 := ⟨by decide +kernel, rfl⟩
theorem kk_V_dryRoot_68 : zz_kV mm_V_dryRoot mm_S_dampnessAt 68 1 := ⟨⟨zz_in 376 (by decide +kernel) rfl, zz_in 23 (by decide +kernel) rfl, by decide +kernel, by decide, by decide⟩, rfl, zz_in 866 (by decide +kernel) rfl, zz_in 374 (by decide +kernel) rfl, zz_in 375 (by decide +kernel) rfl⟩
theorem ee_V_dryRoot_22 : zz_D mm_V_dryRoot 22 (.istore_n 2) 1 23 := ⟨by decide +kernel, rfl⟩
theorem ee_V_dryRoot_23 : zz_D mm_V_dryRoot 23 (.iload_n 2) 1 24 := ⟨by decide +kernel, rfl⟩
theorem ee_V_dryRoot_24 : zz_D mm_V_dryRoot 24 (.ifCond .ne 10) 3 27 := ⟨by decide +kernel, rfl⟩
theorem ee_V_dryRoot_27 : zz_D mm_V_dryRoot 27 (.aload_n 0) 1 28 := ⟨by decide +kernel, rfl⟩
theorem ee_V_dryRoot_28 : zz_D mm_V_dryRoot 28 (.iconst 4) 1 29 := ⟨by decide +kernel, rfl⟩
theorem ee_V_dryRoot_29 : zz_D mm_V_dryRoot 29 (.iload_n 2) 1 30 := ⟨by decide +kernel, rfl⟩
theorem ee_V_dryRoot_30 : zz_D mm_V_dryRoot 30 (.invokevirtual 57) 3 33 := ⟨by decide +kernel, rfl⟩
theorem kk_V_dryRoot_57 : zz_kV mm_V_dryRoot mm_V_denied 57 2 := ⟨⟨zz_in 526 (by decide +kernel) rfl, zz_in 22 (by decide +kernel) rfl, by decide +kernel, by decide, by decide⟩, rfl, zz_in 523 (by decide +kernel) rfl, zz_in 525 (by decide +kernel) rfl, zz_in 1 (by decide +kernel) rfl⟩
theorem ee_V_dryRoot_33 : zz_D mm_V_dryRoot 33 .ireturn 1 34 := ⟨by decide +kernel, rfl⟩
theorem ee_V_dryRoot_34 : zz_D mm_V_dryRoot 34 (.aload_n 0) 1 35 := ⟨by decide +kernel, rfl⟩
theorem ee_V_dryRoot_35 : zz_D mm_V_dryRoot 35 (.getfield 12) 3 38 := ⟨by decide +kernel, rfl⟩
theorem ee_V_dryRoot_38 : zz_D mm_V_dryRoot 38 (.iload_n 1) 1 39 := ⟨by decide +kernel, rfl⟩
theorem ee_V_dryRoot_39 : zz_D mm_V_dryRoot 39 (.iload_n 2) 1 40 := ⟨by decide +kernel, rfl⟩
theorem ee_V_dryRoot_40 : zz_D mm_V_dryRoot 40 (.iconst 1) 1 41 := ⟨by decide +kernel, rfl⟩
theorem ee_V_dryRoot_41 : zz_D mm_V_dryRoot 41 .isub 1 42 := ⟨by decide +kernel, rfl⟩
theorem ee_V_dryRoot_42 : zz_D mm_V_dryRoot 42 (.invokevirtual 60) 3 45 := ⟨by decide +kernel, rfl⟩
theorem kk_V_dryRoot_60 : zz_kV mm_V_dryRoot mm_S_putDampness 60 2 := ⟨⟨zz_in 530 (by decide +kernel) rfl, zz_in 23 (by decide +kernel) rfl, by decide +kernel, by decide, by decide⟩, rfl, zz_in 527 (by decide +kernel) rfl, zz_in 528 (by decide +kernel) rfl, zz_in 529 (by decide +kernel) rfl⟩
theorem ee_V_dryRoot_45 : zz_D mm_V_dryRoot 45 (.iload_n 2) 1 46 := ⟨by decide +kernel, rfl⟩
theorem ee_V_dryRoot_46 : zz_D mm_V_dryRoot 46 (.iconst 1) 1 47 := ⟨by decide +kernel, rfl⟩
theorem ee_V_dryRoot_47 : zz_D mm_V_dryRoot 47 .isub 1 48 := ⟨by decide +kernel, rfl⟩
theorem ee_V_dryRoot_48 : zz_D mm_V_dryRoot 48 .ireturn 1 49 := ⟨by decide +kernel, rfl⟩
theorem ee_V_carveAnew_0 : zz_D mm_V_carveAnew 0 (.aload_n 0) 1 1 := ⟨by decide +kernel, rfl⟩
theorem ee_V_carveAnew_1 : zz_D mm_V_carveAnew 1 (.getfield 12) 3 4 := ⟨by decide +kernel, rfl⟩
theorem ff_V_carveAnew_12 : zz_F mm_V_carveAnew 12 1 0 := ⟨by decide, zz_in 174 (by decide +kernel) rfl⟩
theorem ee_V_carveAnew_4 : zz_D mm_V_carveAnew 4 (.iload_n 1) 1 5 := ⟨by decide +kernel, rfl⟩
theorem ee_V_carveAnew_5 : zz_D mm_V_carveAnew 5 (.invokevirtual 119) 3 8 := ⟨by decide +kernel, rfl⟩
theorem kk_V_carveAnew_119 : zz_kV mm_V_carveAnew mm_S_find 119 1 := ⟨⟨zz_in 729 (by decide +kernel) rfl, zz_in 23 (by decide +kernel) rfl, by decide +kernel, by decide, by decide⟩, rfl, zz_in 872 (by decide +kernel) rfl, zz_in 727 (by decide +kernel) rfl, zz_in 728 (by decide +kernel) rfl⟩
theorem ee_V_carveAnew_8 : zz_D mm_V_carveAnew 8 (.astore_n 2) 1 9 := ⟨by decide +kernel, rfl⟩
theorem ee_V_carveAnew_9 : zz_D mm_V_carveAnew 9 (.aload_n 2) 1 10 := ⟨by decide +kernel, rfl⟩
theorem ee_V_carveAnew_10 : zz_D mm_V_carveAnew 10 (.ifnonnull 6) 3 13 := ⟨by decide +kernel, rfl⟩
theorem ee_V_carveAnew_13 : zz_D mm_V_carveAnew 13 (.bipush (-11)) 2 15 := ⟨by decide +kernel, rfl⟩
theorem ee_V_carveAnew_15 : zz_D mm_V_carveAnew 15 .ireturn 1 16 := ⟨by decide +kernel, rfl⟩
theorem ee_V_carveAnew_16 : zz_D mm_V_carveAnew 16 (.aload_n 0) 1 17 := ⟨by decide +kernel, rfl⟩
theorem ee_V_carveAnew_17 : zz_D mm_V_carveAnew 17 (.aload_n 2) 1 18 := ⟨by decide +kernel, rfl⟩
theorem ee_V_carveAnew_18 : zz_D mm_V_carveAnew 18 (.invokevirtual 141) 3 21 := ⟨by decide +kernel, rfl⟩
theorem kk_V_carveAnew_141 : zz_kV mm_V_carveAnew mm_V_unfoldIfReadable 141 1 := ⟨⟨zz_in 876 (by decide +kernel) rfl, zz_in 22 (by decide +kernel) rfl, by decide +kernel, by decide, by decide⟩, rfl, zz_in 873 (by decide +kernel) rfl, zz_in 875 (by decide +kernel) rfl, zz_in 14 (by decide +kernel) rfl⟩
theorem ee_V_carveAnew_21 : zz_D mm_V_carveAnew 21 (.istore_n 3) 1 22 := ⟨by decide +kernel, rfl⟩
theorem ee_V_carveAnew_22 : zz_D mm_V_carveAnew 22 (.iload_n 3) 1 23 := ⟨by decide +kernel, rfl⟩
theorem ee_V_carveAnew_23 : zz_D mm_V_carveAnew 23 (.ifCond .ge 5) 3 26 := ⟨by decide +kernel, rfl⟩
theorem ee_V_carveAnew_26 : zz_D mm_V_carveAnew 26 (.iload_n 3) 1 27 := ⟨by decide +kernel, rfl⟩
theorem ee_V_carveAnew_27 : zz_D mm_V_carveAnew 27 .ireturn 1 28 := ⟨by decide +kernel, rfl⟩
theorem ee_V_carveAnew_28 : zz_D mm_V_carveAnew 28 (.aload_n 0) 1 29 := ⟨by decide +kernel, rfl⟩
theorem ee_V_carveAnew_29 : zz_D mm_V_carveAnew 29 (.getfield 23) 3 32 := ⟨by decide +kernel, rfl⟩
theorem ff_V_carveAnew_23 : zz_F mm_V_carveAnew 23 1 1 := ⟨by decide, zz_in 176 (by decide +kernel) rfl⟩
theorem ee_V_carveAnew_32 : zz_D mm_V_carveAnew 32 (.aload_n 0) 1 33 := ⟨by decide +kernel, rfl⟩
theorem ee_V_carveAnew_33 : zz_D mm_V_carveAnew 33 (.getfield 27) 3 36 := ⟨by decide +kernel, rfl⟩
theorem ff_V_carveAnew_27 : zz_F mm_V_carveAnew 27 1 2 := ⟨by decide, zz_in 178 (by decide +kernel) rfl⟩
theorem ee_V_carveAnew_36 : zz_D mm_V_carveAnew 36 (.invokestatic 77) 3 39 := ⟨by decide +kernel, rfl⟩
theorem kk_V_carveAnew_77 : zz_kS mm_V_carveAnew mm_O_fold 77 2 := ⟨⟨zz_in 303 (by decide +kernel) rfl, zz_in 41 (by decide +kernel) rfl, by decide +kernel, by decide, by decide⟩, rfl, zz_in 653 (by decide +kernel) rfl, zz_in 302 (by decide +kernel) rfl⟩
theorem ee_V_carveAnew_39 : zz_D mm_V_carveAnew 39 (.aload_n 0) 1 40 := ⟨by decide +kernel, rfl⟩
theorem ee_V_carveAnew_40 : zz_D mm_V_carveAnew 40 (.getfield 27) 3 43 := ⟨by decide +kernel, rfl⟩
theorem ee_V_carveAnew_43 : zz_D mm_V_carveAnew 43 (.getfield 71) 3 46 := ⟨by decide +kernel, rfl⟩
theorem ff_V_carveAnew_71 : zz_F mm_V_carveAnew 71 7 1 := ⟨by decide, zz_in 75 (by decide +kernel) rfl⟩
theorem ee_V_carveAnew_46 : zz_D mm_V_carveAnew 46 (.invokestatic 83) 3 49 := ⟨by decide +kernel, rfl⟩
theorem kk_V_carveAnew_83 : zz_kS mm_V_carveAnew mm_G_pagesFor 83 1 := ⟨⟨zz_in 656 (by decide +kernel) rfl, zz_in 24 (by decide +kernel) rfl, by decide +kernel, by decide, by decide⟩, rfl, zz_in 654 (by decide +kernel) rfl, zz_in 655 (by decide +kernel) rfl⟩
theorem ee_V_carveAnew_49 : zz_D mm_V_carveAnew 49 (.istore 4) 2 51 := ⟨by decide +kernel, rfl⟩
theorem ee_V_carveAnew_51 : zz_D mm_V_carveAnew 51 (.aload_n 0) 1 52 := ⟨by decide +kernel, rfl⟩
theorem ee_V_carveAnew_52 : zz_D mm_V_carveAnew 52 (.getfield 12) 3 55 := ⟨by decide +kernel, rfl⟩
theorem ee_V_carveAnew_55 : zz_D mm_V_carveAnew 55 (.aload_n 2) 1 56 := ⟨by decide +kernel, rfl⟩
theorem ee_V_carveAnew_56 : zz_D mm_V_carveAnew 56 (.getfield 96) 3 59 := ⟨by decide +kernel, rfl⟩
theorem ff_V_carveAnew_96 : zz_F mm_V_carveAnew 96 6 4 := ⟨by decide, zz_in 118 (by decide +kernel) rfl⟩
theorem ee_V_carveAnew_59 : zz_D mm_V_carveAnew 59 (.iload 4) 2 61 := ⟨by decide +kernel, rfl⟩
theorem ee_V_carveAnew_61 : zz_D mm_V_carveAnew 61 (.aload_n 2) 1 62 := ⟨by decide +kernel, rfl⟩
theorem ee_V_carveAnew_62 : zz_D mm_V_carveAnew 62 (.getfield 145) 3 65 := ⟨by decide +kernel, rfl⟩
theorem ff_V_carveAnew_145 : zz_F mm_V_carveAnew 145 6 2 := ⟨by decide, zz_in 110 (by decide +kernel) rfl⟩
theorem ee_V_carveAnew_65 : zz_D mm_V_carveAnew 65 .isub 1 66 := ⟨by decide +kernel, rfl⟩
theorem ee_V_carveAnew_66 : zz_D mm_V_carveAnew 66 (.invokevirtual 88) 3 69 := ⟨by decide +kernel, rfl⟩
theorem kk_V_carveAnew_88 : zz_kV mm_V_carveAnew mm_S_hasRoomFor 88 2 := ⟨⟨zz_in 660 (by decide +kernel) rfl, zz_in 23 (by decide +kernel) rfl, by decide +kernel, by decide, by decide⟩, rfl, zz_in 657 (by decide +kernel) rfl, zz_in 658 (by decide +kernel) rfl, zz_in 659 (by decide +kernel) rfl⟩
theorem ee_V_carveAnew_69 : zz_D mm_V_carveAnew 69 (.ifCond .ne 11) 3 72 := ⟨by decide +kernel, rfl⟩
theorem ee_V_carveAnew_72 : zz_D mm_V_carveAnew 72 (.aload_n 0) 1 73 := ⟨by decide +kernel, rfl⟩
theorem ee_V_carveAnew_73 : zz_D mm_V_carveAnew 73 (.iconst 1) 1 74 := ⟨by decide +kernel, rfl⟩
theorem ee_V_carveAnew_74 : zz_D mm_V_carveAnew 74 (.bipush 8) 2 76 := ⟨by decide +kernel, rfl⟩
theorem ee_V_carveAnew_76 : zz_D mm_V_carveAnew 76 (.invokevirtual 57) 3 79 := ⟨by decide +kernel, rfl⟩
theorem kk_V_carveAnew_57 : zz_kV mm_V_carveAnew mm_V_denied 57 2 := ⟨⟨zz_in 526 (by decide +kernel) rfl, zz_in 22 (by decide +kernel) rfl, by decide +kernel, by decide, by decide⟩, rfl, zz_in 523 (by decide +kernel) rfl, zz_in 525 (by decide +kernel) rfl, zz_in 1 (by decide +kernel) rfl⟩
theorem ee_V_carveAnew_79 : zz_D mm_V_carveAnew 79 .ireturn 1 80 := ⟨by decide +kernel, rfl⟩
theorem ee_V_carveAnew_80 : zz_D mm_V_carveAnew 80 (.aload_n 2) 1 81 := ⟨by decide +kernel, rfl⟩
theorem ee_V_carveAnew_81 : zz_D mm_V_carveAnew 81 (.aload_n 0) 1 82 := ⟨by decide +kernel, rfl⟩
theorem ee_V_carveAnew_82 : zz_D mm_V_carveAnew 82 (.getfield 27) 3 85 := ⟨by decide +kernel, rfl⟩
theorem ee_V_carveAnew_85 : zz_D mm_V_carveAnew 85 (.invokevirtual 109) 3 88 := ⟨by decide +kernel, rfl⟩
theorem kk_V_carveAnew_109 : zz_kV mm_V_carveAnew mm_G_inscribe 109 1 := ⟨⟨zz_in 672 (by decide +kernel) rfl, zz_in 24 (by decide +kernel) rfl, by decide +kernel, by decide, by decide⟩, rfl, zz_in 669 (by decide +kernel) rfl, zz_in 670 (by decide +kernel) rfl, zz_in 671 (by decide +kernel) rfl⟩
theorem ee_V_carveAnew_88 : zz_D mm_V_carveAnew 88 (.iload 4) 2 90 := ⟨by decide +kernel, rfl⟩
theorem ee_V_carveAnew_90 : zz_D mm_V_carveAnew 90 .ireturn 1 91 := ⟨by decide +kernel, rfl⟩
theorem ee_V_unfoldIfReadable_0 : zz_D mm_V_unfoldIfReadable 0 (.aload_n 1) 1 1 := ⟨by decide +kernel, rfl⟩
theorem ee_V_unfoldIfReadable_1 : zz_D mm_V_unfoldIfReadable 1 (.invokevirtual 157) 3 4 := ⟨by decide +kernel, rfl⟩
theorem kk_V_unfoldIfReadable_157 : zz_kV mm_V_unfoldIfReadable mm_G_findRottenPage 157 0 := ⟨⟨zz_in 880 (by decide +kernel) rfl, zz_in 24 (by decide +kernel) rfl, by decide +kernel, by decide, by decide⟩, rfl, zz_in 877 (by decide +kernel) rfl, zz_in 878 (by decide +kernel) rfl, zz_in 879 (by decide +kernel) rfl⟩
theorem ee_V_unfoldIfReadable_4 : zz_D mm_V_unfoldIfReadable 4 (.istore_n 2) 1 5 := ⟨by decide +kernel, rfl⟩
theorem ee_V_unfoldIfReadable_5 : zz_D mm_V_unfoldIfReadable 5 (.iload_n 2) 1 6 := ⟨by decide +kernel, rfl⟩
theorem ee_V_unfoldIfReadable_6 : zz_D mm_V_unfoldIfReadable 6 (.iconst (-1)) 1 7 := ⟨by decide +kernel, rfl⟩
theorem ee_V_unfoldIfReadable_7 : zz_D mm_V_unfoldIfReadable 7 (.if_icmp .eq 10) 3 10 := ⟨by decide +kernel, rfl⟩
theorem ee_V_unfoldIfReadable_10 : zz_D mm_V_unfoldIfReadable 10 (.aload_n 0) 1 11 := ⟨by decide +kernel, rfl⟩
theorem ee_V_unfoldIfReadable_11 : zz_D mm_V_unfoldIfReadable 11 (.iconst 3) 1 12 := ⟨by decide +kernel, rfl⟩
theorem ee_V_unfoldIfReadable_12 : zz_D mm_V_unfoldIfReadable 12 (.iload_n 2) 1 13 := ⟨by decide +kernel, rfl⟩
theorem ee_V_unfoldIfReadable_13 : zz_D mm_V_unfoldIfReadable 13 (.invokevirtual 57) 3 16 := ⟨by decide +kernel, rfl⟩
theorem kk_V_unfoldIfReadable_57 : zz_kV mm_V_unfoldIfReadable mm_V_denied 57 2 := ⟨⟨zz_in 526 (by decide +kernel) rfl, zz_in 22 (by decide +kernel) rfl, by decide +kernel, by decide, by decide⟩, rfl, zz_in 523 (by decide +kernel) rfl, zz_in 525 (by decide +kernel) rfl, zz_in 1 (by decide +kernel) rfl⟩
theorem ee_V_unfoldIfReadable_16 : zz_D mm_V_unfoldIfReadable 16 .ireturn 1 17 := ⟨by decide +kernel, rfl⟩
theorem ee_V_unfoldIfReadable_17 : zz_D mm_V_unfoldIfReadable 17 (.aload_n 1) 1 18 := ⟨by decide +kernel, rfl⟩
theorem ee_V_unfoldIfReadable_18 : zz_D mm_V_unfoldIfReadable 18 (.getfield 123) 3 21 := ⟨by decide +kernel, rfl⟩
theorem ff_V_unfoldIfReadable_123 : zz_F mm_V_unfoldIfReadable 123 6 0 := ⟨by decide, zz_in 105 (by decide +kernel) rfl⟩
theorem ee_V_unfoldIfReadable_21 : zz_D mm_V_unfoldIfReadable 21 (.invokestatic 161) 3 24 := ⟨by decide +kernel, rfl⟩
theorem kk_V_unfoldIfReadable_161 : zz_kS mm_V_unfoldIfReadable mm_O_faultIn 161 1 := ⟨⟨zz_in 883 (by decide +kernel) rfl, zz_in 41 (by decide +kernel) rfl, by decide +kernel, by decide, by decide⟩, rfl, zz_in 881 (by decide +kernel) rfl, zz_in 882 (by decide +kernel) rfl⟩
theorem ee_V_unfoldIfReadable_24 : zz_D mm_V_unfoldIfReadable 24 (.istore_n 3) 1 25 := ⟨by decide +kernel, rfl⟩
theorem ee_V_unfoldIfReadable_25 : zz_D mm_V_unfoldIfReadable 25 (.iload_n 3) 1 26 := ⟨by decide +kernel, rfl⟩
theorem ee_V_unfoldIfReadable_26 : zz_D mm_V_unfoldIfReadable 26 (.iconst (-1)) 1 27 := ⟨by decide +kernel, rfl⟩
theorem ee_V_unfoldIfReadable_27 : zz_D mm_V_unfoldIfReadable 27 (.if_icmp .eq 10) 3 30 := ⟨by decide +kernel, rfl⟩
theorem ee_V_unfoldIfReadable_30 : zz_D mm_V_unfoldIfReadable 30 (.aload_n 0) 1 31 := ⟨by decide +kernel, rfl⟩
theorem ee_V_unfoldIfReadable_31 : zz_D mm_V_unfoldIfReadable 31 (.iconst 5) 1 32 := ⟨by decide +kernel, rfl⟩
theorem ee_V_unfoldIfReadable_32 : zz_D mm_V_unfoldIfReadable 32 (.iload_n 3) 1 33 := ⟨by decide +kernel, rfl⟩
theorem ee_V_unfoldIfReadable_33 : zz_D mm_V_unfoldIfReadable 33 (.invokevirtual 57) 3 36 := ⟨by decide +kernel, rfl⟩
theorem ee_V_unfoldIfReadable_36 : zz_D mm_V_unfoldIfReadable 36 .ireturn 1 37 := ⟨by decide +kernel, rfl⟩
theorem ee_V_unfoldIfReadable_37 : zz_D mm_V_unfoldIfReadable 37 (.aload_n 1) 1 38 := ⟨by decide +kernel, rfl⟩
theorem ee_V_unfoldIfReadable_38 : zz_D mm_V_unfoldIfReadable 38 (.getfield 123) 3 41 := ⟨by decide +kernel, rfl⟩
theorem ee_V_unfoldIfReadable_41 : zz_D mm_V_unfoldIfReadable 41 (.aload_n 0) 1 42 := ⟨by decide +kernel, rfl⟩
theorem ee_V_unfoldIfReadable_42 : zz_D mm_V_unfoldIfReadable 42 (.getfield 23) 3 45 := ⟨by decide +kernel, rfl⟩
theorem ff_V_unfoldIfReadable_23 : zz_F mm_V_unfoldIfReadable 23 1 1 := ⟨by decide, zz_in 176 (by decide +kernel) rfl⟩
theorem ee_V_unfoldIfReadable_45 : zz_D mm_V_unfoldIfReadable 45 (.invokestatic 164) 3 48 := ⟨by decide +kernel, rfl⟩
theorem kk_V_unfoldIfReadable_164 : zz_kS mm_V_unfoldIfReadable mm_O_unfold 164 2 := ⟨⟨zz_in 886 (by decide +kernel) rfl, zz_in 41 (by decide +kernel) rfl, by decide +kernel, by decide, by decide⟩, rfl, zz_in 884 (by decide +kernel) rfl, zz_in 885 (by decide +kernel) rfl⟩
theorem ee_V_unfoldIfReadable_48 : zz_D mm_V_unfoldIfReadable 48 (.aload_n 0) 1 49 := ⟨by decide +kernel, rfl⟩
theorem ee_V_unfoldIfReadable_49 : zz_D mm_V_unfoldIfReadable 49 (.getfield 23) 3 52 := ⟨by decide +kernel, rfl⟩
theorem ee_V_unfoldIfReadable_52 : zz_D mm_V_unfoldIfReadable 52 (.invokestatic 102) 3 55 := ⟨by decide +kernel, rfl⟩
theorem kk_V_unfoldIfReadable_102 : zz_kS mm_V_unfoldIfReadable mm_O_sumOf 102 1 := ⟨⟨zz_in 668 (by decide +kernel) rfl, zz_in 41 (by decide +kernel) rfl, by decide +kernel, by decide, by decide⟩, rfl, zz_in 666 (by decide +kernel) rfl, zz_in 667 (by decide +kernel) rfl⟩
theorem ee_V_unfoldIfReadable_55 : zz_D mm_V_unfoldIfReadable 55 (.istore 4) 2 57 := ⟨by decide +kernel, rfl⟩
theorem ee_V_unfoldIfReadable_57 : zz_D mm_V_unfoldIfReadable 57 (.iload 4) 2 59 := ⟨by decide +kernel, rfl⟩
theorem ee_V_unfoldIfReadable_59 : zz_D mm_V_unfoldIfReadable 59 (.aload_n 1) 1 60 := ⟨by decide +kernel, rfl⟩
theorem ee_V_unfoldIfReadable_60 : zz_D mm_V_unfoldIfReadable 60 (.getfield 106) 3 63 := ⟨by decide +kernel, rfl⟩
theorem ff_V_unfoldIfReadable_106 : zz_F mm_V_unfoldIfReadable 106 6 6 := ⟨by decide, zz_in 124 (by decide +kernel) rfl⟩
theorem ee_V_unfoldIfReadable_63 : zz_D mm_V_unfoldIfReadable 63 (.if_icmp .ne 7) 3 66 := ⟨by decide +kernel, rfl⟩
theorem ee_V_unfoldIfReadable_66 : zz_D mm_V_unfoldIfReadable 66 (.iconst 0) 1 67 := ⟨by decide +kernel, rfl⟩
theorem ee_V_unfoldIfReadable_67 : zz_D mm_V_unfoldIfReadable 67 (.goto 11) 3 70 := ⟨by decide +kernel, rfl⟩
theorem ee_V_unfoldIfReadable_70 : zz_D mm_V_unfoldIfReadable 70 (.aload_n 0) 1 71 := ⟨by decide +kernel, rfl⟩
theorem ee_V_unfoldIfReadable_71 : zz_D mm_V_unfoldIfReadable 71 (.bipush 6) 2 73 := ⟨by decide +kernel, rfl⟩
theorem ee_V_unfoldIfReadable_73 : zz_D mm_V_unfoldIfReadable 73 (.iload 4) 2 75 := ⟨by decide +kernel, rfl⟩
theorem ee_V_unfoldIfReadable_75 : zz_D mm_V_unfoldIfReadable 75 (.invokevirtual 57) 3 78 := ⟨by decide +kernel, rfl⟩
theorem ee_V_unfoldIfReadable_78 : zz_D mm_V_unfoldIfReadable 78 .ireturn 1 79 := ⟨by decide +kernel, rfl⟩
theorem ee_V_moveTelegram_0 : zz_D mm_V_moveTelegram 0 (.aload_n 0) 1 1 := ⟨by decide +kernel, rfl⟩
theorem ee_V_moveTelegram_1 : zz_D mm_V_moveTelegram 1 (.getfield 12) 3 4 := ⟨by decide +kernel, rfl⟩
theorem ff_V_moveTelegram_12 : zz_F mm_V_moveTelegram 12 1 0 := ⟨by decide, zz_in 174 (by decide +kernel) rfl⟩
theorem ee_V_moveTelegram_4 : zz_D mm_V_moveTelegram 4 (.iload_n 1) 1 5 := ⟨by decide +kernel, rfl⟩
theorem ee_V_moveTelegram_5 : zz_D mm_V_moveTelegram 5 (.invokevirtual 119) 3 8 := ⟨by decide +kernel, rfl⟩
theorem kk_V_moveTelegram_119 : zz_kV mm_V_moveTelegram mm_S_find 119 1 := ⟨⟨zz_in 729 (by decide +kernel) rfl, zz_in 23 (by decide +kernel) rfl, by decide +kernel, by decide, by decide⟩, rfl, zz_in 872 (by decide +kernel) rfl, zz_in 727 (by decide +kernel) rfl, zz_in 728 (by decide +kernel) rfl⟩
theorem ee_V_moveTelegram_8 : zz_D mm_V_moveTelegram 8 (.astore_n 3) 1 9 := ⟨by decide +kernel, rfl⟩
theorem ee_V_moveTelegram_9 : zz_D mm_V_moveTelegram 9 (.aload_n 3) 1 10 := ⟨by decide +kernel, rfl⟩
theorem ee_V_moveTelegram_10 : zz_D mm_V_moveTelegram 10 (.ifnonnull 6) 3 13 := ⟨by decide +kernel, rfl⟩
theorem ee_V_moveTelegram_13 : zz_D mm_V_moveTelegram 13 (.bipush (-11)) 2 15 := ⟨by decide +kernel, rfl⟩
theorem ee_V_moveTelegram_15 : zz_D mm_V_moveTelegram 15 .ireturn 1 16 := ⟨by decide +kernel, rfl⟩
theorem ee_V_moveTelegram_16 : zz_D mm_V_moveTelegram 16 (.aload_n 0) 1 17 := ⟨by decide +kernel, rfl⟩
theorem ee_V_moveTelegram_17 : zz_D mm_V_moveTelegram 17 (.getfield 12) 3 20 := ⟨by decide +kernel, rfl⟩
theorem ee_V_moveTelegram_20 : zz_D mm_V_moveTelegram 20 (.iload_n 2) 1 21 := ⟨by decide +kernel, rfl⟩
theorem ee_V_moveTelegram_21 : zz_D mm_V_moveTelegram 21 (.invokevirtual 64) 3 24 := ⟨by decide +kernel, rfl⟩
theorem kk_V_moveTelegram_64 : zz_kV mm_V_moveTelegram mm_S_hasRoot 64 1 := ⟨⟨zz_in 380 (by decide +kernel) rfl, zz_in 23 (by decide +kernel) rfl, by decide +kernel, by decide, by decide⟩, rfl, zz_in 652 (by decide +kernel) rfl, zz_in 378 (by decide +kernel) rfl, zz_in 379 (by decide +kernel) rfl⟩
theorem ee_V_moveTelegram_24 : zz_D mm_V_moveTelegram 24 (.ifCond .ne 6) 3 27 := ⟨by decide +kernel, rfl⟩
theorem ee_V_moveTelegram_27 : zz_D mm_V_moveTelegram 27 (.bipush (-12)) 2 29 := ⟨by decide +kernel, rfl⟩
theorem ee_V_moveTelegram_29 : zz_D mm_V_moveTelegram 29 .ireturn 1 30 := ⟨by decide +kernel, rfl⟩
theorem ee_V_moveTelegram_30 : zz_D mm_V_moveTelegram 30 (.aload_n 3) 1 31 := ⟨by decide +kernel, rfl⟩
theorem ee_V_moveTelegram_31 : zz_D mm_V_moveTelegram 31 (.getfield 96) 3 34 := ⟨by decide +kernel, rfl⟩
theorem ff_V_moveTelegram_96 : zz_F mm_V_moveTelegram 96 6 4 := ⟨by decide, zz_in 118 (by decide +kernel) rfl⟩
theorem ee_V_moveTelegram_34 : zz_D mm_V_moveTelegram 34 (.istore 4) 2 36 := ⟨by decide +kernel, rfl⟩
theorem ee_V_moveTelegram_36 : zz_D mm_V_moveTelegram 36 (.iload 4) 2 38 := ⟨by decide +kernel, rfl⟩
theorem ee_V_moveTelegram_38 : zz_D mm_V_moveTelegram 38 (.iload_n 2) 1 39 := ⟨by decide +kernel, rfl⟩
theorem ee_V_moveTelegram_39 : zz_D mm_V_moveTelegram 39 (.if_icmp .ne 10) 3 42 := ⟨by decide +kernel, rfl⟩
theorem ee_V_moveTelegram_42 : zz_D mm_V_moveTelegram 42 (.aload_n 0) 1 43 := ⟨by decide +kernel, rfl⟩
theorem ee_V_moveTelegram_43 : zz_D mm_V_moveTelegram 43 (.iconst 4) 1 44 := ⟨by decide +kernel, rfl⟩
theorem ee_V_moveTelegram_44 : zz_D mm_V_moveTelegram 44 (.iload_n 2) 1 45 := ⟨by decide +kernel, rfl⟩
theorem ee_V_moveTelegram_45 : zz_D mm_V_moveTelegram 45 (.invokevirtual 57) 3 48 := ⟨by decide +kernel, rfl⟩
theorem kk_V_moveTelegram_57 : zz_kV mm_V_moveTelegram mm_V_denied 57 2 := ⟨⟨zz_in 526 (by decide +kernel) rfl, zz_in 22 (by decide +kernel) rfl, by decide +kernel, by decide, by decide⟩, rfl, zz_in 523 (by decide +kernel) rfl, zz_in 525 (by decide +kernel) rfl, zz_in 1 (by decide +kernel) rfl⟩
theorem ee_V_moveTelegram_48 : zz_D mm_V_moveTelegram 48 .ireturn 1 49 := ⟨by decide +kernel, rfl⟩
theorem ee_V_moveTelegram_49 : zz_D mm_V_moveTelegram 49 (.aload_n 0) 1 50 := ⟨by decide +kernel, rfl⟩
theorem ee_V_moveTelegram_50 : zz_D mm_V_moveTelegram 50 (.getfield 12) 3 53 := ⟨by decide +kernel, rfl⟩
theorem ee_V_moveTelegram_53 : zz_D mm_V_moveTelegram 53 (.iload_n 2) 1 54 := ⟨by decide +kernel, rfl⟩
theorem ee_V_moveTelegram_54 : zz_D mm_V_moveTelegram 54 (.aload_n 3) 1 55 := ⟨by decide +kernel, rfl⟩
theorem ee_V_moveTelegram_55 : zz_D mm_V_moveTelegram 55 (.getfield 145) 3 58 := ⟨by decide +kernel, rfl⟩
theorem ff_V_moveTelegram_145 : zz_F mm_V_moveTelegram 145 6 2 := ⟨by decide, zz_in 110 (by decide +kernel) rfl⟩
theorem ee_V_moveTelegram_58 : zz_D mm_V_moveTelegram 58 (.invokevirtual 88) 3 61 := ⟨by decide +kernel, rfl⟩
theorem kk_V_moveTelegram_88 : zz_kV mm_V_moveTelegram mm_S_hasRoomFor 88 2 := ⟨⟨zz_in 660 (by decide +kernel) rfl, zz_in 23 (by decide +kernel) rfl, by decide +kernel, by decide, by decide⟩, rfl, zz_in 657 (by decide +kernel) rfl, zz_in 658 (by decide +kernel) rfl, zz_in 659 (by decide +kernel) rfl⟩
theorem ee_V_moveTelegram_61 : zz_D mm_V_moveTelegram 61 (.ifCond .ne 11) 3 64 := ⟨by decide +kernel, rfl⟩
theorem ee_V_moveTelegram_64 : zz_D mm_V_moveTelegram 64 (.aload_n 0) 1 65 := ⟨by decide +kernel, rfl⟩
theorem ee_V_moveTelegram_65 : zz_D mm_V_moveTelegram 65 (.iconst 1) 1 66 := ⟨by decide +kernel, rfl⟩
theorem ee_V_moveTelegram_66 : zz_D mm_V_moveTelegram 66 (.bipush 8) 2 68 := ⟨by decide +kernel, rfl⟩
theorem ee_V_moveTelegram_68 : zz_D mm_V_moveTelegram 68 (.invokevirtual 57) 3 71 := ⟨by decide +kernel, rfl⟩
theorem ee_V_moveTelegram_71 : zz_D mm_V_moveTelegram 71 .ireturn 1 72 := ⟨by decide +kernel, rfl⟩
theorem ee_V_moveTelegram_72 : zz_D mm_V_moveTelegram 72 (.aload_n 3) 1 73 := ⟨by decide +kernel, rfl⟩
theorem ee_V_moveTelegram_73 : zz_D mm_V_moveTelegram 73 (.iload_n 2) 1 74 := ⟨by decide +kernel, rfl⟩
theorem ee_V_moveTelegram_74 : zz_D mm_V_moveTelegram 74 (.putfield 96) 3 77 := ⟨by decide +kernel, rfl⟩
theorem ee_V_moveTelegram_77 : zz_D mm_V_moveTelegram 77 (.iload 4) 2 79 := ⟨by decide +kernel, rfl⟩
theorem ee_V_moveTelegram_79 : zz_D mm_V_moveTelegram 79 .ireturn 1 80 := ⟨by decide +kernel, rfl⟩
theorem ee_V_readTelegram_0 : zz_D mm_V_readTelegram 0 (.aload_n 0) 1 1 := ⟨by decide +kernel, rfl⟩
theorem ee_V_readTelegram_1 : zz_D mm_V_readTelegram 1 (.getfield 12) 3 4 := ⟨by decide +kernel, rfl⟩
theorem ff_V_readTelegram_12 : zz_F mm_V_readTelegram 12 1 0 := ⟨by decide, zz_in 174 (by decide +kernel) rfl⟩
theorem ee_V_readTelegram_4 : zz_D mm_V_readTelegram 4 (.iload_n 1) 1 5 := ⟨by decide +kernel, rfl⟩
theorem ee_V_readTelegram_5 : zz_D mm_V_readTelegram 5 (.invokevirtual 119) 3 8 := ⟨by decide +kernel, rfl⟩
theorem kk_V_readTelegram_119 : zz_kV mm_V_readTelegram mm_S_find 119 1 := ⟨⟨zz_in 729 (by decide +kernel) rfl, zz_in 23 (by decide +kernel) rfl, by decide +kernel, by decide, by decide⟩, rfl, zz_in 872 (by decide +kernel) rfl, zz_in 727 (by decide +kernel) rfl, zz_in 728 (by decide +kernel) rfl⟩
theorem ee_V_readTelegram_8 : zz_D mm_V_readTelegram 8 (.astore_n 2) 1 9 := ⟨by decide +kernel, rfl⟩
theorem ee_V_readTelegram_9 : zz_D mm_V_readTelegram 9 (.aload_n 2) 1 10 := ⟨by decide +kernel, rfl⟩
theorem ee_V_readTelegram_10 : zz_D mm_V_readTelegram 10 (.ifnonnull 8) 3 13 := ⟨by decide +kernel, rfl⟩
theorem ee_V_readTelegram_13 : zz_D mm_V_readTelegram 13 (.bipush (-11)) 2 15 := ⟨by decide +kernel, rfl⟩
theorem ee_V_readTelegram_15 : zz_D mm_V_readTelegram 15 (.goto 8) 3 18 := ⟨by decide +kernel, rfl⟩
theorem ee_V_readTelegram_18 : zz_D mm_V_readTelegram 18 (.aload_n 0) 1 19 := ⟨by decide +kernel, rfl⟩
theorem ee_V_readTelegram_19 : zz_D mm_V_readTelegram 19 (.aload_n 2) 1 20 := ⟨by decide +kernel, rfl⟩
theorem ee_V_readTelegram_20 : zz_D mm_V_readTelegram 20 (.invokevirtual 141) 3 23 := ⟨by decide +kernel, rfl⟩
theorem kk_V_readTelegram_141 : zz_kV mm_V_readTelegram mm_V_unfoldIfReadable 141 1 := ⟨⟨zz_in 876 (by decide +kernel) rfl, zz_in 22 (by decide +kernel) rfl, by decide +kernel, by decide, by decide⟩, rfl, zz_in 873 (by decide +kernel) rfl, zz_in 875 (by decide +kernel) rfl, zz_in 14 (by decide +kernel) rfl⟩
theorem ee_V_readTelegram_23 : zz_D mm_V_readTelegram 23 .ireturn 1 24 := ⟨by decide +kernel, rfl⟩
theorem ee_V_damageCode_0 : zz_D mm_V_damageCode 0 (.aload_n 0) 1 1 := ⟨by decide +kernel, rfl⟩
theorem ee_V_damageCode_1 : zz_D mm_V_damageCode 1 (.getfield 12) 3 4 := ⟨by decide +kernel, rfl⟩
theorem ff_V_damageCode_12 : zz_F mm_V_damageCode 12 1 0 := ⟨by decide, zz_in 174 (by decide +kernel) rfl⟩
theorem ee_V_damageCode_4 : zz_D mm_V_damageCode 4 (.iload_n 1) 1 5 := ⟨by decide +kernel, rfl⟩
theorem ee_V_damageCode_5 : zz_D mm_V_damageCode 5 (.invokevirtual 119) 3 8 := ⟨by decide +kernel, rfl⟩
theorem kk_V_damageCode_119 : zz_kV mm_V_damageCode mm_S_find 119 1 := ⟨⟨zz_in 729 (by decide +kernel) rfl, zz_in 23 (by decide +kernel) rfl, by decide +kernel, by decide, by decide⟩, rfl, zz_in 872 (by decide +kernel) rfl, zz_in 727 (by decide +kernel) rfl, zz_in 728 (by decide +kernel) rfl⟩
theorem ee_V_damageCode_8 : zz_D mm_V_damageCode 8 (.astore 4) 2 10 := ⟨by decide +kernel, rfl⟩
theorem ee_V_damageCode_10 : zz_D mm_V_damageCode 10 (.aload 4) 2 12 := ⟨by decide +kernel, rfl⟩
theorem ee_V_damageCode_12 : zz_D mm_V_damageCode 12 (.ifnonnull 6) 3 15 := ⟨by decide +kernel, rfl⟩
theorem ee_V_damageCode_15 : zz_D mm_V_damageCode 15 (.bipush (-11)) 2 17 := ⟨by decide +kernel, rfl⟩
theorem ee_V_damageCode_17 : zz_D mm_V_damageCode 17 .ireturn 1 18 := ⟨by decide +kernel, rfl⟩
theorem ee_V_damageCode_18 : zz_D mm_V_damageCode 18 (.aload 4) 2 20 := ⟨by decide +kernel, rfl⟩
theorem ee_V_damageCode_20 : zz_D mm_V_damageCode 20 (.getfield 123) 3 23 := ⟨by decide +kernel, rfl⟩
theorem ff_V_damageCode_123 : zz_F mm_V_damageCode 123 6 0 := ⟨by decide, zz_in 105 (by decide +kernel) rfl⟩
theorem ee_V_damageCode_23 : zz_D mm_V_damageCode 23 (.iload_n 2) 1 24 := ⟨by decide +kernel, rfl⟩
theorem ee_V_damageCode_24 : zz_D mm_V_damageCode 24 (.invokevirtual 126) 3 27 := ⟨by decide +kernel, rfl⟩
theorem kk_V_damageCode_126 : zz_kV mm_V_damageCode mm_T_has 126 1 := ⟨⟨zz_in 315 (by decide +kernel) rfl, zz_in 20 (by decide +kernel) rfl, by decide +kernel, by decide, by decide⟩, rfl, zz_in 1458 (by decide +kernel) rfl, zz_in 313 (by decide +kernel) rfl, zz_in 314 (by decide +kernel) rfl⟩
theorem ee_V_damageCode_27 : zz_D mm_V_damageCode 27 (.ifCond .ne 6) 3 30 := ⟨by decide +kernel, rfl⟩
theorem ee_V_damageCode_30 : zz_D mm_V_damageCode 30 (.bipush (-12)) 2 32 := ⟨by decide +kernel, rfl⟩
theorem ee_V_damageCode_32 : zz_D mm_V_damageCode 32 .ireturn 1 33 := ⟨by decide +kernel, rfl⟩
theorem ee_V_damageCode_33 : zz_D mm_V_damageCode 33 (.iload_n 3) 1 34 := ⟨by decide +kernel, rfl⟩
theorem ee_V_damageCode_34 : zz_D mm_V_damageCode 34 (.invokestatic 129) 3 37 := ⟨by decide +kernel, rfl⟩
theorem kk_V_damageCode_129 : zz_kSN mm_V_damageCode mm_P_isTypeable 129 1 := ⟨⟨zz_in 413 (by decide +kernel) rfl, zz_in 19 (by decide +kernel) rfl, by decide +kernel, by decide, by decide⟩, rfl, ⟨"TurnipPages", zz_inN 1459 (by decide +kernel) (by decide +kernel)⟩, zz_in 412 (by decide +kernel) rfl⟩
theorem ee_V_damageCode_37 : zz_D mm_V_damageCode 37 (.ifCond .ne 6) 3 40 := ⟨by decide +kernel, rfl⟩
theorem ee_V_damageCode_40 : zz_D mm_V_damageCode 40 (.bipush (-13)) 2 42 := ⟨by decide +kernel, rfl⟩
theorem ee_V_damageCode_42 : zz_D mm_V_damageCode 42 .ireturn 1 43 := ⟨by decide +kernel, rfl⟩
theorem ee_V_damageCode_43 : zz_D mm_V_damageCode 43 (.aload 4) 2 45 := ⟨by decide +kernel, rfl⟩
theorem ee_V_damageCode_45 : zz_D mm_V_damageCode 45 (.getfield 123) 3 48 := ⟨by decide +kernel, rfl⟩
theorem ee_V_damageCode_48 : zz_D mm_V_damageCode 48 (.iload_n 2) 1 49 := ⟨by decide +kernel, rfl⟩
theorem ee_V_damageCode_49 : zz_D mm_V_damageCode 49 (.invokevirtual 133) 3 52 := ⟨by decide +kernel, rfl⟩
theorem kk_V_damageCode_133 : zz_kV mm_V_damageCode mm_T_at 133 1 := ⟨⟨zz_in 311 (by decide +kernel) rfl, zz_in 20 (by decide +kernel) rfl, by decide +kernel, by decide, by decide⟩, rfl, zz_in 1460 (by decide +kernel) rfl, zz_in 309 (by decide +kernel) rfl, zz_in 310 (by decide +kernel) rfl⟩
theorem ee_V_damageCode_52 : zz_D mm_V_damageCode 52 (.istore 5) 2 54 := ⟨by decide +kernel, rfl⟩
theorem ee_V_damageCode_54 : zz_D mm_V_damageCode 54 (.iload 5) 2 56 := ⟨by decide +kernel, rfl⟩
theorem ee_V_damageCode_56 : zz_D mm_V_damageCode 56 (.iload_n 3) 1 57 := ⟨by decide +kernel, rfl⟩
theorem ee_V_damageCode_57 : zz_D mm_V_damageCode 57 (.if_icmp .ne 10) 3 60 := ⟨by decide +kernel, rfl⟩
theorem ee_V_damageCode_60 : zz_D mm_V_damageCode 60 (.aload_n 0) 1 61 := ⟨by decide +kernel, rfl⟩
theorem ee_V_damageCode_61 : zz_D mm_V_damageCode 61 (.iconst 4) 1 62 := ⟨by decide +kernel, rfl⟩
theorem ee_V_damageCode_62 : zz_D mm_V_damageCode 62 (.iload_n 3) 1 63 := ⟨by decide +kernel, rfl⟩
theorem ee_V_damageCode_63 : zz_D mm_V_damageCode 63 (.invokevirtual 57) 3 66 := ⟨by decide +kernel, rfl⟩
theorem kk_V_damageCode_57 : zz_kV mm_V_damageCode mm_V_denied 57 2 := ⟨⟨zz_in 526 (by decide +kernel) rfl, zz_in 22 (by decide +kernel) rfl, by decide +kernel, by decide, by decide⟩, rfl, zz_in 523 (by decide +kernel) rfl, zz_in 525 (by decide +kernel) rfl, zz_in 1 (by decide +kernel) rfl⟩
theorem ee_V_damageCode_66 : zz_D mm_V_damageCode 66 .ireturn 1 67 := ⟨by decide +kernel, rfl⟩
theorem ee_V_damageCode_67 : zz_D mm_V_damageCode 67 (.aload 4) 2 69 := ⟨by decide +kernel, rfl⟩
theorem ee_V_damageCode_69 : zz_D mm_V_damageCode 69 (.getfield 123) 3 72 := ⟨by decide +kernel, rfl⟩
theorem ee_V_damageCode_72 : zz_D mm_V_damageCode 72 (.iload_n 2) 1 73 := ⟨by decide +kernel, rfl⟩
theorem ee_V_damageCode_73 : zz_D mm_V_damageCode 73 (.iload_n 3) 1 74 := ⟨by decide +kernel, rfl⟩
theorem ee_V_damageCode_74 : zz_D mm_V_damageCode 74 (.invokevirtual 137) 3 77 := ⟨by decide +kernel, rfl⟩
theorem kk_V_damageCode_137 : zz_kV mm_V_damageCode mm_T_put 137 2 := ⟨⟨zz_in 1464 (by decide +kernel) rfl, zz_in 20 (by decide +kernel) rfl, by decide +kernel, by decide, by decide⟩, rfl, zz_in 1461 (by decide +kernel) rfl, zz_in 1462 (by decide +kernel) rfl, zz_in 1463 (by decide +kernel) rfl⟩
theorem ee_V_damageCode_77 : zz_D mm_V_damageCode 77 (.iload 5) 2 79 := ⟨by decide +kernel, rfl⟩
theorem ee_V_damageCode_79 : zz_D mm_V_damageCode 79 .ireturn 1 80 := ⟨by decide +kernel, rfl⟩
end
section
theorem ee_P_init_0 : zz_D mm_P_init 0 (.aload_n 0) 1 1 := ⟨by decide +kernel, rfl⟩
theorem ee_P_init_1 : zz_D mm_P_init 1 (.invokespecial 3) 3 4 := ⟨by decide +kernel, rfl⟩
theorem oo_P_init_3 : Cond.methodLink (zz_y mm_P_init).cls 3 Lib.objectInit ∈ zz_gw := zz_in 57 (by decide +kernel) rfl
theorem ee_P_init_4 : zz_D mm_P_init 4 (.aload_n 0) 1 5 := ⟨by decide +kernel, rfl⟩
theorem ee_P_init_5 : zz_D mm_P_init 5 (.new 9) 3 8 := ⟨by decide +kernel, rfl⟩
theorem nn_P_init_9 : zz_Nw2 mm_P_init 9 7 2 := ⟨zz_in 60 (by decide +kernel) rfl, zz_in 61 (by decide +kernel) rfl, zz_in 20 (by decide +kernel) rfl, by decide⟩
theorem ee_P_init_8 : zz_D mm_P_init 8 .dup 1 9 := ⟨by decide +kernel, rfl⟩
theorem ee_P_init_9 : zz_D mm_P_init 9 (.bipush 40) 2 11 := ⟨by decide +kernel, rfl⟩
theorem ee_P_init_11 : zz_D mm_P_init 11 (.invokespecial 11) 3 14 := ⟨by decide +kernel, rfl⟩
theorem kk_P_init_11 : zz_kI mm_P_init mm_T_init 11 1 := ⟨⟨zz_in 64 (by decide +kernel) rfl, zz_in 20 (by decide +kernel) rfl, by decide +kernel, by decide, by decide⟩, rfl, rfl, rfl, zz_in 62 (by decide +kernel) rfl, zz_in 63 (by decide +kernel) rfl⟩
theorem ee_P_init_14 : zz_D mm_P_init 14 (.putfield 14) 3 17 := ⟨by decide +kernel, rfl⟩
theorem ff_P_init_14 : zz_F mm_P_init 14 0 0 := ⟨by decide, zz_in 255 (by decide +kernel) rfl⟩
theorem ee_P_init_17 : zz_D mm_P_init 17 (.aload_n 0) 1 18 := ⟨by decide +kernel, rfl⟩
theorem ee_P_init_18 : zz_D mm_P_init 18 (.new 9) 3 21 := ⟨by decide +kernel, rfl⟩
theorem ee_P_init_21 : zz_D mm_P_init 21 .dup 1 22 := ⟨by decide +kernel, rfl⟩
theorem ee_P_init_22 : zz_D mm_P_init 22 (.bipush 60) 2 24 := ⟨by decide +kernel, rfl⟩
theorem ee_P_init_24 : zz_D mm_P_init 24 (.invokespecial 11) 3 27 := ⟨by decide +kernel, rfl⟩
theorem ee_P_init_27 : zz_D mm_P_init 27 (.putfield 18) 3 30 := ⟨by decide +kernel, rfl⟩
theorem ff_P_init_18 : zz_F mm_P_init 18 0 1 := ⟨by decide, zz_in 256 (by decide +kernel) rfl⟩
theorem ee_P_init_30 : zz_D mm_P_init 30 (.aload_n 0) 1 31 := ⟨by decide +kernel, rfl⟩
theorem ee_P_init_31 : zz_D mm_P_init 31 (.new 9) 3 34 := ⟨by decide +kernel, rfl⟩
theorem ee_P_init_34 : zz_D mm_P_init 34 .dup 1 35 := ⟨by decide +kernel, rfl⟩
theorem ee_P_init_35 : zz_D mm_P_init 35 (.sipush 432) 3 38 := ⟨by decide +kernel, rfl⟩
theorem ee_P_init_38 : zz_D mm_P_init 38 (.invokespecial 11) 3 41 := ⟨by decide +kernel, rfl⟩
theorem ee_P_init_41 : zz_D mm_P_init 41 (.putfield 21) 3 44 := ⟨by decide +kernel, rfl⟩
theorem ff_P_init_21 : zz_F mm_P_init 21 0 2 := ⟨by decide, zz_in 257 (by decide +kernel) rfl⟩
theorem ee_P_init_44 : zz_D mm_P_init 44 (.aload_n 0) 1 45 := ⟨by decide +kernel, rfl⟩
theorem ee_P_init_45 : zz_D mm_P_init 45 (.new 24) 3 48 := ⟨by decide +kernel, rfl⟩
theorem nn_P_init_24 : zz_Nw2 mm_P_init 24 1 4 := ⟨zz_in 83 (by decide +kernel) rfl, zz_in 84 (by decide +kernel) rfl, zz_in 22 (by decide +kernel) rfl, by decide⟩
theorem ee_P_init_48 : zz_D mm_P_init 48 .dup 1 49 := ⟨by decide +kernel, rfl⟩
theorem ee_P_init_49 : zz_D mm_P_init 49 (.invokespecial 26) 3 52 := ⟨by decide +kernel, rfl⟩
theorem kk_P_init_26 : zz_kIN mm_P_init mm_V_init 26 0 := ⟨⟨zz_in 87 (by decide +kernel) rfl, zz_in 22 (by decide +kernel) rfl, by decide +kernel, by decide, by decide⟩, rfl, rfl, rfl, ⟨"TurnipPages", zz_inN 85 (by decide +kernel) (by decide +kernel)⟩, zz_in 86 (by decide +kernel) rfl⟩
theorem ee_P_init_52 : zz_D mm_P_init 52 (.putfield 27) 3 55 := ⟨by decide +kernel, rfl⟩
theorem ff_P_init_27 : zz_F mm_P_init 27 0 3 := ⟨by decide, zz_in 258 (by decide +kernel) rfl⟩
theorem ee_P_init_55 : zz_D mm_P_init 55 (.aload_n 0) 1 56 := ⟨by decide +kernel, rfl⟩
theorem ee_P_init_56 : zz_D mm_P_init 56 (.aload_n 0) 1 57 := ⟨by decide +kernel, rfl⟩
theorem ee_P_init_57 : zz_D mm_P_init 57 (.getfield 27) 3 60 := ⟨by decide +kernel, rfl⟩
theorem ee_P_init_60 : zz_D mm_P_init 60 (.getfield 31) 3 63 := ⟨by decide +kernel, rfl⟩
theorem ff_P_init_31 : zz_F mm_P_init 31 1 0 := ⟨by decide, zz_in 175 (by decide +kernel) rfl⟩
theorem ee_P_init_63 : zz_D mm_P_init 63 (.putfield 35) 3 66 := ⟨by decide +kernel, rfl⟩
theorem ff_P_init_35 : zz_F mm_P_init 35 0 4 := ⟨by decide, zz_in 259 (by decide +kernel) rfl⟩
theorem ee_P_init_66 : zz_D mm_P_init 66 (.aload_n 0) 1 67 := ⟨by decide +kernel, rfl⟩
theorem ee_P_init_67 : zz_D mm_P_init 67 (.new 36) 3 70 := ⟨by decide +kernel, rfl⟩
theorem nn_P_init_36 : zz_Nw2 mm_P_init 36 5 7 := ⟨zz_in 191 (by decide +kernel) rfl, zz_in 90 (by decide +kernel) rfl, zz_in 23 (by decide +kernel) rfl, by decide⟩
theorem ee_P_init_70 : zz_D mm_P_init 70 .dup 1 71 := ⟨by decide +kernel, rfl⟩
theorem ee_P_init_71 : zz_D mm_P_init 71 (.invokespecial 38) 3 74 := ⟨by decide +kernel, rfl⟩
theorem kk_P_init_38 : zz_kI mm_P_init mm_S_init 38 0 := ⟨⟨zz_in 93 (by decide +kernel) rfl, zz_in 23 (by decide +kernel) rfl, by decide +kernel, by decide, by decide⟩, rfl, rfl, rfl, zz_in 192 (by decide +kernel) rfl, zz_in 92 (by decide +kernel) rfl⟩
theorem ee_P_init_74 : zz_D mm_P_init 74 (.putfield 39) 3 77 := ⟨by decide +kernel, rfl⟩
theorem ff_P_init_39 : zz_F mm_P_init 39 0 5 := ⟨by decide, zz_in 260 (by decide +kernel) rfl⟩
theorem ee_P_init_77 : zz_D mm_P_init 77 (.aload_n 0) 1 78 := ⟨by decide +kernel, rfl⟩
theorem ee_P_init_78 : zz_D mm_P_init 78 (.new 42) 3 81 := ⟨by decide +kernel, rfl⟩
theorem nn_P_init_42 : zz_Nw2 mm_P_init 42 4 3 := ⟨zz_in 193 (by decide +kernel) rfl, zz_in 194 (by decide +kernel) rfl, zz_in 25 (by decide +kernel) rfl, by decide⟩
theorem ee_P_init_81 : zz_D mm_P_init 81 .dup 1 82 := ⟨by decide +kernel, rfl⟩
theorem ee_P_init_82 : zz_D mm_P_init 82 (.invokespecial 44) 3 85 := ⟨by decide +kernel, rfl⟩
theorem kk_P_init_44 : zz_kI mm_P_init mm_H_init 44 0 := ⟨⟨zz_in 197 (by decide +kernel) rfl, zz_in 25 (by decide +kernel) rfl, by decide +kernel, by decide, by decide⟩, rfl, rfl, rfl, zz_in 195 (by decide +kernel) rfl, zz_in 196 (by decide +kernel) rfl⟩
theorem ee_P_init_85 : zz_D mm_P_init 85 (.putfield 45) 3 88 := ⟨by decide +kernel, rfl⟩
theorem ff_P_init_45 : zz_F mm_P_init 45 0 6 := ⟨by decide, zz_in 261 (by decide +kernel) rfl⟩
theorem ee_P_init_88 : zz_D mm_P_init 88 (.aload_n 0) 1 89 := ⟨by decide +kernel, rfl⟩
theorem ee_P_init_89 : zz_D mm_P_init 89 (.new 49) 3 92 := ⟨by decide +kernel, rfl⟩
theorem nn_P_init_49 : zz_Nw2 mm_P_init 49 2 5 := ⟨zz_in 213 (by decide +kernel) rfl, zz_in 214 (by decide +kernel) rfl, zz_in 26 (by decide +kernel) rfl, by decide⟩
theorem ee_P_init_92 : zz_D mm_P_init 92 .dup 1 93 := ⟨by decide +kernel, rfl⟩
theorem ee_P_init_93 : zz_D mm_P_init 93 (.invokespecial 51) 3 96 := ⟨by decide +kernel, rfl⟩
theorem kk_P_init_51 : zz_kIN mm_P_init mm_C_init 51 0 := ⟨⟨zz_in 217 (by decide +kernel) rfl, zz_in 26 (by decide +kernel) rfl, by decide +kernel, by decide, by decide⟩, rfl, rfl, rfl, ⟨"TurnipPages", zz_inN 215 (by decide +kernel) (by decide +kernel)⟩, zz_in 216 (by decide +kernel) rfl⟩
theorem ee_P_init_96 : zz_D mm_P_init 96 (.putfield 52) 3 99 := ⟨by decide +kernel, rfl⟩
theorem ff_P_init_52 : zz_F mm_P_init 52 0 7 := ⟨by decide, zz_in 262 (by decide +kernel) rfl⟩
theorem ee_P_init_99 : zz_D mm_P_init 99 (.aload_n 0) 1 100 := ⟨by decide +kernel, rfl⟩
theorem ee_P_init_100 : zz_D mm_P_init 100 (.new 56) 3 103 := ⟨by decide +kernel, rfl⟩
theorem nn_P_init_56 : zz_Nw2 mm_P_init 56 3 3 := ⟨zz_in 236 (by decide +kernel) rfl, zz_in 237 (by decide +kernel) rfl, zz_in 27 (by decide +kernel) rfl, by decide⟩
theorem ee_P_init_103 : zz_D mm_P_init 103 .dup 1 104 := ⟨by decide +kernel, rfl⟩
theorem ee_P_init_104 : zz_D mm_P_init 104 (.invokespecial 58) 3 107 := ⟨by decide +kernel, rfl⟩
theorem kk_P_init_58 : zz_kIN mm_P_init mm_D_init 58 0 := ⟨⟨zz_in 240 (by decide +kernel) rfl, zz_in 27 (by decide +kernel) rfl, by decide +kernel, by decide, by decide⟩, rfl, rfl, rfl, ⟨"TurnipPages", zz_inN 238 (by decide +kernel) (by decide +kernel)⟩, zz_in 239 (by decide +kernel) rfl⟩
theorem ee_P_init_107 : zz_D mm_P_init 107 (.putfield 59) 3 110 := ⟨by decide +kernel, rfl⟩
theorem ff_P_init_59 : zz_F mm_P_init 59 0 8 := ⟨by decide, zz_in 263 (by decide +kernel) rfl⟩
theorem ee_P_init_110 : zz_D mm_P_init 110 (.aload_n 0) 1 111 := ⟨by decide +kernel, rfl⟩
theorem ee_P_init_111 : zz_D mm_P_init 111 (.iconst 0) 1 112 := ⟨by decide +kernel, rfl⟩
theorem ee_P_init_112 : zz_D mm_P_init 112 (.putfield 63) 3 115 := ⟨by decide +kernel, rfl⟩
theorem ff_P_init_63 : zz_F mm_P_init 63 0 9 := ⟨by decide, zz_in 264 (by decide +kernel) rfl⟩
theorem ee_P_init_115 : zz_D mm_P_init 115 (.aload_n 0) 1 116 := ⟨by decide +kernel, rfl⟩
theorem ee_P_init_116 : zz_D mm_P_init 116 (.iconst (-1)) 1 117 := ⟨by decide +kernel, rfl⟩
theorem ee_P_init_117 : zz_D mm_P_init 117 (.putfield 67) 3 120 := ⟨by decide +kernel, rfl⟩
theorem ff_P_init_67 : zz_F mm_P_init 67 0 10 := ⟨by decide, zz_in 265 (by decide +kernel) rfl⟩
theorem ee_P_init_120 : zz_D mm_P_init 120 .return_ 1 121 := ⟨by decide +kernel, rfl⟩
theorem ee_P_clearMessage_0 : zz_D mm_P_clearMessage 0 (.aload_n 0) 1 1 := ⟨by decide +kernel, rfl⟩
theorem ee_P_clearMessage_1 : zz_D mm_P_clearMessage 1 (.getfield 14) 3 4 := ⟨by decide +kernel, rfl⟩
theorem ff_P_clearMessage_14 : zz_F mm_P_clearMessage 14 0 0 := ⟨by decide, zz_in 255 (by decide +kernel) rfl⟩
theorem ee_P_clearMessage_4 : zz_D mm_P_clearMessage 4 (.getfield 89) 3 7 := ⟨by decide +kernel, rfl⟩
theorem ff_P_clearMessage_89 : zz_F mm_P_clearMessage 89 7 1 := ⟨by decide, zz_in 73 (by decide +kernel) rfl⟩
theorem ee_P_clearMessage_7 : zz_D mm_P_clearMessage 7 (.istore_n 1) 1 8 := ⟨by decide +kernel, rfl⟩
theorem ee_P_clearMessage_8 : zz_D mm_P_clearMessage 8 (.aload_n 0) 1 9 := ⟨by decide +kernel, rfl⟩
theorem ee_P_clearMessage_9 : zz_D mm_P_clearMessage 9 (.getfield 14) 3 12 := ⟨by decide +kernel, rfl⟩
theorem ee_P_clearMessage_12 : zz_D mm_P_clearMessage 12 (.invokevirtual 92) 3 15 := ⟨by decide +kernel, rfl⟩
theorem kk_P_clearMessage_92 : zz_kV mm_P_clearMessage mm_T_clear 92 0 := ⟨⟨zz_in 296 (by decide +kernel) rfl, zz_in 20 (by decide +kernel) rfl, by decide +kernel, by decide, by decide⟩, rfl, zz_in 293 (by decide +kernel) rfl, zz_in 294 (by decide +kernel) rfl, zz_in 295 (by decide +kernel) rfl⟩
theorem ee_P_clearMessage_15 : zz_D mm_P_clearMessage 15 (.iload_n 1) 1 16 := ⟨by decide +kernel, rfl⟩
theorem ee_P_clearMessage_16 : zz_D mm_P_clearMessage 16 .ireturn 1 17 := ⟨by decide +kernel, rfl⟩
theorem ee_P_encodedLength_0 : zz_D mm_P_encodedLength 0 (.aload_n 0) 1 1 := ⟨by decide +kernel, rfl⟩
theorem ee_P_encodedLength_1 : zz_D mm_P_encodedLength 1 (.getfield 14) 3 4 := ⟨by decide +kernel, rfl⟩
theorem ff_P_encodedLength_14 : zz_F mm_P_encodedLength 14 0 0 := ⟨by decide, zz_in 255 (by decide +kernel) rfl⟩
theorem ee_P_encodedLength_4 : zz_D mm_P_encodedLength 4 (.aload_n 0) 1 5 := ⟨by decide +kernel, rfl⟩
theorem ee_P_encodedLength_5 : zz_D mm_P_encodedLength 5 (.getfield 27) 3 8 := ⟨by decide +kernel, rfl⟩
theorem ff_P_encodedLength_27 : zz_F mm_P_encodedLength 27 0 3 := ⟨by decide, zz_in 258 (by decide +kernel) rfl⟩
theorem ee_P_encodedLength_8 : zz_D mm_P_encodedLength 8 (.getfield 95) 3 11 := ⟨by decide +kernel, rfl⟩
theorem ff_P_encodedLength_95 : zz_F mm_P_encodedLength 95 1 2 := ⟨by decide, zz_in 179 (by decide +kernel) rfl⟩
theorem ee_P_encodedLength_11 : zz_D mm_P_encodedLength 11 (.invokestatic 98) 3 14 := ⟨by decide +kernel, rfl⟩
theorem kk_P_encodedLength_98 : zz_kS mm_P_encodedLength mm_O_fold 98 2 := ⟨⟨zz_in 303 (by decide +kernel) rfl, zz_in 41 (by decide +kernel) rfl, by decide +kernel, by decide, by decide⟩, rfl, zz_in 301 (by decide +kernel) rfl, zz_in 302 (by decide +kernel) rfl⟩
theorem ee_P_encodedLength_14 : zz_D mm_P_encodedLength 14 (.aload_n 0) 1 15 := ⟨by decide +kernel, rfl⟩
theorem ee_P_encodedLength_15 : zz_D mm_P_encodedLength 15 (.getfield 27) 3 18 := ⟨by decide +kernel, rfl⟩
theorem ee_P_encodedLength_18 : zz_D mm_P_encodedLength 18 (.getfield 95) 3 21 := ⟨by decide +kernel, rfl⟩
theorem ee_P_encodedLength_21 : zz_D mm_P_encodedLength 21 (.getfield 89) 3 24 := ⟨by decide +kernel, rfl⟩
theorem ff_P_encodedLength_89 : zz_F mm_P_encodedLength 89 7 1 := ⟨by decide, zz_in 73 (by decide +kernel) rfl⟩
theorem ee_P_encodedLength_24 : zz_D mm_P_encodedLength 24 .ireturn 1 25 := ⟨by decide +kernel, rfl⟩
theorem ee_P_isDigit_0 : zz_D mm_P_isDigit 0 (.iload_n 0) 1 1 := ⟨by decide +kernel, rfl⟩
theorem ee_P_isDigit_1 : zz_D mm_P_isDigit 1 (.bipush 48) 2 3 := ⟨by decide +kernel, rfl⟩
theorem ee_P_isDigit_3 : zz_D mm_P_isDigit 3 (.if_icmp .lt 13) 3 6 := ⟨by decide +kernel, rfl⟩
theorem ee_P_isDigit_6 : zz_D mm_P_isDigit 6 (.iload_n 0) 1 7 := ⟨by decide +kernel, rfl⟩
theorem ee_P_isDigit_7 : zz_D mm_P_isDigit 7 (.bipush 57) 2 9 := ⟨by decide +kernel, rfl⟩
theorem ee_P_isDigit_9 : zz_D mm_P_isDigit 9 (.if_icmp .gt 7) 3 12 := ⟨by decide +kernel, rfl⟩
theorem ee_P_isDigit_12 : zz_D mm_P_isDigit 12 (.iconst 1) 1 13 := ⟨by decide +kernel, rfl⟩
theorem ee_P_isDigit_13 : zz_D mm_P_isDigit 13 (.goto 4) 3 16 := ⟨by decide +kernel, rfl⟩
theorem ee_P_isDigit_16 : zz_D mm_P_isDigit 16 (.iconst 0) 1 17 := ⟨by decide +kernel, rfl⟩
theorem ee_P_isDigit_17 : zz_D mm_P_isDigit 17 .ireturn 1 18 := ⟨by decide +kernel, rfl⟩
theorem ee_P_rootCount_0 : zz_D mm_P_rootCount 0 (.aload_n 0) 1 1 := ⟨by decide +kernel, rfl⟩
theorem ee_P_rootCount_1 : zz_D mm_P_rootCount 1 (.getfield 35) 3 4 := ⟨by decide +kernel, rfl⟩
theorem ff_P_rootCount_35 : zz_F mm_P_rootCount 35 0 4 := ⟨by decide, zz_in 259 (by decide +kernel) rfl⟩
theorem ee_P_rootCount_4 : zz_D mm_P_rootCount 4 (.getfield 131) 3 7 := ⟨by decide +kernel, rfl⟩
theorem ff_P_rootCount_131 : zz_F mm_P_rootCount 131 5 2 := ⟨by decide, zz_in 146 (by decide +kernel) rfl⟩
theorem ee_P_rootCount_7 : zz_D mm_P_rootCount 7 .ireturn 1 8 := ⟨by decide +kernel, rfl⟩
theorem ee_P_telegramCount_0 : zz_D mm_P_telegramCount 0 (.aload_n 0) 1 1 := ⟨by decide +kernel, rfl⟩
theorem ee_P_telegramCount_1 : zz_D mm_P_telegramCount 1 (.getfield 35) 3 4 := ⟨by decide +kernel, rfl⟩
theorem ff_P_telegramCount_35 : zz_F mm_P_telegramCount 35 0 4 := ⟨by decide, zz_in 259 (by decide +kernel) rfl⟩
theorem ee_P_telegramCount_4 : zz_D mm_P_telegramCount 4 (.getfield 181) 3 7 := ⟨by decide +kernel, rfl⟩
theorem ff_P_telegramCount_181 : zz_F mm_P_telegramCount 181 5 3 := ⟨by decide, zz_in 149 (by decide +kernel) rfl⟩
theorem ee_P_telegramCount_7 : zz_D mm_P_telegramCount 7 .ireturn 1 8 := ⟨by decide +kernel, rfl⟩
theorem ee_P_rottenPages_0 : zz_D mm_P_rottenPages 0 (.aload_n 0) 1 1 := ⟨by decide +kernel, rfl⟩
theorem ee_P_rottenPages_1 : zz_D mm_P_rottenPages 1 (.getfield 35) 3 4 := ⟨by decide +kernel, rfl⟩
theorem ff_P_rottenPages_35 : zz_F mm_P_rottenPages 35 0 4 := ⟨by decide, zz_in 259 (by decide +kernel) rfl⟩
theorem ee_P_rottenPages_4 : zz_D mm_P_rottenPages 4 (.invokevirtual 248) 3 7 := ⟨by decide +kernel, rfl⟩
theorem kk_P_rottenPages_248 : zz_kV mm_P_rottenPages mm_S_countRottenPages 248 0 := ⟨⟨zz_in 348 (by decide +kernel) rfl, zz_in 23 (by decide +kernel) rfl, by decide +kernel, by decide, by decide⟩, rfl, zz_in 345 (by decide +kernel) rfl, zz_in 346 (by decide +kernel) rfl, zz_in 347 (by decide +kernel) rfl⟩
theorem ee_P_rottenPages_7 : zz_D mm_P_rottenPages 7 .ireturn 1 8 := ⟨by decide +kernel, rfl⟩
theorem ee_P_day_0 : zz_D mm_P_day 0 (.aload_n 0) 1 1 := ⟨by decide +kernel, rfl⟩
theorem ee_P_day_1 : zz_D mm_P_day 1 (.getfield 35) 3 4 := ⟨by decide +kernel, rfl⟩
theorem ff_P_day_35 : zz_F mm_P_day 35 0 4 := ⟨by decide, zz_in 259 (by decide +kernel) rfl⟩
theorem ee_P_day_4 : zz_D mm_P_day 4 (.getfield 251) 3 7 := ⟨by decide +kernel, rfl⟩
theorem ff_P_day_251 : zz_F mm_P_day 251 5 5 := ⟨by decide, zz_in 153 (by decide +kernel) rfl⟩
theorem ee_P_day_7 : zz_D mm_P_day 7 .ireturn 1 8 := ⟨by decide +kernel, rfl⟩
theorem ee_P_carvedCharacters_0 : zz_D mm_P_carvedCharacters 0 (.aload_n 0) 1 1 := ⟨by decide +kernel, rfl⟩
theorem ee_P_carvedCharacters_1 : zz_D mm_P_carvedCharacters 1 (.getfield 35) 3 4 := ⟨by decide +kernel, rfl⟩
theorem ff_P_carvedCharacters_35 : zz_F mm_P_carvedCharacters 35 0 4 := ⟨by decide, zz_in 259 (by decide +kernel) rfl⟩
theorem ee_P_carvedCharacters_4 : zz_D mm_P_carvedCharacters 4 (.getfield 254) 3 7 := ⟨by decide +kernel, rfl⟩
theorem ff_P_carvedCharacters_254 : zz_F mm_P_carvedCharacters 254 5 6 := ⟨by decide, zz_in 156 (by decide +kernel) rfl⟩
theorem ee_P_carvedCharacters_7 : zz_D mm_P_carvedCharacters 7 .ireturn 1 8 := ⟨by decide +kernel, rfl⟩
theorem ee_P_undoCount_0 : zz_D mm_P_undoCount 0 (.aload_n 0) 1 1 := ⟨by decide +kernel, rfl⟩
theorem ee_P_undoCount_1 : zz_D mm_P_undoCount 1 (.getfield 45) 3 4 := ⟨by decide +kernel, rfl⟩
theorem ff_P_undoCount_45 : zz_F mm_P_undoCount 45 0 6 := ⟨by decide, zz_in 261 (by decide +kernel) rfl⟩
theorem ee_P_undoCount_4 : zz_D mm_P_undoCount 4 (.getfield 317) 3 7 := ⟨by decide +kernel, rfl⟩
theorem ff_P_undoCount_317 : zz_F mm_P_undoCount 317 4 2 := ⟨by decide, zz_in 205 (by decide +kernel) rfl⟩
theorem ee_P_undoCount_7 : zz_D mm_P_undoCount 7 .ireturn 1 8 := ⟨by decide +kernel, rfl⟩
theorem ee_P_saveSnapshot_0 : zz_D mm_P_saveSnapshot 0 (.aload_n 0) 1 1 := ⟨by decide +kernel, rfl⟩
theorem ee_P_saveSnapshot_1 : zz_D mm_P_saveSnapshot 1 (.getfield 39) 3 4 := ⟨by decide +kernel, rfl⟩
theorem ff_P_saveSnapshot_39 : zz_F mm_P_saveSnapshot 39 0 5 := ⟨by decide, zz_in 260 (by decide +kernel) rfl⟩
theorem ee_P_saveSnapshot_4 : zz_D mm_P_saveSnapshot 4 (.aload_n 0) 1 5 := ⟨by decide +kernel, rfl⟩
theorem ee_P_saveSnapshot_5 : zz_D mm_P_saveSnapshot 5 (.getfield 35) 3 8 := ⟨by decide +kernel, rfl⟩
theorem ff_P_saveSnapshot_35 : zz_F mm_P_saveSnapshot 35 0 4 := ⟨by decide, zz_in 259 (by decide +kernel) rfl⟩
theorem ee_P_saveSnapshot_8 : zz_D mm_P_saveSnapshot 8 (.invokevirtual 289) 3 11 := ⟨by decide +kernel, rfl⟩
theorem kk_P_saveSnapshot_289 : zz_kV mm_P_saveSnapshot mm_S_copyFrom 289 1 := ⟨⟨zz_in 372 (by decide +kernel) rfl, zz_in 23 (by decide +kernel) rfl, by decide +kernel, by decide, by decide⟩, rfl, zz_in 369 (by decide +kernel) rfl, zz_in 370 (by decide +kernel) rfl, zz_in 371 (by decide +kernel) rfl⟩
theorem ee_P_saveSnapshot_11 : zz_D mm_P_saveSnapshot 11 (.aload_n 0) 1 12 := ⟨by decide +kernel, rfl⟩
theorem ee_P_saveSnapshot_12 : zz_D mm_P_saveSnapshot 12 (.iconst 1) 1 13 := ⟨by decide +kernel, rfl⟩
theorem ee_P_saveSnapshot_13 : zz_D mm_P_saveSnapshot 13 (.putfield 63) 3 16 := ⟨by decide +kernel, rfl⟩
theorem ff_P_saveSnapshot_63 : zz_F mm_P_saveSnapshot 63 0 9 := ⟨by decide, zz_in 264 (by decide +kernel) rfl⟩
theorem ee_P_saveSnapshot_16 : zz_D mm_P_saveSnapshot 16 (.aload_n 0) 1 17 := ⟨by decide +kernel, rfl⟩
theorem ee_P_saveSnapshot_17 : zz_D mm_P_saveSnapshot 17 (.getfield 35) 3 20 := ⟨by decide +kernel, rfl⟩
theorem ee_P_saveSnapshot_20 : zz_D mm_P_saveSnapshot 20 (.getfield 181) 3 23 := ⟨by decide +kernel, rfl⟩
theorem ff_P_saveSnapshot_181 : zz_F mm_P_saveSnapshot 181 5 3 := ⟨by decide, zz_in 149 (by decide +kernel) rfl⟩
theorem ee_P_saveSnapshot_23 : zz_D mm_P_saveSnapshot 23 .ireturn 1 24 := ⟨by decide +kernel, rfl⟩
theorem ee_P_type_0 : zz_D mm_P_type 0 (.iload_n 1) 1 1 := ⟨by decide +kernel, rfl⟩
theorem ee_P_type_1 : zz_D mm_P_type 1 (.invokestatic 71) 3 4 := ⟨by decide +kernel, rfl⟩
theorem kk_P_type_71 : zz_kS mm_P_type mm_P_isTypeable 71 1 := ⟨⟨zz_in 413 (by decide +kernel) rfl, zz_in 19 (by decide +kernel) rfl, by decide +kernel, by decide, by decide⟩, rfl, zz_in 411 (by decide +kernel) rfl, zz_in 412 (by decide +kernel) rfl⟩
theorem ee_P_type_4 : zz_D mm_P_type 4 (.ifCond .ne 11) 3 7 := ⟨by decide +kernel, rfl⟩
theorem ee_P_type_7 : zz_D mm_P_type 7 (.new 75) 3 10 := ⟨by decide +kernel, rfl⟩
theorem tw_P_77 : ∀ w ∈ vx_at0 "TurnipPages" 77 "java/lang/IllegalArgumentException" ["java/lang/RuntimeException", "java/lang/Exception"], w ∈ zz_gw ∨ w ∈ zz_nw := by decide +kernel
theorem to_P_77 : ∀ w ∈ Cond.classLink "TurnipPages" 75 "java/lang/IllegalArgumentException" :: Cond.initialized "java/lang/IllegalArgumentException" :: vx_at0 "TurnipPages" 77 "java/lang/IllegalArgumentException" ["java/lang/RuntimeException", "java/lang/Exception"], vx_ot w = true := by decide +kernel
theorem tt_P_type_7 : zz_T mm_P_type 7 75 77 "java/lang/IllegalArgumentException" ["java/lang/RuntimeException", "java/lang/Exception"] := ⟨⟨ee_P_type_7.1, by decide +kernel, by decide +kernel, by decide +kernel⟩, by decide +kernel, by decide +kernel, zz_in 414 (by decide +kernel) rfl, zz_in 35 (by decide +kernel) rfl, tw_P_77, to_P_77, by decide, by decide⟩
theorem ee_P_type_10 : zz_D mm_P_type 10 .dup 1 11 := ⟨by decide +kernel, rfl⟩
theorem ee_P_type_11 : zz_D mm_P_type 11 (.invokespecial 77) 3 14 := ⟨by decide +kernel, rfl⟩
theorem ee_P_type_14 : zz_D mm_P_type 14 .athrow 1 15 := ⟨by decide +kernel, rfl⟩
theorem ee_P_type_15 : zz_D mm_P_type 15 (.aload_n 0) 1 16 := ⟨by decide +kernel, rfl⟩
theorem ee_P_type_16 : zz_D mm_P_type 16 (.getfield 14) 3 19 := ⟨by decide +kernel, rfl⟩
theorem ff_P_type_14 : zz_F mm_P_type 14 0 0 := ⟨by decide, zz_in 255 (by decide +kernel) rfl⟩
theorem ee_P_type_19 : zz_D mm_P_type 19 (.invokevirtual 78) 3 22 := ⟨by decide +kernel, rfl⟩
theorem kk_P_type_78 : zz_kV mm_P_type mm_T_isFull 78 0 := ⟨⟨zz_in 332 (by decide +kernel) rfl, zz_in 20 (by decide +kernel) rfl, by decide +kernel, by decide, by decide⟩, rfl, zz_in 482 (by decide +kernel) rfl, zz_in 330 (by decide +kernel) rfl, zz_in 331 (by decide +kernel) rfl⟩
theorem ee_P_type_22 : zz_D mm_P_type 22 (.ifCond .eq 11) 3 25 := ⟨by decide +kernel, rfl⟩
theorem ee_P_type_25 : zz_D mm_P_type 25 (.new 82) 3 28 := ⟨by decide +kernel, rfl⟩
theorem tw_P_84 : ∀ w ∈ vx_at0 "TurnipPages" 84 "java/lang/IllegalStateException" ["java/lang/RuntimeException", "java/lang/Exception"], w ∈ zz_gw ∨ w ∈ zz_nw := by decide +kernel
theorem to_P_84 : ∀ w ∈ Cond.classLink "TurnipPages" 82 "java/lang/IllegalStateException" :: Cond.initialized "java/lang/IllegalStateException" :: vx_at0 "TurnipPages" 84 "java/lang/IllegalStateException" ["java/lang/RuntimeException", "java/lang/Exception"], vx_ot w = true := by decide +kernel
theorem tt_P_type_25 : zz_T mm_P_type 25 82 84 "java/lang/IllegalStateException" ["java/lang/RuntimeException", "java/lang/Exception"] := ⟨⟨ee_P_type_25.1, by decide +kernel, by decide +kernel, by decide +kernel⟩, by decide +kernel, by decide +kernel, zz_in 483 (by decide +kernel) rfl, zz_in 31 (by decide +kernel) rfl, tw_P_84, to_P_84, by decide, by decide⟩
theorem ee_P_type_28 : zz_D mm_P_type 28 .dup 1 29 := ⟨by decide +kernel, rfl⟩
theorem ee_P_type_29 : zz_D mm_P_type 29 (.invokespecial 84) 3 32 := ⟨by decide +kernel, rfl⟩
theorem ee_P_type_32 : zz_D mm_P_type 32 .athrow 1 33 := ⟨by decide +kernel, rfl⟩
theorem ee_P_type_33 : zz_D mm_P_type 33 (.aload_n 0) 1 34 := ⟨by decide +kernel, rfl⟩
theorem ee_P_type_34 : zz_D mm_P_type 34 (.getfield 14) 3 37 := ⟨by decide +kernel, rfl⟩
theorem ee_P_type_37 : zz_D mm_P_type 37 (.iload_n 1) 1 38 := ⟨by decide +kernel, rfl⟩
theorem ee_P_type_38 : zz_D mm_P_type 38 (.invokevirtual 85) 3 41 := ⟨by decide +kernel, rfl⟩
theorem kk_P_type_85 : zz_kV mm_P_type mm_T_add 85 1 := ⟨⟨zz_in 328 (by decide +kernel) rfl, zz_in 20 (by decide +kernel) rfl, by decide +kernel, by decide, by decide⟩, rfl, zz_in 498 (by decide +kernel) rfl, zz_in 326 (by decide +kernel) rfl, zz_in 327 (by decide +kernel) rfl⟩
theorem ee_P_type_41 : zz_D mm_P_type 41 (.aload_n 0) 1 42 := ⟨by decide +kernel, rfl⟩
theorem ee_P_type_42 : zz_D mm_P_type 42 (.getfield 14) 3 45 := ⟨by decide +kernel, rfl⟩
theorem ee_P_type_45 : zz_D mm_P_type 45 (.getfield 89) 3 48 := ⟨by decide +kernel, rfl⟩
theorem ff_P_type_89 : zz_F mm_P_type 89 7 1 := ⟨by decide, zz_in 73 (by decide +kernel) rfl⟩
theorem ee_P_type_48 : zz_D mm_P_type 48 .ireturn 1 49 := ⟨by decide +kernel, rfl⟩
theorem ee_P_isTypeable_0 : zz_D mm_P_isTypeable 0 (.iload_n 0) 1 1 := ⟨by decide +kernel, rfl⟩
theorem ee_P_isTypeable_1 : zz_D mm_P_isTypeable 1 (.bipush 32) 2 3 := ⟨by decide +kernel, rfl⟩
theorem ee_P_isTypeable_3 : zz_D mm_P_isTypeable 3 (.if_icmp .lt 13) 3 6 := ⟨by decide +kernel, rfl⟩
theorem ee_P_isTypeable_6 : zz_D mm_P_isTypeable 6 (.iload_n 0) 1 7 := ⟨by decide +kernel, rfl⟩
theorem ee_P_isTypeable_7 : zz_D mm_P_isTypeable 7 (.bipush 126) 2 9 := ⟨by decide +kernel, rfl⟩
theorem ee_P_isTypeable_9 : zz_D mm_P_isTypeable 9 (.if_icmp .gt 7) 3 12 := ⟨by decide +kernel, rfl⟩
theorem ee_P_isTypeable_12 : zz_D mm_P_isTypeable 12 (.iconst 1) 1 13 := ⟨by decide +kernel, rfl⟩
theorem ee_P_isTypeable_13 : zz_D mm_P_isTypeable 13 (.goto 4) 3 16 := ⟨by decide +kernel, rfl⟩
theorem ee_P_isTypeable_16 : zz_D mm_P_isTypeable 16 (.iconst 0) 1 17 := ⟨by decide +kernel, rfl⟩
theorem ee_P_isTypeable_17 : zz_D mm_P_isTypeable 17 .ireturn 1 18 := ⟨by decide +kernel, rfl⟩
theorem ee_P_addRoot_0 : zz_D mm_P_addRoot 0 (.aload_n 0) 1 1 := ⟨by decide +kernel, rfl⟩
theorem ee_P_addRoot_1 : zz_D mm_P_addRoot 1 (.getfield 45) 3 4 := ⟨by decide +kernel, rfl⟩
theorem ff_P_addRoot_45 : zz_F mm_P_addRoot 45 0 6 := ⟨by decide, zz_in 261 (by decide +kernel) rfl⟩
theorem ee_P_addRoot_4 : zz_D mm_P_addRoot 4 (.aload_n 0) 1 5 := ⟨by decide +kernel, rfl⟩
theorem ee_P_addRoot_5 : zz_D mm_P_addRoot 5 (.getfield 35) 3 8 := ⟨by decide +kernel, rfl⟩
theorem ff_P_addRoot_35 : zz_F mm_P_addRoot 35 0 4 := ⟨by decide, zz_in 259 (by decide +kernel) rfl⟩
theorem ee_P_addRoot_8 : zz_D mm_P_addRoot 8 (.invokevirtual 117) 3 11 := ⟨by decide +kernel, rfl⟩
theorem kk_P_addRoot_117 : zz_kV mm_P_addRoot mm_H_prepare 117 1 := ⟨⟨zz_in 510 (by decide +kernel) rfl, zz_in 25 (by decide +kernel) rfl, by decide +kernel, by decide, by decide⟩, rfl, zz_in 507 (by decide +kernel) rfl, zz_in 508 (by decide +kernel) rfl, zz_in 509 (by decide +kernel) rfl⟩
theorem ee_P_addRoot_11 : zz_D mm_P_addRoot 11 (.aload_n 0) 1 12 := ⟨by decide +kernel, rfl⟩
theorem ee_P_addRoot_12 : zz_D mm_P_addRoot 12 (.aload_n 0) 1 13 := ⟨by decide +kernel, rfl⟩
theorem ee_P_addRoot_13 : zz_D mm_P_addRoot 13 (.getfield 27) 3 16 := ⟨by decide +kernel, rfl⟩
theorem ff_P_addRoot_27 : zz_F mm_P_addRoot 27 0 3 := ⟨by decide, zz_in 258 (by decide +kernel) rfl⟩
theorem ee_P_addRoot_16 : zz_D mm_P_addRoot 16 (.iload_n 1) 1 17 := ⟨by decide +kernel, rfl⟩
theorem ee_P_addRoot_17 : zz_D mm_P_addRoot 17 (.invokevirtual 121) 3 20 := ⟨by decide +kernel, rfl⟩
theorem kk_P_addRoot_121 : zz_kV mm_P_addRoot mm_V_plantRoot 121 1 := ⟨⟨zz_in 522 (by decide +kernel) rfl, zz_in 22 (by decide +kernel) rfl, by decide +kernel, by decide, by decide⟩, rfl, zz_in 519 (by decide +kernel) rfl, zz_in 520 (by decide +kernel) rfl, zz_in 521 (by decide +kernel) rfl⟩
theorem ee_P_addRoot_20 : zz_D mm_P_addRoot 20 (.invokevirtual 125) 3 23 := ⟨by decide +kernel, rfl⟩
theorem kk_P_addRoot_125 : zz_kV mm_P_addRoot mm_P_settle 125 1 := ⟨⟨zz_in 534 (by decide +kernel) rfl, zz_in 19 (by decide +kernel) rfl, by decide +kernel, by decide, by decide⟩, rfl, zz_in 531 (by decide +kernel) rfl, zz_in 533 (by decide +kernel) rfl, zz_in 2 (by decide +kernel) rfl⟩
theorem ee_P_addRoot_23 : zz_D mm_P_addRoot 23 .ireturn 1 24 := ⟨by decide +kernel, rfl⟩
theorem ee_P_settle_0 : zz_D mm_P_settle 0 (.aload_n 0) 1 1 := ⟨by decide +kernel, rfl⟩
theorem ee_P_settle_1 : zz_D mm_P_settle 1 (.iload_n 1) 1 2 := ⟨by decide +kernel, rfl⟩
theorem ee_P_settle_2 : zz_D mm_P_settle 2 (.invokevirtual 171) 3 5 := ⟨by decide +kernel, rfl⟩
theorem kk_P_settle_171 : zz_kV mm_P_settle mm_P_refuse 171 1 := ⟨⟨zz_in 538 (by decide +kernel) rfl, zz_in 19 (by decide +kernel) rfl, by decide +kernel, by decide, by decide⟩, rfl, zz_in 535 (by decide +kernel) rfl, zz_in 537 (by decide +kernel) rfl, zz_in 3 (by decide +kernel) rfl⟩
theorem ee_P_settle_5 : zz_D mm_P_settle 5 (.aload_n 0) 1 6 := ⟨by decide +kernel, rfl⟩
theorem ee_P_settle_6 : zz_D mm_P_settle 6 (.getfield 45) 3 9 := ⟨by decide +kernel, rfl⟩
theorem ff_P_settle_45 : zz_F mm_P_settle 45 0 6 := ⟨by decide, zz_in 261 (by decide +kernel) rfl⟩
theorem ee_P_settle_9 : zz_D mm_P_settle 9 (.invokevirtual 301) 3 12 := ⟨by decide +kernel, rfl⟩
theorem kk_P_settle_301 : zz_kV mm_P_settle mm_H_keep 301 0 := ⟨⟨zz_in 591 (by decide +kernel) rfl, zz_in 25 (by decide +kernel) rfl, by decide +kernel, by decide, by decide⟩, rfl, zz_in 588 (by decide +kernel) rfl, zz_in 589 (by decide +kernel) rfl, zz_in 590 (by decide +kernel) rfl⟩
theorem ee_P_settle_12 : zz_D mm_P_settle 12 (.iload_n 1) 1 13 := ⟨by decide +kernel, rfl⟩
theorem ee_P_settle_13 : zz_D mm_P_settle 13 .ireturn 1 14 := ⟨by decide +kernel, rfl⟩
theorem ee_P_refuse_0 : zz_D mm_P_refuse 0 (.iload_n 1) 1 1 := ⟨by decide +kernel, rfl⟩
theorem ee_P_refuse_1 : zz_D mm_P_refuse 1 (.bipush (-11)) 2 3 := ⟨by decide +kernel, rfl⟩
theorem ee_P_refuse_3 : zz_D mm_P_refuse 3 (.if_icmp .ne 11) 3 6 := ⟨by decide +kernel, rfl⟩
theorem ee_P_refuse_6 : zz_D mm_P_refuse 6 (.new 147) 3 9 := ⟨by decide +kernel, rfl⟩
theorem tw_P_149 : ∀ w ∈ vx_at0 "TurnipPages" 149 "java/util/NoSuchElementException" ["java/lang/RuntimeException", "java/lang/Exception"], w ∈ zz_gw ∨ w ∈ zz_nw := by decide +kernel
theorem to_P_149 : ∀ w ∈ Cond.classLink "TurnipPages" 147 "java/util/NoSuchElementException" :: Cond.initialized "java/util/NoSuchElementException" :: vx_at0 "TurnipPages" 149 "java/util/NoSuchElementException" ["java/lang/RuntimeException", "java/lang/Exception"], vx_ot w = true := by decide +kernel
theorem tt_P_refuse_6 : zz_T mm_P_refuse 6 147 149 "java/util/NoSuchElementException" ["java/lang/RuntimeException", "java/lang/Exception"] := ⟨⟨ee_P_refuse_6.1, by decide +kernel, by decide +kernel, by decide +kernel⟩, by decide +kernel, by decide +kernel, zz_in 539 (by decide +kernel) rfl, zz_in 33 (by decide +kernel) rfl, tw_P_149, to_P_149, by decide, by decide⟩
theorem ee_P_refuse_9 : zz_D mm_P_refuse 9 .dup 1 10 := ⟨by decide +kernel, rfl⟩
theorem ee_P_refuse_10 : zz_D mm_P_refuse 10 (.invokespecial 149) 3 13 := ⟨by decide +kernel, rfl⟩
theorem ee_P_refuse_13 : zz_D mm_P_refuse 13 .athrow 1 14 := ⟨by decide +kernel, rfl⟩
theorem ee_P_refuse_14 : zz_D mm_P_refuse 14 (.iload_n 1) 1 15 := ⟨by decide +kernel, rfl⟩
theorem ee_P_refuse_15 : zz_D mm_P_refuse 15 (.bipush (-12)) 2 17 := ⟨by decide +kernel, rfl⟩
theorem ee_P_refuse_17 : zz_D mm_P_refuse 17 (.if_icmp .ne 11) 3 20 := ⟨by decide +kernel, rfl⟩
theorem ee_P_refuse_20 : zz_D mm_P_refuse 20 (.new 188) 3 23 := ⟨by decide +kernel, rfl⟩
theorem tw_P_190 : ∀ w ∈ vx_at0 "TurnipPages" 190 "java/lang/IndexOutOfBoundsException" ["java/lang/RuntimeException", "java/lang/Exception"], w ∈ zz_gw ∨ w ∈ zz_nw := by decide +kernel
theorem to_P_190 : ∀ w ∈ Cond.classLink "TurnipPages" 188 "java/lang/IndexOutOfBoundsException" :: Cond.initialized "java/lang/IndexOutOfBoundsException" :: vx_at0 "TurnipPages" 190 "java/lang/IndexOutOfBoundsException" ["java/lang/RuntimeException", "java/lang/Exception"], vx_ot w = true := by decide +kernel
theorem tt_P_refuse_20 : zz_T mm_P_refuse 20 188 190 "java/lang/IndexOutOfBoundsException" ["java/lang/RuntimeException", "java/lang/Exception"] := ⟨⟨ee_P_refuse_20.1, by decide +kernel, by decide +kernel, by decide +kernel⟩, by decide +kernel, by decide +kernel, zz_in 554 (by decide +kernel) rfl, zz_in 34 (by decide +kernel) rfl, tw_P_190, to_P_190, by decide, by decide⟩
theorem ee_P_refuse_23 : zz_D mm_P_refuse 23 .dup 1 24 := ⟨by decide +kernel, rfl⟩
theorem ee_P_refuse_24 : zz_D mm_P_refuse 24 (.invokespecial 190) 3 27 := ⟨by decide +kernel, rfl⟩
theorem ee_P_refuse_27 : zz_D mm_P_refuse 27 .athrow 1 28 := ⟨by decide +kernel, rfl⟩
theorem ee_P_refuse_28 : zz_D mm_P_refuse 28 (.iload_n 1) 1 29 := ⟨by decide +kernel, rfl⟩
theorem ee_P_refuse_29 : zz_D mm_P_refuse 29 (.bipush (-13)) 2 31 := ⟨by decide +kernel, rfl⟩
theorem ee_P_refuse_31 : zz_D mm_P_refuse 31 (.if_icmp .ne 11) 3 34 := ⟨by decide +kernel, rfl⟩
theorem ee_P_refuse_34 : zz_D mm_P_refuse 34 (.new 75) 3 37 := ⟨by decide +kernel, rfl⟩
theorem tt_P_refuse_34 : zz_T mm_P_refuse 34 75 77 "java/lang/IllegalArgumentException" ["java/lang/RuntimeException", "java/lang/Exception"] := ⟨⟨ee_P_refuse_34.1, by decide +kernel, by decide +kernel, by decide +kernel⟩, by decide +kernel, by decide +kernel, zz_in 414 (by decide +kernel) rfl, zz_in 35 (by decide +kernel) rfl, tw_P_77, to_P_77, by decide, by decide⟩
theorem ee_P_refuse_37 : zz_D mm_P_refuse 37 .dup 1 38 := ⟨by decide +kernel, rfl⟩
theorem ee_P_refuse_38 : zz_D mm_P_refuse 38 (.invokespecial 77) 3 41 := ⟨by decide +kernel, rfl⟩
theorem ee_P_refuse_41 : zz_D mm_P_refuse 41 .athrow 1 42 := ⟨by decide +kernel, rfl⟩
theorem ee_P_refuse_42 : zz_D mm_P_refuse 42 (.iload_n 1) 1 43 := ⟨by decide +kernel, rfl⟩
theorem ee_P_refuse_43 : zz_D mm_P_refuse 43 (.ifCond .ge 28) 3 46 := ⟨by decide +kernel, rfl⟩
theorem ee_P_refuse_46 : zz_D mm_P_refuse 46 (.aload_n 0) 1 47 := ⟨by decide +kernel, rfl⟩
theorem ee_P_refuse_47 : zz_D mm_P_refuse 47 (.getfield 59) 3 50 := ⟨by decide +kernel, rfl⟩
theorem ff_P_refuse_59 : zz_F mm_P_refuse 59 0 8 := ⟨by decide, zz_in 263 (by decide +kernel) rfl⟩
theorem ee_P_refuse_50 : zz_D mm_P_refuse 50 (.iload_n 1) 1 51 := ⟨by decide +kernel, rfl⟩
theorem ee_P_refuse_51 : zz_D mm_P_refuse 51 .ineg 1 52 := ⟨by decide +kernel, rfl⟩
theorem ee_P_refuse_52 : zz_D mm_P_refuse 52 (.aload_n 0) 1 53 := ⟨by decide +kernel, rfl⟩
theorem ee_P_refuse_53 : zz_D mm_P_refuse 53 (.getfield 27) 3 56 := ⟨by decide +kernel, rfl⟩
theorem ff_P_refuse_27 : zz_F mm_P_refuse 27 0 3 := ⟨by decide, zz_in 258 (by decide +kernel) rfl⟩
theorem ee_P_refuse_56 : zz_D mm_P_refuse 56 (.getfield 324) 3 59 := ⟨by decide +kernel, rfl⟩
theorem ff_P_refuse_324 : zz_F mm_P_refuse 324 1 3 := ⟨by decide, zz_in 181 (by decide +kernel) rfl⟩
theorem ee_P_refuse_59 : zz_D mm_P_refuse 59 (.iconst (-1)) 1 60 := ⟨by decide +kernel, rfl⟩
theorem ee_P_refuse_60 : zz_D mm_P_refuse 60 (.invokevirtual 294) 3 63 := ⟨by decide +kernel, rfl⟩
theorem kk_P_refuse_294 : zz_kV mm_P_refuse mm_D_note 294 3 := ⟨⟨zz_in 572 (by decide +kernel) rfl, zz_in 27 (by decide +kernel) rfl, by decide +kernel, by decide, by decide⟩, rfl, zz_in 569 (by decide +kernel) rfl, zz_in 570 (by decide +kernel) rfl, zz_in 571 (by decide +kernel) rfl⟩
theorem ee_P_refuse_63 : zz_D mm_P_refuse 63 (.new 298) 3 66 := ⟨by decide +kernel, rfl⟩
theorem tw_P_300 : ∀ w ∈ vx_at0 "TurnipPages" 300 "java/lang/UnsupportedOperationException" ["java/lang/RuntimeException", "java/lang/Exception"], w ∈ zz_gw ∨ w ∈ zz_nw := by decide +kernel
theorem to_P_300 : ∀ w ∈ Cond.classLink "TurnipPages" 298 "java/lang/UnsupportedOperationException" :: Cond.initialized "java/lang/UnsupportedOperationException" :: vx_at0 "TurnipPages" 300 "java/lang/UnsupportedOperationException" ["java/lang/RuntimeException", "java/lang/Exception"], vx_ot w = true := by decide +kernel
theorem tt_P_refuse_63 : zz_T mm_P_refuse 63 298 300 "java/lang/UnsupportedOperationException" ["java/lang/RuntimeException", "java/lang/Exception"] := ⟨⟨ee_P_refuse_63.1, by decide +kernel, by decide +kernel, by decide +kernel⟩, by decide +kernel, by decide +kernel, zz_in 573 (by decide +kernel) rfl, zz_in 36 (by decide +kernel) rfl, tw_P_300, to_P_300, by decide, by decide⟩
theorem ee_P_refuse_66 : zz_D mm_P_refuse 66 .dup 1 67 := ⟨by decide +kernel, rfl⟩
theorem ee_P_refuse_67 : zz_D mm_P_refuse 67 (.invokespecial 300) 3 70 := ⟨by decide +kernel, rfl⟩
theorem ee_P_refuse_70 : zz_D mm_P_refuse 70 .athrow 1 71 := ⟨by decide +kernel, rfl⟩
theorem ee_P_refuse_71 : zz_D mm_P_refuse 71 .return_ 1 72 := ⟨by decide +kernel, rfl⟩
theorem ee_P_pagesIn_0 : zz_D mm_P_pagesIn 0 (.aload_n 0) 1 1 := ⟨by decide +kernel, rfl⟩
theorem ee_P_pagesIn_1 : zz_D mm_P_pagesIn 1 (.iload_n 1) 1 2 := ⟨by decide +kernel, rfl⟩
theorem ee_P_pagesIn_2 : zz_D mm_P_pagesIn 2 (.invokevirtual 134) 3 5 := ⟨by decide +kernel, rfl⟩
theorem kk_P_pagesIn_134 : zz_kV mm_P_pagesIn mm_P_requireRoot 134 1 := ⟨⟨zz_in 635 (by decide +kernel) rfl, zz_in 19 (by decide +kernel) rfl, by decide +kernel, by decide, by decide⟩, rfl, zz_in 632 (by decide +kernel) rfl, zz_in 634 (by decide +kernel) rfl, zz_in 4 (by decide +kernel) rfl⟩
theorem ee_P_pagesIn_5 : zz_D mm_P_pagesIn 5 (.aload_n 0) 1 6 := ⟨by decide +kernel, rfl⟩
theorem ee_P_pagesIn_6 : zz_D mm_P_pagesIn 6 (.getfield 35) 3 9 := ⟨by decide +kernel, rfl⟩
theorem ff_P_pagesIn_35 : zz_F mm_P_pagesIn 35 0 4 := ⟨by decide, zz_in 259 (by decide +kernel) rfl⟩
theorem ee_P_pagesIn_9 : zz_D mm_P_pagesIn 9 (.iload_n 1) 1 10 := ⟨by decide +kernel, rfl⟩
theorem ee_P_pagesIn_10 : zz_D mm_P_pagesIn 10 (.invokevirtual 140) 3 13 := ⟨by decide +kernel, rfl⟩
theorem kk_P_pagesIn_140 : zz_kV mm_P_pagesIn mm_S_countPagesIn 140 1 := ⟨⟨zz_in 640 (by decide +kernel) rfl, zz_in 23 (by decide +kernel) rfl, by decide +kernel, by decide, by decide⟩, rfl, zz_in 637 (by decide +kernel) rfl, zz_in 638 (by decide +kernel) rfl, zz_in 639 (by decide +kernel) rfl⟩
theorem ee_P_pagesIn_13 : zz_D mm_P_pagesIn 13 .ireturn 1 14 := ⟨by decide +kernel, rfl⟩
theorem ee_P_requireRoot_0 : zz_D mm_P_requireRoot 0 (.aload_n 0) 1 1 := ⟨by decide +kernel, rfl⟩
theorem ee_P_requireRoot_1 : zz_D mm_P_requireRoot 1 (.getfield 35) 3 4 := ⟨by decide +kernel, rfl⟩
theorem ff_P_requireRoot_35 : zz_F mm_P_requireRoot 35 0 4 := ⟨by decide, zz_in 259 (by decide +kernel) rfl⟩
theorem ee_P_requireRoot_4 : zz_D mm_P_requireRoot 4 (.iload_n 1) 1 5 := ⟨by decide +kernel, rfl⟩
theorem ee_P_requireRoot_5 : zz_D mm_P_requireRoot 5 (.invokevirtual 325) 3 8 := ⟨by decide +kernel, rfl⟩
theorem kk_P_requireRoot_325 : zz_kV mm_P_requireRoot mm_S_hasRoot 325 1 := ⟨⟨zz_in 380 (by decide +kernel) rfl, zz_in 23 (by decide +kernel) rfl, by decide +kernel, by decide, by decide⟩, rfl, zz_in 636 (by decide +kernel) rfl, zz_in 378 (by decide +kernel) rfl, zz_in 379 (by decide +kernel) rfl⟩
theorem ee_P_requireRoot_8 : zz_D mm_P_requireRoot 8 (.ifCond .ne 11) 3 11 := ⟨by decide +kernel, rfl⟩
theorem ee_P_requireRoot_11 : zz_D mm_P_requireRoot 11 (.new 188) 3 14 := ⟨by decide +kernel, rfl⟩
theorem tt_P_requireRoot_11 : zz_T mm_P_requireRoot 11 188 190 "java/lang/IndexOutOfBoundsException" ["java/lang/RuntimeException", "java/lang/Exception"] := ⟨⟨ee_P_requireRoot_11.1, by decide +kernel, by decide +kernel, by decide +kernel⟩, by decide +kernel, by decide +kernel, zz_in 554 (by decide +kernel) rfl, zz_in 34 (by decide +kernel) rfl, tw_P_190, to_P_190, by decide, by decide⟩
theorem ee_P_requireRoot_14 : zz_D mm_P_requireRoot 14 .dup 1 15 := ⟨by decide +kernel, rfl⟩
theorem ee_P_requireRoot_15 : zz_D mm_P_requireRoot 15 (.invokespecial 190) 3 18 := ⟨by decide +kernel, rfl⟩
theorem ee_P_requireRoot_18 : zz_D mm_P_requireRoot 18 .athrow 1 19 := ⟨by decide +kernel, rfl⟩
theorem ee_P_requireRoot_19 : zz_D mm_P_requireRoot 19 .return_ 1 20 := ⟨by decide +kernel, rfl⟩
theorem ee_P_carve_0 : zz_D mm_P_carve 0 (.aload_n 0) 1 1 := ⟨by decide +kernel, rfl⟩
theorem ee_P_carve_1 : zz_D mm_P_carve 1 (.getfield 45) 3 4 := ⟨by decide +kernel, rfl⟩
theorem ff_P_carve_45 : zz_F mm_P_carve 45 0 6 := ⟨by decide, zz_in 261 (by decide +kernel) rfl⟩
theorem ee_P_carve_4 : zz_D mm_P_carve 4 (.aload_n 0) 1 5 := ⟨by decide +kernel, rfl⟩
theorem ee_P_carve_5 : zz_D mm_P_carve 5 (.getfield 35) 3 8 := ⟨by decide +kernel, rfl⟩
theorem ff_P_carve_35 : zz_F mm_P_carve 35 0 4 := ⟨by decide, zz_in 259 (by decide +kernel) rfl⟩
theorem ee_P_carve_8 : zz_D mm_P_carve 8 (.invokevirtual 117) 3 11 := ⟨by decide +kernel, rfl⟩
theorem kk_P_carve_117 : zz_kV mm_P_carve mm_H_prepare 117 1 := ⟨⟨zz_in 510 (by decide +kernel) rfl, zz_in 25 (by decide +kernel) rfl, by decide +kernel, by decide, by decide⟩, rfl, zz_in 507 (by decide +kernel) rfl, zz_in 508 (by decide +kernel) rfl, zz_in 509 (by decide +kernel) rfl⟩
theorem ee_P_carve_11 : zz_D mm_P_carve 11 (.aload_n 0) 1 12 := ⟨by decide +kernel, rfl⟩
theorem ee_P_carve_12 : zz_D mm_P_carve 12 (.aload_n 0) 1 13 := ⟨by decide +kernel, rfl⟩
theorem ee_P_carve_13 : zz_D mm_P_carve 13 (.getfield 27) 3 16 := ⟨by decide +kernel, rfl⟩
theorem ff_P_carve_27 : zz_F mm_P_carve 27 0 3 := ⟨by decide, zz_in 258 (by decide +kernel) rfl⟩
theorem ee_P_carve_16 : zz_D mm_P_carve 16 (.iload_n 1) 1 17 := ⟨by decide +kernel, rfl⟩
theorem ee_P_carve_17 : zz_D mm_P_carve 17 (.iload_n 2) 1 18 := ⟨by decide +kernel, rfl⟩
theorem ee_P_carve_18 : zz_D mm_P_carve 18 (.aload_n 0) 1 19 := ⟨by decide +kernel, rfl⟩
theorem ee_P_carve_19 : zz_D mm_P_carve 19 (.getfield 14) 3 22 := ⟨by decide +kernel, rfl⟩
theorem ff_P_carve_14 : zz_F mm_P_carve 14 0 0 := ⟨by decide, zz_in 255 (by decide +kernel) rfl⟩
theorem ee_P_carve_22 : zz_D mm_P_carve 22 (.invokevirtual 150) 3 25 := ⟨by decide +kernel, rfl⟩
theorem kk_P_carve_150 : zz_kV mm_P_carve mm_V_carveText 150 3 := ⟨⟨zz_in 651 (by decide +kernel) rfl, zz_in 22 (by decide +kernel) rfl, by decide +kernel, by decide, by decide⟩, rfl, zz_in 648 (by decide +kernel) rfl, zz_in 649 (by decide +kernel) rfl, zz_in 650 (by decide +kernel) rfl⟩
theorem ee_P_carve_25 : zz_D mm_P_carve 25 (.invokevirtual 125) 3 28 := ⟨by decide +kernel, rfl⟩
theorem kk_P_carve_125 : zz_kV mm_P_carve mm_P_settle 125 1 := ⟨⟨zz_in 534 (by decide +kernel) rfl, zz_in 19 (by decide +kernel) rfl, by decide +kernel, by decide, by decide⟩, rfl, zz_in 531 (by decide +kernel) rfl, zz_in 533 (by decide +kernel) rfl, zz_in 2 (by decide +kernel) rfl⟩
theorem ee_P_carve_28 : zz_D mm_P_carve 28 (.istore_n 3) 1 29 := ⟨by decide +kernel, rfl⟩
theorem ee_P_carve_29 : zz_D mm_P_carve 29 (.aload_n 0) 1 30 := ⟨by decide +kernel, rfl⟩
theorem ee_P_carve_30 : zz_D mm_P_carve 30 (.getfield 14) 3 33 := ⟨by decide +kernel, rfl⟩
theorem ee_P_carve_33 : zz_D mm_P_carve 33 (.invokevirtual 92) 3 36 := ⟨by decide +kernel, rfl⟩
theorem kk_P_carve_92 : zz_kV mm_P_carve mm_T_clear 92 0 := ⟨⟨zz_in 296 (by decide +kernel) rfl, zz_in 20 (by decide +kernel) rfl, by decide +kernel, by decide, by decide⟩, rfl, zz_in 293 (by decide +kernel) rfl, zz_in 294 (by decide +kernel) rfl, zz_in 295 (by decide +kernel) rfl⟩
theorem ee_P_carve_36 : zz_D mm_P_carve 36 (.iload_n 3) 1 37 := ⟨by decide +kernel, rfl⟩
theorem ee_P_carve_37 : zz_D mm_P_carve 37 .ireturn 1 38 := ⟨by decide +kernel, rfl⟩
theorem ee_P_drop_0 : zz_D mm_P_drop 0 (.aload_n 0) 1 1 := ⟨by decide +kernel, rfl⟩
theorem ee_P_drop_1 : zz_D mm_P_drop 1 (.getfield 45) 3 4 := ⟨by decide +kernel, rfl⟩
theorem ff_P_drop_45 : zz_F mm_P_drop 45 0 6 := ⟨by decide, zz_in 261 (by decide +kernel) rfl⟩
theorem ee_P_drop_4 : zz_D mm_P_drop 4 (.aload_n 0) 1 5 := ⟨by decide +kernel, rfl⟩
theorem ee_P_drop_5 : zz_D mm_P_drop 5 (.getfield 35) 3 8 := ⟨by decide +kernel, rfl⟩
theorem ff_P_drop_35 : zz_F mm_P_drop 35 0 4 := ⟨by decide, zz_in 259 (by decide +kernel) rfl⟩
theorem ee_P_drop_8 : zz_D mm_P_drop 8 (.invokevirtual 117) 3 11 := ⟨by decide +kernel, rfl⟩
theorem kk_P_drop_117 : zz_kV mm_P_drop mm_H_prepare 117 1 := ⟨⟨zz_in 510 (by decide +kernel) rfl, zz_in 25 (by decide +kernel) rfl, by decide +kernel, by decide, by decide⟩, rfl, zz_in 507 (by decide +kernel) rfl, zz_in 508 (by decide +kernel) rfl, zz_in 509 (by decide +kernel) rfl⟩
theorem ee_P_drop_11 : zz_D mm_P_drop 11 (.aload_n 0) 1 12 := ⟨by decide +kernel, rfl⟩
theorem ee_P_drop_12 : zz_D mm_P_drop 12 (.aload_n 0) 1 13 := ⟨by decide +kernel, rfl⟩
theorem ee_P_drop_13 : zz_D mm_P_drop 13 (.getfield 27) 3 16 := ⟨by decide +kernel, rfl⟩
theorem ff_P_drop_27 : zz_F mm_P_drop 27 0 3 := ⟨by decide, zz_in 258 (by decide +kernel) rfl⟩
theorem ee_P_drop_16 : zz_D mm_P_drop 16 (.iload_n 1) 1 17 := ⟨by decide +kernel, rfl⟩
theorem ee_P_drop_17 : zz_D mm_P_drop 17 (.invokevirtual 165) 3 20 := ⟨by decide +kernel, rfl⟩
theorem kk_P_drop_165 : zz_kV mm_P_drop mm_V_dropTelegram 165 1 := ⟨⟨zz_in 685 (by decide +kernel) rfl, zz_in 22 (by decide +kernel) rfl, by decide +kernel, by decide, by decide⟩, rfl, zz_in 682 (by decide +kernel) rfl, zz_in 683 (by decide +kernel) rfl, zz_in 684 (by decide +kernel) rfl⟩
theorem ee_P_drop_20 : zz_D mm_P_drop 20 (.invokevirtual 125) 3 23 := ⟨by decide +kernel, rfl⟩
theorem kk_P_drop_125 : zz_kV mm_P_drop mm_P_settle 125 1 := ⟨⟨zz_in 534 (by decide +kernel) rfl, zz_in 19 (by decide +kernel) rfl, by decide +kernel, by decide, by decide⟩, rfl, zz_in 531 (by decide +kernel) rfl, zz_in 533 (by decide +kernel) rfl, zz_in 2 (by decide +kernel) rfl⟩
theorem ee_P_drop_23 : zz_D mm_P_drop 23 .ireturn 1 24 := ⟨by decide +kernel, rfl⟩
theorem ee_P_age_0 : zz_D mm_P_age 0 (.aload_n 0) 1 1 := ⟨by decide +kernel, rfl⟩
theorem ee_P_age_1 : zz_D mm_P_age 1 (.getfield 45) 3 4 := ⟨by decide +kernel, rfl⟩
theorem ff_P_age_45 : zz_F mm_P_age 45 0 6 := ⟨by decide, zz_in 261 (by decide +kernel) rfl⟩
theorem ee_P_age_4 : zz_D mm_P_age 4 (.aload_n 0) 1 5 := ⟨by decide +kernel, rfl⟩
theorem ee_P_age_5 : zz_D mm_P_age 5 (.getfield 35) 3 8 := ⟨by decide +kernel, rfl⟩
theorem ff_P_age_35 : zz_F mm_P_age 35 0 4 := ⟨by decide, zz_in 259 (by decide +kernel) rfl⟩
theorem ee_P_age_8 : zz_D mm_P_age 8 (.invokevirtual 117) 3 11 := ⟨by decide +kernel, rfl⟩
theorem kk_P_age_117 : zz_kV mm_P_age mm_H_prepare 117 1 := ⟨⟨zz_in 510 (by decide +kernel) rfl, zz_in 25 (by decide +kernel) rfl, by decide +kernel, by decide, by decide⟩, rfl, zz_in 507 (by decide +kernel) rfl, zz_in 508 (by decide +kernel) rfl, zz_in 509 (by decide +kernel) rfl⟩
theorem ee_P_age_11 : zz_D mm_P_age 11 (.aload_n 0) 1 12 := ⟨by decide +kernel, rfl⟩
theorem ee_P_age_12 : zz_D mm_P_age 12 (.aload_n 0) 1 13 := ⟨by decide +kernel, rfl⟩
theorem ee_P_age_13 : zz_D mm_P_age 13 (.getfield 27) 3 16 := ⟨by decide +kernel, rfl⟩
theorem ff_P_age_27 : zz_F mm_P_age 27 0 3 := ⟨by decide, zz_in 258 (by decide +kernel) rfl⟩
theorem ee_P_age_16 : zz_D mm_P_age 16 (.iload_n 1) 1 17 := ⟨by decide +kernel, rfl⟩
theorem ee_P_age_17 : zz_D mm_P_age 17 (.invokevirtual 232) 3 20 := ⟨by decide +kernel, rfl⟩
theorem kk_P_age_232 : zz_kV mm_P_age mm_V_passDays 232 1 := ⟨⟨zz_in 704 (by decide +kernel) rfl, zz_in 22 (by decide +kernel) rfl, by decide +kernel, by decide, by decide⟩, rfl, zz_in 701 (by decide +kernel) rfl, zz_in 702 (by decide +kernel) rfl, zz_in 703 (by decide +kernel) rfl⟩
theorem ee_P_age_20 : zz_D mm_P_age 20 (.invokevirtual 125) 3 23 := ⟨by decide +kernel, rfl⟩
theorem kk_P_age_125 : zz_kV mm_P_age mm_P_settle 125 1 := ⟨⟨zz_in 534 (by decide +kernel) rfl, zz_in 19 (by decide +kernel) rfl, by decide +kernel, by decide, by decide⟩, rfl, zz_in 531 (by decide +kernel) rfl, zz_in 533 (by decide +kernel) rfl, zz_in 2 (by decide +kernel) rfl⟩
theorem ee_P_age_23 : zz_D mm_P_age 23 .ireturn 1 24 := ⟨by decide +kernel, rfl⟩
theorem ee_P_rotOf_0 : zz_D mm_P_rotOf 0 (.aload_n 0) 1 1 := ⟨by decide +kernel, rfl⟩
theorem ee_P_rotOf_1 : zz_D mm_P_rotOf 1 (.iload_n 1) 1 2 := ⟨by decide +kernel, rfl⟩
theorem ee_P_rotOf_2 : zz_D mm_P_rotOf 2 (.invokevirtual 205) 3 5 := ⟨by decide +kernel, rfl⟩
theorem kk_P_rotOf_205 : zz_kV mm_P_rotOf mm_P_requireTelegram 205 1 := ⟨⟨zz_in 725 (by decide +kernel) rfl, zz_in 19 (by decide +kernel) rfl, by decide +kernel, by decide, by decide⟩, rfl, zz_in 722 (by decide +kernel) rfl, zz_in 724 (by decide +kernel) rfl, zz_in 6 (by decide +kernel) rfl⟩
theorem ee_P_rotOf_5 : zz_D mm_P_rotOf 5 (.astore_n 3) 1 6 := ⟨by decide +kernel, rfl⟩
theorem ee_P_rotOf_6 : zz_D mm_P_rotOf 6 (.aload_n 3) 1 7 := ⟨by decide +kernel, rfl⟩
theorem ee_P_rotOf_7 : zz_D mm_P_rotOf 7 (.iload_n 2) 1 8 := ⟨by decide +kernel, rfl⟩
theorem ee_P_rotOf_8 : zz_D mm_P_rotOf 8 (.invokevirtual 238) 3 11 := ⟨by decide +kernel, rfl⟩
theorem kk_P_rotOf_238 : zz_kV mm_P_rotOf mm_G_hasPage 238 1 := ⟨⟨zz_in 733 (by decide +kernel) rfl, zz_in 24 (by decide +kernel) rfl, by decide +kernel, by decide, by decide⟩, rfl, zz_in 730 (by decide +kernel) rfl, zz_in 731 (by decide +kernel) rfl, zz_in 732 (by decide +kernel) rfl⟩
theorem ee_P_rotOf_11 : zz_D mm_P_rotOf 11 (.ifCond .ne 11) 3 14 := ⟨by decide +kernel, rfl⟩
theorem ee_P_rotOf_14 : zz_D mm_P_rotOf 14 (.new 188) 3 17 := ⟨by decide +kernel, rfl⟩
theorem tt_P_rotOf_14 : zz_T mm_P_rotOf 14 188 190 "java/lang/IndexOutOfBoundsException" ["java/lang/RuntimeException", "java/lang/Exception"] := ⟨⟨ee_P_rotOf_14.1, by decide +kernel, by decide +kernel, by decide +kernel⟩, by decide +kernel, by decide +kernel, zz_in 554 (by decide +kernel) rfl, zz_in 34 (by decide +kernel) rfl, tw_P_190, to_P_190, by decide, by decide⟩
theorem ee_P_rotOf_17 : zz_D mm_P_rotOf 17 .dup 1 18 := ⟨by decide +kernel, rfl⟩
theorem ee_P_rotOf_18 : zz_D mm_P_rotOf 18 (.invokespecial 190) 3 21 := ⟨by decide +kernel, rfl⟩
theorem ee_P_rotOf_21 : zz_D mm_P_rotOf 21 .athrow 1 22 := ⟨by decide +kernel, rfl⟩
theorem ee_P_rotOf_22 : zz_D mm_P_rotOf 22 (.aload_n 3) 1 23 := ⟨by decide +kernel, rfl⟩
theorem ee_P_rotOf_23 : zz_D mm_P_rotOf 23 (.iload_n 2) 1 24 := ⟨by decide +kernel, rfl⟩
theorem ee_P_rotOf_24 : zz_D mm_P_rotOf 24 (.invokevirtual 241) 3 27 := ⟨by decide +kernel, rfl⟩
theorem kk_P_rotOf_241 : zz_kV mm_P_rotOf mm_G_rotAt 241 1 := ⟨⟨zz_in 737 (by decide +kernel) rfl, zz_in 24 (by decide +kernel) rfl, by decide +kernel, by decide, by decide⟩, rfl, zz_in 734 (by decide +kernel) rfl, zz_in 735 (by decide +kernel) rfl, zz_in 736 (by decide +kernel) rfl⟩
theorem ee_P_rotOf_27 : zz_D mm_P_rotOf 27 .ireturn 1 28 := ⟨by decide +kernel, rfl⟩
theorem ee_P_requireTelegram_0 : zz_D mm_P_requireTelegram 0 (.aload_n 0) 1 1 := ⟨by decide +kernel, rfl⟩
theorem ee_P_requireTelegram_1 : zz_D mm_P_requireTelegram 1 (.getfield 35) 3 4 := ⟨by decide +kernel, rfl⟩
theorem ff_P_requireTelegram_35 : zz_F mm_P_requireTelegram 35 0 4 := ⟨by decide, zz_in 259 (by decide +kernel) rfl⟩
theorem ee_P_requireTelegram_4 : zz_D mm_P_requireTelegram 4 (.iload_n 1) 1 5 := ⟨by decide +kernel, rfl⟩
theorem ee_P_requireTelegram_5 : zz_D mm_P_requireTelegram 5 (.invokevirtual 328) 3 8 := ⟨by decide +kernel, rfl⟩
theorem kk_P_requireTelegram_328 : zz_kV mm_P_requireTelegram mm_S_find 328 1 := ⟨⟨zz_in 729 (by decide +kernel) rfl, zz_in 23 (by decide +kernel) rfl, by decide +kernel, by decide, by decide⟩, rfl, zz_in 726 (by decide +kernel) rfl, zz_in 727 (by decide +kernel) rfl, zz_in 728 (by decide +kernel) rfl⟩
theorem ee_P_requireTelegram_8 : zz_D mm_P_requireTelegram 8 (.astore_n 2) 1 9 := ⟨by decide +kernel, rfl⟩
theorem ee_P_requireTelegram_9 : zz_D mm_P_requireTelegram 9 (.aload_n 2) 1 10 := ⟨by decide +kernel, rfl⟩
theorem ee_P_requireTelegram_10 : zz_D mm_P_requireTelegram 10 (.ifnonnull 11) 3 13 := ⟨by decide +kernel, rfl⟩
theorem ee_P_requireTelegram_13 : zz_D mm_P_requireTelegram 13 (.new 147) 3 16 := ⟨by decide +kernel, rfl⟩
theorem tt_P_requireTelegram_13 : zz_T mm_P_requireTelegram 13 147 149 "java/util/NoSuchElementException" ["java/lang/RuntimeException", "java/lang/Exception"] := ⟨⟨ee_P_requireTelegram_13.1, by decide +kernel, by decide +kernel, by decide +kernel⟩, by decide +kernel, by decide +kernel, zz_in 539 (by decide +kernel) rfl, zz_in 33 (by decide +kernel) rfl, tw_P_149, to_P_149, by decide, by decide⟩
theorem ee_P_requireTelegram_16 : zz_D mm_P_requireTelegram 16 .dup 1 17 := ⟨by decide +kernel, rfl⟩
theorem ee_P_requireTelegram_17 : zz_D mm_P_requireTelegram 17 (.invokespecial 149) 3 20 := ⟨by decide +kernel, rfl⟩
theorem ee_P_requireTelegram_20 : zz_D mm_P_requireTelegram 20 .athrow 1 21 := ⟨by decide +kernel, rfl⟩
theorem ee_P_requireTelegram_21 : zz_D mm_P_requireTelegram 21 (.aload_n 2) 1 22 := ⟨by decide +kernel, rfl⟩
theorem ee_P_requireTelegram_22 : zz_D mm_P_requireTelegram 22 .areturn 1 23 := ⟨by decide +kernel, rfl⟩
theorem ee_P_feed_0 : zz_D mm_P_feed 0 (.aload_n 0) 1 1 := ⟨by decide +kernel, rfl⟩
theorem ee_P_feed_1 : zz_D mm_P_feed 1 (.getfield 18) 3 4 := ⟨by decide +kernel, rfl⟩
theorem ff_P_feed_18 : zz_F mm_P_feed 18 0 1 := ⟨by decide, zz_in 256 (by decide +kernel) rfl⟩
theorem ee_P_feed_4 : zz_D mm_P_feed 4 (.invokevirtual 78) 3 7 := ⟨by decide +kernel, rfl⟩
theorem kk_P_feed_78 : zz_kV mm_P_feed mm_T_isFull 78 0 := ⟨⟨zz_in 332 (by decide +kernel) rfl, zz_in 20 (by decide +kernel) rfl, by decide +kernel, by decide, by decide⟩, rfl, zz_in 482 (by decide +kernel) rfl, zz_in 330 (by decide +kernel) rfl, zz_in 331 (by decide +kernel) rfl⟩
theorem ee_P_feed_7 : zz_D mm_P_feed 7 (.ifCond .eq 11) 3 10 := ⟨by decide +kernel, rfl⟩
theorem ee_P_feed_10 : zz_D mm_P_feed 10 (.new 82) 3 13 := ⟨by decide +kernel, rfl⟩
theorem tt_P_feed_10 : zz_T mm_P_feed 10 82 84 "java/lang/IllegalStateException" ["java/lang/RuntimeException", "java/lang/Exception"] := ⟨⟨ee_P_feed_10.1, by decide +kernel, by decide +kernel, by decide +kernel⟩, by decide +kernel, by decide +kernel, zz_in 483 (by decide +kernel) rfl, zz_in 31 (by decide +kernel) rfl, tw_P_84, to_P_84, by decide, by decide⟩
theorem ee_P_feed_13 : zz_D mm_P_feed 13 .dup 1 14 := ⟨by decide +kernel, rfl⟩
theorem ee_P_feed_14 : zz_D mm_P_feed 14 (.invokespecial 84) 3 17 := ⟨by decide +kernel, rfl⟩
theorem ee_P_feed_17 : zz_D mm_P_feed 17 .athrow 1 18 := ⟨by decide +kernel, rfl⟩
theorem ee_P_feed_18 : zz_D mm_P_feed 18 (.aload_n 0) 1 19 := ⟨by decide +kernel, rfl⟩
theorem ee_P_feed_19 : zz_D mm_P_feed 19 (.getfield 18) 3 22 := ⟨by decide +kernel, rfl⟩
theorem ee_P_feed_22 : zz_D mm_P_feed 22 (.iload_n 1) 1 23 := ⟨by decide +kernel, rfl⟩
theorem ee_P_feed_23 : zz_D mm_P_feed 23 (.invokevirtual 85) 3 26 := ⟨by decide +kernel, rfl⟩
theorem kk_P_feed_85 : zz_kV mm_P_feed mm_T_add 85 1 := ⟨⟨zz_in 328 (by decide +kernel) rfl, zz_in 20 (by decide +kernel) rfl, by decide +kernel, by decide, by decide⟩, rfl, zz_in 498 (by decide +kernel) rfl, zz_in 326 (by decide +kernel) rfl, zz_in 327 (by decide +kernel) rfl⟩
theorem ee_P_feed_26 : zz_D mm_P_feed 26 (.aload_n 0) 1 27 := ⟨by decide +kernel, rfl⟩
theorem ee_P_feed_27 : zz_D mm_P_feed 27 (.getfield 18) 3 30 := ⟨by decide +kernel, rfl⟩
theorem ee_P_feed_30 : zz_D mm_P_feed 30 (.getfield 89) 3 33 := ⟨by decide +kernel, rfl⟩
theorem ff_P_feed_89 : zz_F mm_P_feed 89 7 1 := ⟨by decide, zz_in 73 (by decide +kernel) rfl⟩
theorem ee_P_feed_33 : zz_D mm_P_feed 33 .ireturn 1 34 := ⟨by decide +kernel, rfl⟩
theorem ee_P_execute_0 : zz_D mm_P_execute 0 (.aload_n 0) 1 1 := ⟨by decide +kernel, rfl⟩
theorem ee_P_execute_1 : zz_D mm_P_execute 1 (.getfield 52) 3 4 := ⟨by decide +kernel, rfl⟩
theorem ff_P_execute_52 : zz_F mm_P_execute 52 0 7 := ⟨by decide, zz_in 262 (by decide +kernel) rfl⟩
theorem ee_P_execute_4 : zz_D mm_P_execute 4 (.aload_n 0) 1 5 := ⟨by decide +kernel, rfl⟩
theorem ee_P_execute_5 : zz_D mm_P_execute 5 (.getfield 18) 3 8 := ⟨by decide +kernel, rfl⟩
theorem ff_P_execute_18 : zz_F mm_P_execute 18 0 1 := ⟨by decide, zz_in 256 (by decide +kernel) rfl⟩
theorem ee_P_execute_8 : zz_D mm_P_execute 8 (.invokevirtual 266) 3 11 := ⟨by decide +kernel, rfl⟩
theorem kk_P_execute_266 : zz_kV mm_P_execute mm_C_parse 266 1 := ⟨⟨zz_in 756 (by decide +kernel) rfl, zz_in 26 (by decide +kernel) rfl, by decide +kernel, by decide, by decide⟩, rfl, zz_in 753 (by decide +kernel) rfl, zz_in 754 (by decide +kernel) rfl, zz_in 755 (by decide +kernel) rfl⟩
theorem ee_P_execute_11 : zz_D mm_P_execute 11 (.istore_n 1) 1 12 := ⟨by decide +kernel, rfl⟩
theorem ee_P_execute_12 : zz_D mm_P_execute 12 (.aload_n 0) 1 13 := ⟨by decide +kernel, rfl⟩
theorem ee_P_execute_13 : zz_D mm_P_execute 13 (.getfield 18) 3 16 := ⟨by decide +kernel, rfl⟩
theorem ee_P_execute_16 : zz_D mm_P_execute 16 (.invokevirtual 92) 3 19 := ⟨by decide +kernel, rfl⟩
theorem kk_P_execute_92 : zz_kV mm_P_execute mm_T_clear 92 0 := ⟨⟨zz_in 296 (by decide +kernel) rfl, zz_in 20 (by decide +kernel) rfl, by decide +kernel, by decide, by decide⟩, rfl, zz_in 293 (by decide +kernel) rfl, zz_in 294 (by decide +kernel) rfl, zz_in 295 (by decide +kernel) rfl⟩
theorem ee_P_execute_19 : zz_D mm_P_execute 19 (.iload_n 1) 1 20 := ⟨by decide +kernel, rfl⟩
theorem ee_P_execute_20 : zz_D mm_P_execute 20 (.iconst (-1)) 1 21 := ⟨by decide +kernel, rfl⟩
theorem ee_P_execute_21 : zz_D mm_P_execute 21 (.if_icmp .eq 16) 3 24 := ⟨by decide +kernel, rfl⟩
theorem ee_P_execute_24 : zz_D mm_P_execute 24 (.aload_n 0) 1 25 := ⟨by decide +kernel, rfl⟩
theorem ee_P_execute_25 : zz_D mm_P_execute 25 (.iload_n 1) 1 26 := ⟨by decide +kernel, rfl⟩
theorem ee_P_execute_26 : zz_D mm_P_execute 26 (.putfield 67) 3 29 := ⟨by decide +kernel, rfl⟩
theorem ff_P_execute_67 : zz_F mm_P_execute 67 0 10 := ⟨by decide, zz_in 265 (by decide +kernel) rfl⟩
theorem ee_P_execute_29 : zz_D mm_P_execute 29 (.new 75) 3 32 := ⟨by decide +kernel, rfl⟩
theorem tt_P_execute_29 : zz_T mm_P_execute 29 75 77 "java/lang/IllegalArgumentException" ["java/lang/RuntimeException", "java/lang/Exception"] := ⟨⟨ee_P_execute_29.1, by decide +kernel, by decide +kernel, by decide +kernel⟩, by decide +kernel, by decide +kernel, zz_in 414 (by decide +kernel) rfl, zz_in 35 (by decide +kernel) rfl, tw_P_77, to_P_77, by decide, by decide⟩
theorem ee_P_execute_32 : zz_D mm_P_execute 32 .dup 1 33 := ⟨by decide +kernel, rfl⟩
theorem ee_P_execute_33 : zz_D mm_P_execute 33 (.invokespecial 77) 3 36 := ⟨by decide +kernel, rfl⟩
theorem ee_P_execute_36 : zz_D mm_P_execute 36 .athrow 1 37 := ⟨by decide +kernel, rfl⟩
theorem ee_P_execute_37 : zz_D mm_P_execute 37 (.aload_n 0) 1 38 := ⟨by decide +kernel, rfl⟩
theorem ee_P_execute_38 : zz_D mm_P_execute 38 (.getfield 45) 3 41 := ⟨by decide +kernel, rfl⟩
theorem ff_P_execute_45 : zz_F mm_P_execute 45 0 6 := ⟨by decide, zz_in 261 (by decide +kernel) rfl⟩
theorem ee_P_execute_41 : zz_D mm_P_execute 41 (.aload_n 0) 1 42 := ⟨by decide +kernel, rfl⟩
theorem ee_P_execute_42 : zz_D mm_P_execute 42 (.getfield 35) 3 45 := ⟨by decide +kernel, rfl⟩
theorem ff_P_execute_35 : zz_F mm_P_execute 35 0 4 := ⟨by decide, zz_in 259 (by decide +kernel) rfl⟩
theorem ee_P_execute_45 : zz_D mm_P_execute 45 (.invokevirtual 117) 3 48 := ⟨by decide +kernel, rfl⟩
theorem kk_P_execute_117 : zz_kV mm_P_execute mm_H_prepare 117 1 := ⟨⟨zz_in 510 (by decide +kernel) rfl, zz_in 25 (by decide +kernel) rfl, by decide +kernel, by decide, by decide⟩, rfl, zz_in 507 (by decide +kernel) rfl, zz_in 508 (by decide +kernel) rfl, zz_in 509 (by decide +kernel) rfl⟩
theorem ee_P_execute_48 : zz_D mm_P_execute 48 (.iconst 0) 1 49 := ⟨by decide +kernel, rfl⟩
theorem ee_P_execute_49 : zz_D mm_P_execute 49 (.istore_n 2) 1 50 := ⟨by decide +kernel, rfl⟩
theorem ee_P_execute_50 : zz_D mm_P_execute 50 (.iload_n 2) 1 51 := ⟨by decide +kernel, rfl⟩
theorem ee_P_execute_51 : zz_D mm_P_execute 51 (.aload_n 0) 1 52 := ⟨by decide +kernel, rfl⟩
theorem ee_P_execute_52 : zz_D mm_P_execute 52 (.getfield 52) 3 55 := ⟨by decide +kernel, rfl⟩
theorem ee_P_execute_55 : zz_D mm_P_execute 55 (.getfield 269) 3 58 := ⟨by decide +kernel, rfl⟩
theorem ff_P_execute_269 : zz_F mm_P_execute 269 2 4 := ⟨by decide, zz_in 224 (by decide +kernel) rfl⟩
theorem ee_P_execute_58 : zz_D mm_P_execute 58 (.if_icmp .ge 81) 3 61 := ⟨by decide +kernel, rfl⟩
theorem ee_P_execute_61 : zz_D mm_P_execute 61 (.aload_n 0) 1 62 := ⟨by decide +kernel, rfl⟩
theorem ee_P_execute_62 : zz_D mm_P_execute 62 (.getfield 27) 3 65 := ⟨by decide +kernel, rfl⟩
theorem ff_P_execute_27 : zz_F mm_P_execute 27 0 3 := ⟨by decide, zz_in 258 (by decide +kernel) rfl⟩
theorem ee_P_execute_65 : zz_D mm_P_execute 65 (.aload_n 0) 1 66 := ⟨by decide +kernel, rfl⟩
theorem ee_P_execute_66 : zz_D mm_P_execute 66 (.getfield 52) 3 69 := ⟨by decide +kernel, rfl⟩
theorem ee_P_execute_69 : zz_D mm_P_execute 69 (.iload_n 2) 1 70 := ⟨by decide +kernel, rfl⟩
theorem ee_P_execute_70 : zz_D mm_P_execute 70 (.invokevirtual 272) 3 73 := ⟨by decide +kernel, rfl⟩
theorem kk_P_execute_272 : zz_kV mm_P_execute mm_C_kindOf 272 1 := ⟨⟨zz_in 848 (by decide +kernel) rfl, zz_in 26 (by decide +kernel) rfl, by decide +kernel, by decide, by decide⟩, rfl, zz_in 845 (by decide +kernel) rfl, zz_in 846 (by decide +kernel) rfl, zz_in 847 (by decide +kernel) rfl⟩
theorem ee_P_execute_73 : zz_D mm_P_execute 73 (.aload_n 0) 1 74 := ⟨by decide +kernel, rfl⟩
theorem ee_P_execute_74 : zz_D mm_P_execute 74 (.getfield 52) 3 77 := ⟨by decide +kernel, rfl⟩
theorem ee_P_execute_77 : zz_D mm_P_execute 77 (.iload_n 2) 1 78 := ⟨by decide +kernel, rfl⟩
theorem ee_P_execute_78 : zz_D mm_P_execute 78 (.invokevirtual 275) 3 81 := ⟨by decide +kernel, rfl⟩
theorem kk_P_execute_275 : zz_kV mm_P_execute mm_C_firstOf 275 1 := ⟨⟨zz_in 852 (by decide +kernel) rfl, zz_in 26 (by decide +kernel) rfl, by decide +kernel, by decide, by decide⟩, rfl, zz_in 849 (by decide +kernel) rfl, zz_in 850 (by decide +kernel) rfl, zz_in 851 (by decide +kernel) rfl⟩
theorem ee_P_execute_81 : zz_D mm_P_execute 81 (.aload_n 0) 1 82 := ⟨by decide +kernel, rfl⟩
theorem ee_P_execute_82 : zz_D mm_P_execute 82 (.getfield 52) 3 85 := ⟨by decide +kernel, rfl⟩
theorem ee_P_execute_85 : zz_D mm_P_execute 85 (.iload_n 2) 1 86 := ⟨by decide +kernel, rfl⟩
theorem ee_P_execute_86 : zz_D mm_P_execute 86 (.invokevirtual 278) 3 89 := ⟨by decide +kernel, rfl⟩
theorem kk_P_execute_278 : zz_kV mm_P_execute mm_C_secondOf 278 1 := ⟨⟨zz_in 856 (by decide +kernel) rfl, zz_in 26 (by decide +kernel) rfl, by decide +kernel, by decide, by decide⟩, rfl, zz_in 853 (by decide +kernel) rfl, zz_in 854 (by decide +kernel) rfl, zz_in 855 (by decide +kernel) rfl⟩
theorem ee_P_execute_89 : zz_D mm_P_execute 89 (.invokevirtual 281) 3 92 := ⟨by decide +kernel, rfl⟩
theorem kk_P_execute_281 : zz_kV mm_P_execute mm_V_carryOut 281 3 := ⟨⟨zz_in 860 (by decide +kernel) rfl, zz_in 22 (by decide +kernel) rfl, by decide +kernel, by decide, by decide⟩, rfl, zz_in 857 (by decide +kernel) rfl, zz_in 858 (by decide +kernel) rfl, zz_in 859 (by decide +kernel) rfl⟩
theorem ee_P_execute_92 : zz_D mm_P_execute 92 (.istore_n 3) 1 93 := ⟨by decide +kernel, rfl⟩
theorem ee_P_execute_93 : zz_D mm_P_execute 93 (.iload_n 3) 1 94 := ⟨by decide +kernel, rfl⟩
theorem ee_P_execute_94 : zz_D mm_P_execute 94 (.ifCond .ge 39) 3 97 := ⟨by decide +kernel, rfl⟩
theorem ee_P_execute_97 : zz_D mm_P_execute 97 (.aload_n 0) 1 98 := ⟨by decide +kernel, rfl⟩
theorem ee_P_execute_98 : zz_D mm_P_execute 98 (.getfield 35) 3 101 := ⟨by decide +kernel, rfl⟩
theorem ee_P_execute_101 : zz_D mm_P_execute 101 (.aload_n 0) 1 102 := ⟨by decide +kernel, rfl⟩
theorem ee_P_execute_102 : zz_D mm_P_execute 102 (.getfield 45) 3 105 := ⟨by decide +kernel, rfl⟩
theorem ee_P_execute_105 : zz_D mm_P_execute 105 (.invokevirtual 285) 3 108 := ⟨by decide +kernel, rfl⟩
theorem kk_P_execute_285 : zz_kV mm_P_execute mm_H_spare 285 0 := ⟨⟨zz_in 514 (by decide +kernel) rfl, zz_in 25 (by decide +kernel) rfl, by decide +kernel, by decide, by decide⟩, rfl, zz_in 892 (by decide +kernel) rfl, zz_in 512 (by decide +kernel) rfl, zz_in 513 (by decide +kernel) rfl⟩
theorem ee_P_execute_108 : zz_D mm_P_execute 108 (.invokevirtual 289) 3 111 := ⟨by decide +kernel, rfl⟩
theorem kk_P_execute_289 : zz_kV mm_P_execute mm_S_copyFrom 289 1 := ⟨⟨zz_in 372 (by decide +kernel) rfl, zz_in 23 (by decide +kernel) rfl, by decide +kernel, by decide, by decide⟩, rfl, zz_in 369 (by decide +kernel) rfl, zz_in 370 (by decide +kernel) rfl, zz_in 371 (by decide +kernel) rfl⟩
theorem ee_P_execute_111 : zz_D mm_P_execute 111 (.aload_n 0) 1 112 := ⟨by decide +kernel, rfl⟩
theorem ee_P_execute_112 : zz_D mm_P_execute 112 (.getfield 59) 3 115 := ⟨by decide +kernel, rfl⟩
theorem ff_P_execute_59 : zz_F mm_P_execute 59 0 8 := ⟨by decide, zz_in 263 (by decide +kernel) rfl⟩
theorem ee_P_execute_115 : zz_D mm_P_execute 115 (.bipush 7) 2 117 := ⟨by decide +kernel, rfl⟩
theorem ee_P_execute_117 : zz_D mm_P_execute 117 (.iload_n 2) 1 118 := ⟨by decide +kernel, rfl⟩
theorem ee_P_execute_118 : zz_D mm_P_execute 118 (.iload_n 3) 1 119 := ⟨by decide +kernel, rfl⟩
theorem ee_P_execute_119 : zz_D mm_P_execute 119 (.invokestatic 291) 3 122 := ⟨by decide +kernel, rfl⟩
theorem kk_P_execute_291 : zz_kS mm_P_execute mm_P_causeOf 291 1 := ⟨⟨zz_in 895 (by decide +kernel) rfl, zz_in 19 (by decide +kernel) rfl, by decide +kernel, by decide, by decide⟩, rfl, zz_in 893 (by decide +kernel) rfl, zz_in 894 (by decide +kernel) rfl⟩
theorem ee_P_execute_122 : zz_D mm_P_execute 122 (.invokevirtual 294) 3 125 := ⟨by decide +kernel, rfl⟩
theorem kk_P_execute_294 : zz_kV mm_P_execute mm_D_note 294 3 := ⟨⟨zz_in 572 (by decide +kernel) rfl, zz_in 27 (by decide +kernel) rfl, by decide +kernel, by decide, by decide⟩, rfl, zz_in 569 (by decide +kernel) rfl, zz_in 570 (by decide +kernel) rfl, zz_in 571 (by decide +kernel) rfl⟩
theorem ee_P_execute_125 : zz_D mm_P_execute 125 (.new 298) 3 128 := ⟨by decide +kernel, rfl⟩
theorem tt_P_execute_125 : zz_T mm_P_execute 125 298 300 "java/lang/UnsupportedOperationException" ["java/lang/RuntimeException", "java/lang/Exception"] := ⟨⟨ee_P_execute_125.1, by decide +kernel, by decide +kernel, by decide +kernel⟩, by decide +kernel, by decide +kernel, zz_in 573 (by decide +kernel) rfl, zz_in 36 (by decide +kernel) rfl, tw_P_300, to_P_300, by decide, by decide⟩
theorem ee_P_execute_128 : zz_D mm_P_execute 128 .dup 1 129 := ⟨by decide +kernel, rfl⟩
theorem ee_P_execute_129 : zz_D mm_P_execute 129 (.invokespecial 300) 3 132 := ⟨by decide +kernel, rfl⟩
theorem ee_P_execute_132 : zz_D mm_P_execute 132 .athrow 1 133 := ⟨by decide +kernel, rfl⟩
theorem ee_P_execute_133 : zz_D mm_P_execute 133 (.iinc 2 1) 3 136 := ⟨by decide +kernel, rfl⟩
theorem ee_P_execute_136 : zz_D mm_P_execute 136 (.goto (-86)) 3 139 := ⟨by decide +kernel, rfl⟩
theorem ee_P_execute_139 : zz_D mm_P_execute 139 (.aload_n 0) 1 140 := ⟨by decide +kernel, rfl⟩
theorem ee_P_execute_140 : zz_D mm_P_execute 140 (.getfield 45) 3 143 := ⟨by decide +kernel, rfl⟩
theorem ee_P_execute_143 : zz_D mm_P_execute 143 (.invokevirtual 301) 3 146 := ⟨by decide +kernel, rfl⟩
theorem kk_P_execute_301 : zz_kV mm_P_execute mm_H_keep 301 0 := ⟨⟨zz_in 591 (by decide +kernel) rfl, zz_in 25 (by decide +kernel) rfl, by decide +kernel, by decide, by decide⟩, rfl, zz_in 588 (by decide +kernel) rfl, zz_in 589 (by decide +kernel) rfl, zz_in 590 (by decide +kernel) rfl⟩
theorem ee_P_execute_146 : zz_D mm_P_execute 146 (.aload_n 0) 1 147 := ⟨by decide +kernel, rfl⟩
theorem ee_P_execute_147 : zz_D mm_P_execute 147 (.getfield 52) 3 150 := ⟨by decide +kernel, rfl⟩
theorem ee_P_execute_150 : zz_D mm_P_execute 150 (.getfield 269) 3 153 := ⟨by decide +kernel, rfl⟩
theorem ee_P_execute_153 : zz_D mm_P_execute 153 .ireturn 1 154 := ⟨by decide +kernel, rfl⟩
theorem ee_P_causeOf_0 : zz_D mm_P_causeOf 0 (.iload_n 0) 1 1 := ⟨by decide +kernel, rfl⟩
theorem ee_P_causeOf_1 : zz_D mm_P_causeOf 1 (.bipush (-11)) 2 3 := ⟨by decide +kernel, rfl⟩
theorem ee_P_causeOf_3 : zz_D mm_P_causeOf 3 (.if_icmp .eq 15) 3 6 := ⟨by decide +kernel, rfl⟩
theorem ee_P_causeOf_6 : zz_D mm_P_causeOf 6 (.iload_n 0) 1 7 := ⟨by decide +kernel, rfl⟩
theorem ee_P_causeOf_7 : zz_D mm_P_causeOf 7 (.bipush (-12)) 2 9 := ⟨by decide +kernel, rfl⟩
theorem ee_P_causeOf_9 : zz_D mm_P_causeOf 9 (.if_icmp .eq 9) 3 12 := ⟨by decide +kernel, rfl⟩
theorem ee_P_causeOf_12 : zz_D mm_P_causeOf 12 (.iload_n 0) 1 13 := ⟨by decide +kernel, rfl⟩
theorem ee_P_causeOf_13 : zz_D mm_P_causeOf 13 (.bipush (-13)) 2 15 := ⟨by decide +kernel, rfl⟩
theorem ee_P_causeOf_15 : zz_D mm_P_causeOf 15 (.if_icmp .ne 7) 3 18 := ⟨by decide +kernel, rfl⟩
theorem ee_P_causeOf_18 : zz_D mm_P_causeOf 18 (.iconst 1) 1 19 := ⟨by decide +kernel, rfl⟩
theorem ee_P_causeOf_19 : zz_D mm_P_causeOf 19 (.goto 4) 3 22 := ⟨by decide +kernel, rfl⟩
theorem ee_P_causeOf_22 : zz_D mm_P_causeOf 22 (.iconst 0) 1 23 := ⟨by decide +kernel, rfl⟩
theorem ee_P_causeOf_23 : zz_D mm_P_causeOf 23 (.istore_n 1) 1 24 := ⟨by decide +kernel, rfl⟩
theorem ee_P_causeOf_24 : zz_D mm_P_causeOf 24 (.iload_n 1) 1 25 := ⟨by decide +kernel, rfl⟩
theorem ee_P_causeOf_25 : zz_D mm_P_causeOf 25 (.ifCond .eq 8) 3 28 := ⟨by decide +kernel, rfl⟩
theorem ee_P_causeOf_28 : zz_D mm_P_causeOf 28 (.bipush 8) 2 30 := ⟨by decide +kernel, rfl⟩
theorem ee_P_causeOf_30 : zz_D mm_P_causeOf 30 (.goto 5) 3 33 := ⟨by decide +kernel, rfl⟩
theorem ee_P_causeOf_33 : zz_D mm_P_causeOf 33 (.iload_n 0) 1 34 := ⟨by decide +kernel, rfl⟩
theorem ee_P_causeOf_34 : zz_D mm_P_causeOf 34 .ineg 1 35 := ⟨by decide +kernel, rfl⟩
theorem ee_P_causeOf_35 : zz_D mm_P_causeOf 35 .ireturn 1 36 := ⟨by decide +kernel, rfl⟩
theorem ee_P_faultPosition_0 : zz_D mm_P_faultPosition 0 (.aload_n 0) 1 1 := ⟨by decide +kernel, rfl⟩
theorem ee_P_faultPosition_1 : zz_D mm_P_faultPosition 1 (.getfield 67) 3 4 := ⟨by decide +kernel, rfl⟩
theorem ff_P_faultPosition_67 : zz_F mm_P_faultPosition 67 0 10 := ⟨by decide, zz_in 265 (by decide +kernel) rfl⟩
theorem ee_P_faultPosition_4 : zz_D mm_P_faultPosition 4 (.iconst (-1)) 1 5 := ⟨by decide +kernel, rfl⟩
theorem ee_P_faultPosition_5 : zz_D mm_P_faultPosition 5 (.if_icmp .ne 11) 3 8 := ⟨by decide +kernel, rfl⟩
theorem ee_P_faultPosition_8 : zz_D mm_P_faultPosition 8 (.new 147) 3 11 := ⟨by decide +kernel, rfl⟩
theorem tt_P_faultPosition_8 : zz_T mm_P_faultPosition 8 147 149 "java/util/NoSuchElementException" ["java/lang/RuntimeException", "java/lang/Exception"] := ⟨⟨ee_P_faultPosition_8.1, by decide +kernel, by decide +kernel, by decide +kernel⟩, by decide +kernel, by decide +kernel, zz_in 539 (by decide +kernel) rfl, zz_in 33 (by decide +kernel) rfl, tw_P_149, to_P_149, by decide, by decide⟩
theorem ee_P_faultPosition_11 : zz_D mm_P_faultPosition 11 .dup 1 12 := ⟨by decide +kernel, rfl⟩
theorem ee_P_faultPosition_12 : zz_D mm_P_faultPosition 12 (.invokespecial 149) 3 15 := ⟨by decide +kernel, rfl⟩
theorem ee_P_faultPosition_15 : zz_D mm_P_faultPosition 15 .athrow 1 16 := ⟨by decide +kernel, rfl⟩
theorem ee_P_faultPosition_16 : zz_D mm_P_faultPosition 16 (.aload_n 0) 1 17 := ⟨by decide +kernel, rfl⟩
theorem ee_P_faultPosition_17 : zz_D mm_P_faultPosition 17 (.getfield 67) 3 20 := ⟨by decide +kernel, rfl⟩
theorem ee_P_faultPosition_20 : zz_D mm_P_faultPosition 20 .ireturn 1 21 := ⟨by decide +kernel, rfl⟩
theorem ee_P_undo_0 : zz_D mm_P_undo 0 (.aload_n 0) 1 1 := ⟨by decide +kernel, rfl⟩
theorem ee_P_undo_1 : zz_D mm_P_undo 1 (.getfield 45) 3 4 := ⟨by decide +kernel, rfl⟩
theorem ff_P_undo_45 : zz_F mm_P_undo 45 0 6 := ⟨by decide, zz_in 261 (by decide +kernel) rfl⟩
theorem ee_P_undo_4 : zz_D mm_P_undo 4 (.getfield 317) 3 7 := ⟨by decide +kernel, rfl⟩
theorem ff_P_undo_317 : zz_F mm_P_undo 317 4 2 := ⟨by decide, zz_in 205 (by decide +kernel) rfl⟩
theorem ee_P_undo_7 : zz_D mm_P_undo 7 (.ifCond .ne 11) 3 10 := ⟨by decide +kernel, rfl⟩
theorem ee_P_undo_10 : zz_D mm_P_undo 10 (.new 82) 3 13 := ⟨by decide +kernel, rfl⟩
theorem tt_P_undo_10 : zz_T mm_P_undo 10 82 84 "java/lang/IllegalStateException" ["java/lang/RuntimeException", "java/lang/Exception"] := ⟨⟨ee_P_undo_10.1, by decide +kernel, by decide +kernel, by decide +kernel⟩, by decide +kernel, by decide +kernel, zz_in 483 (by decide +kernel) rfl, zz_in 31 (by decide +kernel) rfl, tw_P_84, to_P_84, by decide, by decide⟩
theorem ee_P_undo_13 : zz_D mm_P_undo 13 .dup 1 14 := ⟨by decide +kernel, rfl⟩
theorem ee_P_undo_14 : zz_D mm_P_undo 14 (.invokespecial 84) 3 17 := ⟨by decide +kernel, rfl⟩
theorem ee_P_undo_17 : zz_D mm_P_undo 17 .athrow 1 18 := ⟨by decide +kernel, rfl⟩
theorem ee_P_undo_18 : zz_D mm_P_undo 18 (.aload_n 0) 1 19 := ⟨by decide +kernel, rfl⟩
theorem ee_P_undo_19 : zz_D mm_P_undo 19 (.getfield 45) 3 22 := ⟨by decide +kernel, rfl⟩
theorem ee_P_undo_22 : zz_D mm_P_undo 22 (.aload_n 0) 1 23 := ⟨by decide +kernel, rfl⟩
theorem ee_P_undo_23 : zz_D mm_P_undo 23 (.getfield 35) 3 26 := ⟨by decide +kernel, rfl⟩
theorem ff_P_undo_35 : zz_F mm_P_undo 35 0 4 := ⟨by decide, zz_in 259 (by decide +kernel) rfl⟩
theorem ee_P_undo_26 : zz_D mm_P_undo 26 (.invokevirtual 318) 3 29 := ⟨by decide +kernel, rfl⟩
theorem kk_P_undo_318 : zz_kV mm_P_undo mm_H_takeBack 318 1 := ⟨⟨zz_in 913 (by decide +kernel) rfl, zz_in 25 (by decide +kernel) rfl, by decide +kernel, by decide, by decide⟩, rfl, zz_in 910 (by decide +kernel) rfl, zz_in 911 (by decide +kernel) rfl, zz_in 912 (by decide +kernel) rfl⟩
theorem ee_P_undo_29 : zz_D mm_P_undo 29 (.aload_n 0) 1 30 := ⟨by decide +kernel, rfl⟩
theorem ee_P_undo_30 : zz_D mm_P_undo 30 (.getfield 45) 3 33 := ⟨by decide +kernel, rfl⟩
theorem ee_P_undo_33 : zz_D mm_P_undo 33 (.getfield 317) 3 36 := ⟨by decide +kernel, rfl⟩
theorem ee_P_undo_36 : zz_D mm_P_undo 36 .ireturn 1 37 := ⟨by decide +kernel, rfl⟩
theorem ee_P_restoreSnapshot_0 : zz_D mm_P_restoreSnapshot 0 (.aload_n 0) 1 1 := ⟨by decide +kernel, rfl⟩
theorem ee_P_restoreSnapshot_1 : zz_D mm_P_restoreSnapshot 1 (.getfield 63) 3 4 := ⟨by decide +kernel, rfl⟩
theorem ff_P_restoreSnapshot_63 : zz_F mm_P_restoreSnapshot 63 0 9 := ⟨by decide, zz_in 264 (by decide +kernel) rfl⟩
theorem ee_P_restoreSnapshot_4 : zz_D mm_P_restoreSnapshot 4 (.ifCond .ne 11) 3 7 := ⟨by decide +kernel, rfl⟩
theorem ee_P_restoreSnapshot_7 : zz_D mm_P_restoreSnapshot 7 (.new 82) 3 10 := ⟨by decide +kernel, rfl⟩
theorem tt_P_restoreSnapshot_7 : zz_T mm_P_restoreSnapshot 7 82 84 "java/lang/IllegalStateException" ["java/lang/RuntimeException", "java/lang/Exception"] := ⟨⟨ee_P_restoreSnapshot_7.1, by decide +kernel, by decide +kernel, by decide +kernel⟩, by decide +kernel, by decide +kernel, zz_in 483 (by decide +kernel) rfl, zz_in 31 (by decide +kernel) rfl, tw_P_84, to_P_84, by decide, by decide⟩
theorem ee_P_restoreSnapshot_10 : zz_D mm_P_restoreSnapshot 10 .dup 1 11 := ⟨by decide +kernel, rfl⟩
theorem ee_P_restoreSnapshot_11 : zz_D mm_P_restoreSnapshot 11 (.invokespecial 84) 3 14 := ⟨by decide +kernel, rfl⟩
theorem ee_P_restoreSnapshot_14 : zz_D mm_P_restoreSnapshot 14 .athrow 1 15 := ⟨by decide +kernel, rfl⟩
theorem ee_P_restoreSnapshot_15 : zz_D mm_P_restoreSnapshot 15 (.aload_n 0) 1 16 := ⟨by decide +kernel, rfl⟩
theorem ee_P_restoreSnapshot_16 : zz_D mm_P_restoreSnapshot 16 (.getfield 35) 3 19 := ⟨by decide +kernel, rfl⟩
theorem ff_P_restoreSnapshot_35 : zz_F mm_P_restoreSnapshot 35 0 4 := ⟨by decide, zz_in 259 (by decide +kernel) rfl⟩
theorem ee_P_restoreSnapshot_19 : zz_D mm_P_restoreSnapshot 19 (.aload_n 0) 1 20 := ⟨by decide +kernel, rfl⟩
theorem ee_P_restoreSnapshot_20 : zz_D mm_P_restoreSnapshot 20 (.getfield 39) 3 23 := ⟨by decide +kernel, rfl⟩
theorem ff_P_restoreSnapshot_39 : zz_F mm_P_restoreSnapshot 39 0 5 := ⟨by decide, zz_in 260 (by decide +kernel) rfl⟩
theorem ee_P_restoreSnapshot_23 : zz_D mm_P_restoreSnapshot 23 (.invokevirtual 289) 3 26 := ⟨by decide +kernel, rfl⟩
theorem kk_P_restoreSnapshot_289 : zz_kV mm_P_restoreSnapshot mm_S_copyFrom 289 1 := ⟨⟨zz_in 372 (by decide +kernel) rfl, zz_in 23 (by decide +kernel) rfl, by decide +kernel, by decide, by decide⟩, rfl, zz_in 369 (by decide +kernel) rfl, zz_in 370 (by decide +kernel) rfl, zz_in 371 (by decide +kernel) rfl⟩
theorem ee_P_restoreSnapshot_26 : zz_D mm_P_restoreSnapshot 26 (.aload_n 0) 1 27 := ⟨by decide +kernel, rfl⟩
theorem ee_P_restoreSnapshot_27 : zz_D mm_P_restoreSnapshot 27 (.getfield 45) 3 30 := ⟨by decide +kernel, rfl⟩
theorem ff_P_restoreSnapshot_45 : zz_F mm_P_restoreSnapshot 45 0 6 := ⟨by decide, zz_in 261 (by decide +kernel) rfl⟩
theorem ee_P_restoreSnapshot_30 : zz_D mm_P_restoreSnapshot 30 (.invokevirtual 321) 3 33 := ⟨by decide +kernel, rfl⟩
theorem kk_P_restoreSnapshot_321 : zz_kV mm_P_restoreSnapshot mm_H_forget 321 0 := ⟨⟨zz_in 924 (by decide +kernel) rfl, zz_in 25 (by decide +kernel) rfl, by decide +kernel, by decide, by decide⟩, rfl, zz_in 921 (by decide +kernel) rfl, zz_in 922 (by decide +kernel) rfl, zz_in 923 (by decide +kernel) rfl⟩
theorem ee_P_restoreSnapshot_33 : zz_D mm_P_restoreSnapshot 33 (.aload_n 0) 1 34 := ⟨by decide +kernel, rfl⟩
theorem ee_P_restoreSnapshot_34 : zz_D mm_P_restoreSnapshot 34 (.getfield 35) 3 37 := ⟨by decide +kernel, rfl⟩
theorem ee_P_restoreSnapshot_37 : zz_D mm_P_restoreSnapshot 37 (.getfield 181) 3 40 := ⟨by decide +kernel, rfl⟩
theorem ff_P_restoreSnapshot_181 : zz_F mm_P_restoreSnapshot 181 5 3 := ⟨by decide, zz_in 149 (by decide +kernel) rfl⟩
theorem ee_P_restoreSnapshot_40 : zz_D mm_P_restoreSnapshot 40 .ireturn 1 41 := ⟨by decide +kernel, rfl⟩
theorem ee_P_denial_0 : zz_D mm_P_denial 0 (.aload_n 0) 1 1 := ⟨by decide +kernel, rfl⟩
theorem ee_P_denial_1 : zz_D mm_P_denial 1 (.invokevirtual 307) 3 4 := ⟨by decide +kernel, rfl⟩
theorem kk_P_denial_307 : zz_kV mm_P_denial mm_P_requireDenial 307 0 := ⟨⟨zz_in 943 (by decide +kernel) rfl, zz_in 19 (by decide +kernel) rfl, by decide +kernel, by decide, by decide⟩, rfl, zz_in 940 (by decide +kernel) rfl, zz_in 942 (by decide +kernel) rfl, zz_in 15 (by decide +kernel) rfl⟩
theorem ee_P_denial_4 : zz_D mm_P_denial 4 (.aload_n 0) 1 5 := ⟨by decide +kernel, rfl⟩
theorem ee_P_denial_5 : zz_D mm_P_denial 5 (.getfield 59) 3 8 := ⟨by decide +kernel, rfl⟩
theorem ff_P_denial_59 : zz_F mm_P_denial 59 0 8 := ⟨by decide, zz_in 263 (by decide +kernel) rfl⟩
theorem ee_P_denial_8 : zz_D mm_P_denial 8 (.getfield 310) 3 11 := ⟨by decide +kernel, rfl⟩
theorem ff_P_denial_310 : zz_F mm_P_denial 310 3 0 := ⟨by decide, zz_in 243 (by decide +kernel) rfl⟩
theorem ee_P_denial_11 : zz_D mm_P_denial 11 .ireturn 1 12 := ⟨by decide +kernel, rfl⟩
theorem ee_P_requireDenial_0 : zz_D mm_P_requireDenial 0 (.aload_n 0) 1 1 := ⟨by decide +kernel, rfl⟩
theorem ee_P_requireDenial_1 : zz_D mm_P_requireDenial 1 (.getfield 59) 3 4 := ⟨by decide +kernel, rfl⟩
theorem ff_P_requireDenial_59 : zz_F mm_P_requireDenial 59 0 8 := ⟨by decide, zz_in 263 (by decide +kernel) rfl⟩
theorem ee_P_requireDenial_4 : zz_D mm_P_requireDenial 4 (.getfield 310) 3 7 := ⟨by decide +kernel, rfl⟩
theorem ff_P_requireDenial_310 : zz_F mm_P_requireDenial 310 3 0 := ⟨by decide, zz_in 243 (by decide +kernel) rfl⟩
theorem ee_P_requireDenial_7 : zz_D mm_P_requireDenial 7 (.iconst (-1)) 1 8 := ⟨by decide +kernel, rfl⟩
theorem ee_P_requireDenial_8 : zz_D mm_P_requireDenial 8 (.if_icmp .ne 11) 3 11 := ⟨by decide +kernel, rfl⟩
theorem ee_P_requireDenial_11 : zz_D mm_P_requireDenial 11 (.new 147) 3 14 := ⟨by decide +kernel, rfl⟩
theorem tt_P_requireDenial_11 : zz_T mm_P_requireDenial 11 147 149 "java/util/NoSuchElementException" ["java/lang/RuntimeException", "java/lang/Exception"] := ⟨⟨ee_P_requireDenial_11.1, by decide +kernel, by decide +kernel, by decide +kernel⟩, by decide +kernel, by decide +kernel, zz_in 539 (by decide +kernel) rfl, zz_in 33 (by decide +kernel) rfl, tw_P_149, to_P_149, by decide, by decide⟩
theorem ee_P_requireDenial_14 : zz_D mm_P_requireDenial 14 .dup 1 15 := ⟨by decide +kernel, rfl⟩
theorem ee_P_requireDenial_15 : zz_D mm_P_requireDenial 15 (.invokespecial 149) 3 18 := ⟨by decide +kernel, rfl⟩
theorem ee_P_requireDenial_18 : zz_D mm_P_requireDenial 18 .athrow 1 19 := ⟨by decide +kernel, rfl⟩
theorem ee_P_requireDenial_19 : zz_D mm_P_requireDenial 19 .return_ 1 20 := ⟨by decide +kernel, rfl⟩
theorem ee_P_denialDetail_0 : zz_D mm_P_denialDetail 0 (.aload_n 0) 1 1 := ⟨by decide +kernel, rfl⟩
theorem ee_P_denialDetail_1 : zz_D mm_P_denialDetail 1 (.invokevirtual 307) 3 4 := ⟨by decide +kernel, rfl⟩
theorem kk_P_denialDetail_307 : zz_kV mm_P_denialDetail mm_P_requireDenial 307 0 := ⟨⟨zz_in 943 (by decide +kernel) rfl, zz_in 19 (by decide +kernel) rfl, by decide +kernel, by decide, by decide⟩, rfl, zz_in 940 (by decide +kernel) rfl, zz_in 942 (by decide +kernel) rfl, zz_in 15 (by decide +kernel) rfl⟩
theorem ee_P_denialDetail_4 : zz_D mm_P_denialDetail 4 (.aload_n 0) 1 5 := ⟨by decide +kernel, rfl⟩
theorem ee_P_denialDetail_5 : zz_D mm_P_denialDetail 5 (.getfield 59) 3 8 := ⟨by decide +kernel, rfl⟩
theorem ff_P_denialDetail_59 : zz_F mm_P_denialDetail 59 0 8 := ⟨by decide, zz_in 263 (by decide +kernel) rfl⟩
theorem ee_P_denialDetail_8 : zz_D mm_P_denialDetail 8 (.getfield 311) 3 11 := ⟨by decide +kernel, rfl⟩
theorem ff_P_denialDetail_311 : zz_F mm_P_denialDetail 311 3 1 := ⟨by decide, zz_in 245 (by decide +kernel) rfl⟩
theorem ee_P_denialDetail_11 : zz_D mm_P_denialDetail 11 .ireturn 1 12 := ⟨by decide +kernel, rfl⟩
theorem ee_P_denialCause_0 : zz_D mm_P_denialCause 0 (.aload_n 0) 1 1 := ⟨by decide +kernel, rfl⟩
theorem ee_P_denialCause_1 : zz_D mm_P_denialCause 1 (.getfield 59) 3 4 := ⟨by decide +kernel, rfl⟩
theorem ff_P_denialCause_59 : zz_F mm_P_denialCause 59 0 8 := ⟨by decide, zz_in 263 (by decide +kernel) rfl⟩
theorem ee_P_denialCause_4 : zz_D mm_P_denialCause 4 (.getfield 314) 3 7 := ⟨by decide +kernel, rfl⟩
theorem ff_P_denialCause_314 : zz_F mm_P_denialCause 314 3 2 := ⟨by decide, zz_in 247 (by decide +kernel) rfl⟩
theorem ee_P_denialCause_7 : zz_D mm_P_denialCause 7 (.iconst (-1)) 1 8 := ⟨by decide +kernel, rfl⟩
theorem ee_P_denialCause_8 : zz_D mm_P_denialCause 8 (.if_icmp .ne 11) 3 11 := ⟨by decide +kernel, rfl⟩
theorem ee_P_denialCause_11 : zz_D mm_P_denialCause 11 (.new 147) 3 14 := ⟨by decide +kernel, rfl⟩
theorem tt_P_denialCause_11 : zz_T mm_P_denialCause 11 147 149 "java/util/NoSuchElementException" ["java/lang/RuntimeException", "java/lang/Exception"] := ⟨⟨ee_P_denialCause_11.1, by decide +kernel, by decide +kernel, by decide +kernel⟩, by decide +kernel, by decide +kernel, zz_in 539 (by decide +kernel) rfl, zz_in 33 (by decide +kernel) rfl, tw_P_149, to_P_149, by decide, by decide⟩
theorem ee_P_denialCause_14 : zz_D mm_P_denialCause 14 .dup 1 15 := ⟨by decide +kernel, rfl⟩
theorem ee_P_denialCause_15 : zz_D mm_P_denialCause 15 (.invokespecial 149) 3 18 := ⟨by decide +kernel, rfl⟩
theorem ee_P_denialCause_18 : zz_D mm_P_denialCause 18 .athrow 1 19 := ⟨by decide +kernel, rfl⟩
theorem ee_P_denialCause_19 : zz_D mm_P_denialCause 19 (.aload_n 0) 1 20 := ⟨by decide +kernel, rfl⟩
theorem ee_P_denialCause_20 : zz_D mm_P_denialCause 20 (.getfield 59) 3 23 := ⟨by decide +kernel, rfl⟩
theorem ee_P_denialCause_23 : zz_D mm_P_denialCause 23 (.getfield 314) 3 26 := ⟨by decide +kernel, rfl⟩
theorem ee_P_denialCause_26 : zz_D mm_P_denialCause 26 .ireturn 1 27 := ⟨by decide +kernel, rfl⟩
theorem ee_P_meanCodeLength_0 : zz_D mm_P_meanCodeLength 0 (.aload_n 0) 1 1 := ⟨by decide +kernel, rfl⟩
theorem ee_P_meanCodeLength_1 : zz_D mm_P_meanCodeLength 1 (.getfield 35) 3 4 := ⟨by decide +kernel, rfl⟩
theorem ff_P_meanCodeLength_35 : zz_F mm_P_meanCodeLength 35 0 4 := ⟨by decide, zz_in 259 (by decide +kernel) rfl⟩
theorem ee_P_meanCodeLength_4 : zz_D mm_P_meanCodeLength 4 (.getfield 181) 3 7 := ⟨by decide +kernel, rfl⟩
theorem ff_P_meanCodeLength_181 : zz_F mm_P_meanCodeLength 181 5 3 := ⟨by decide, zz_in 149 (by decide +kernel) rfl⟩
theorem ee_P_meanCodeLength_7 : zz_D mm_P_meanCodeLength 7 (.ifCond .ne 11) 3 10 := ⟨by decide +kernel, rfl⟩
theorem ee_P_meanCodeLength_10 : zz_D mm_P_meanCodeLength 10 (.new 257) 3 13 := ⟨by decide +kernel, rfl⟩
theorem tw_P_259 : ∀ w ∈ vx_at0 "TurnipPages" 259 "java/lang/ArithmeticException" ["java/lang/RuntimeException", "java/lang/Exception"], w ∈ zz_gw ∨ w ∈ zz_nw := by decide +kernel
theorem to_P_259 : ∀ w ∈ Cond.classLink "TurnipPages" 257 "java/lang/ArithmeticException" :: Cond.initialized "java/lang/ArithmeticException" :: vx_at0 "TurnipPages" 259 "java/lang/ArithmeticException" ["java/lang/RuntimeException", "java/lang/Exception"], vx_ot w = true := by decide +kernel
theorem tt_P_meanCodeLength_10 : zz_T mm_P_meanCodeLength 10 257 259 "java/lang/ArithmeticException" ["java/lang/RuntimeException", "java/lang/Exception"] := ⟨⟨ee_P_meanCodeLength_10.1, by decide +kernel, by decide +kernel, by decide +kernel⟩, by decide +kernel, by decide +kernel, zz_in 1219 (by decide +kernel) rfl, zz_in 49 (by decide +kernel) rfl, tw_P_259, to_P_259, by decide, by decide⟩
theorem ee_P_meanCodeLength_13 : zz_D mm_P_meanCodeLength 13 .dup 1 14 := ⟨by decide +kernel, rfl⟩
theorem ee_P_meanCodeLength_14 : zz_D mm_P_meanCodeLength 14 (.invokespecial 259) 3 17 := ⟨by decide +kernel, rfl⟩
theorem ee_P_meanCodeLength_17 : zz_D mm_P_meanCodeLength 17 .athrow 1 18 := ⟨by decide +kernel, rfl⟩
theorem ee_P_meanCodeLength_18 : zz_D mm_P_meanCodeLength 18 (.aload_n 0) 1 19 := ⟨by decide +kernel, rfl⟩
theorem ee_P_meanCodeLength_19 : zz_D mm_P_meanCodeLength 19 (.getfield 35) 3 22 := ⟨by decide +kernel, rfl⟩
theorem ee_P_meanCodeLength_22 : zz_D mm_P_meanCodeLength 22 (.invokevirtual 260) 3 25 := ⟨by decide +kernel, rfl⟩
theorem kk_P_meanCodeLength_260 : zz_kV mm_P_meanCodeLength mm_S_sumCodeLengths 260 0 := ⟨⟨zz_in 1227 (by decide +kernel) rfl, zz_in 23 (by decide +kernel) rfl, by decide +kernel, by decide, by decide⟩, rfl, zz_in 1224 (by decide +kernel) rfl, zz_in 1225 (by decide +kernel) rfl, zz_in 1226 (by decide +kernel) rfl⟩
theorem ee_P_meanCodeLength_25 : zz_D mm_P_meanCodeLength 25 .i2d 1 26 := ⟨by decide +kernel, rfl⟩
theorem ee_P_meanCodeLength_26 : zz_D mm_P_meanCodeLength 26 (.aload_n 0) 1 27 := ⟨by decide +kernel, rfl⟩
theorem ee_P_meanCodeLength_27 : zz_D mm_P_meanCodeLength 27 (.getfield 35) 3 30 := ⟨by decide +kernel, rfl⟩
theorem ee_P_meanCodeLength_30 : zz_D mm_P_meanCodeLength 30 (.getfield 181) 3 33 := ⟨by decide +kernel, rfl⟩
theorem ee_P_meanCodeLength_33 : zz_D mm_P_meanCodeLength 33 .i2d 1 34 := ⟨by decide +kernel, rfl⟩
theorem ee_P_meanCodeLength_34 : zz_D mm_P_meanCodeLength 34 .ddiv 1 35 := ⟨by decide +kernel, rfl⟩
theorem ee_P_meanCodeLength_35 : zz_D mm_P_meanCodeLength 35 .dreturn 1 36 := ⟨by decide +kernel, rfl⟩
theorem ee_P_rottenShare_0 : zz_D mm_P_rottenShare 0 (.aload_n 0) 1 1 := ⟨by decide +kernel, rfl⟩
theorem ee_P_rottenShare_1 : zz_D mm_P_rottenShare 1 (.getfield 35) 3 4 := ⟨by decide +kernel, rfl⟩
theorem ff_P_rottenShare_35 : zz_F mm_P_rottenShare 35 0 4 := ⟨by decide, zz_in 259 (by decide +kernel) rfl⟩
theorem ee_P_rottenShare_4 : zz_D mm_P_rottenShare 4 (.invokevirtual 263) 3 7 := ⟨by decide +kernel, rfl⟩
theorem kk_P_rottenShare_263 : zz_kV mm_P_rottenShare mm_S_countPages 263 0 := ⟨⟨zz_in 1249 (by decide +kernel) rfl, zz_in 23 (by decide +kernel) rfl, by decide +kernel, by decide, by decide⟩, rfl, zz_in 1246 (by decide +kernel) rfl, zz_in 1247 (by decide +kernel) rfl, zz_in 1248 (by decide +kernel) rfl⟩
theorem ee_P_rottenShare_7 : zz_D mm_P_rottenShare 7 (.istore_n 1) 1 8 := ⟨by decide +kernel, rfl⟩
theorem ee_P_rottenShare_8 : zz_D mm_P_rottenShare 8 (.iload_n 1) 1 9 := ⟨by decide +kernel, rfl⟩
theorem ee_P_rottenShare_9 : zz_D mm_P_rottenShare 9 (.ifCond .ne 11) 3 12 := ⟨by decide +kernel, rfl⟩
theorem ee_P_rottenShare_12 : zz_D mm_P_rottenShare 12 (.new 257) 3 15 := ⟨by decide +kernel, rfl⟩
theorem tt_P_rottenShare_12 : zz_T mm_P_rottenShare 12 257 259 "java/lang/ArithmeticException" ["java/lang/RuntimeException", "java/lang/Exception"] := ⟨⟨ee_P_rottenShare_12.1, by decide +kernel, by decide +kernel, by decide +kernel⟩, by decide +kernel, by decide +kernel, zz_in 1219 (by decide +kernel) rfl, zz_in 49 (by decide +kernel) rfl, tw_P_259, to_P_259, by decide, by decide⟩
theorem ee_P_rottenShare_15 : zz_D mm_P_rottenShare 15 .dup 1 16 := ⟨by decide +kernel, rfl⟩
theorem ee_P_rottenShare_16 : zz_D mm_P_rottenShare 16 (.invokespecial 259) 3 19 := ⟨by decide +kernel, rfl⟩
theorem ee_P_rottenShare_19 : zz_D mm_P_rottenShare 19 .athrow 1 20 := ⟨by decide +kernel, rfl⟩
theorem ee_P_rottenShare_20 : zz_D mm_P_rottenShare 20 (.aload_n 0) 1 21 := ⟨by decide +kernel, rfl⟩
theorem ee_P_rottenShare_21 : zz_D mm_P_rottenShare 21 (.getfield 35) 3 24 := ⟨by decide +kernel, rfl⟩
theorem ee_P_rottenShare_24 : zz_D mm_P_rottenShare 24 (.invokevirtual 248) 3 27 := ⟨by decide +kernel, rfl⟩
theorem kk_P_rottenShare_248 : zz_kV mm_P_rottenShare mm_S_countRottenPages 248 0 := ⟨⟨zz_in 348 (by decide +kernel) rfl, zz_in 23 (by decide +kernel) rfl, by decide +kernel, by decide, by decide⟩, rfl, zz_in 345 (by decide +kernel) rfl, zz_in 346 (by decide +kernel) rfl, zz_in 347 (by decide +kernel) rfl⟩
theorem ee_P_rottenShare_27 : zz_D mm_P_rottenShare 27 .i2f 1 28 := ⟨by decide +kernel, rfl⟩
theorem ee_P_rottenShare_28 : zz_D mm_P_rottenShare 28 (.iload_n 1) 1 29 := ⟨by decide +kernel, rfl⟩
theorem ee_P_rottenShare_29 : zz_D mm_P_rottenShare 29 .i2f 1 30 := ⟨by decide +kernel, rfl⟩
theorem ee_P_rottenShare_30 : zz_D mm_P_rottenShare 30 .fdiv 1 31 := ⟨by decide +kernel, rfl⟩
theorem ee_P_rottenShare_31 : zz_D mm_P_rottenShare 31 .freturn 1 32 := ⟨by decide +kernel, rfl⟩
theorem ee_P_dampness_0 : zz_D mm_P_dampness 0 (.aload_n 0) 1 1 := ⟨by decide +kernel, rfl⟩
theorem ee_P_dampness_1 : zz_D mm_P_dampness 1 (.iload_n 1) 1 2 := ⟨by decide +kernel, rfl⟩
theorem ee_P_dampness_2 : zz_D mm_P_dampness 2 (.invokevirtual 134) 3 5 := ⟨by decide +kernel, rfl⟩
theorem kk_P_dampness_134 : zz_kV mm_P_dampness mm_P_requireRoot 134 1 := ⟨⟨zz_in 635 (by decide +kernel) rfl, zz_in 19 (by decide +kernel) rfl, by decide +kernel, by decide, by decide⟩, rfl, zz_in 632 (by decide +kernel) rfl, zz_in 634 (by decide +kernel) rfl, zz_in 4 (by decide +kernel) rfl⟩
theorem ee_P_dampness_5 : zz_D mm_P_dampness 5 (.aload_n 0) 1 6 := ⟨by decide +kernel, rfl⟩
theorem ee_P_dampness_6 : zz_D mm_P_dampness 6 (.getfield 35) 3 9 := ⟨by decide +kernel, rfl⟩
theorem ff_P_dampness_35 : zz_F mm_P_dampness 35 0 4 := ⟨by decide, zz_in 259 (by decide +kernel) rfl⟩
theorem ee_P_dampness_9 : zz_D mm_P_dampness 9 (.iload_n 1) 1 10 := ⟨by decide +kernel, rfl⟩
theorem ee_P_dampness_10 : zz_D mm_P_dampness 10 (.invokevirtual 137) 3 13 := ⟨by decide +kernel, rfl⟩
theorem kk_P_dampness_137 : zz_kV mm_P_dampness mm_S_dampnessAt 137 1 := ⟨⟨zz_in 376 (by decide +kernel) rfl, zz_in 23 (by decide +kernel) rfl, by decide +kernel, by decide, by decide⟩, rfl, zz_in 1268 (by decide +kernel) rfl, zz_in 374 (by decide +kernel) rfl, zz_in 375 (by decide +kernel) rfl⟩
theorem ee_P_dampness_13 : zz_D mm_P_dampness 13 .ireturn 1 14 := ⟨by decide +kernel, rfl⟩
theorem ee_P_telegramAt_0 : zz_D mm_P_telegramAt 0 (.aload_n 0) 1 1 := ⟨by decide +kernel, rfl⟩
theorem ee_P_telegramAt_1 : zz_D mm_P_telegramAt 1 (.getfield 35) 3 4 := ⟨by decide +kernel, rfl⟩
theorem ff_P_telegramAt_35 : zz_F mm_P_telegramAt 35 0 4 := ⟨by decide, zz_in 259 (by decide +kernel) rfl⟩
theorem ee_P_telegramAt_4 : zz_D mm_P_telegramAt 4 (.iload_n 1) 1 5 := ⟨by decide +kernel, rfl⟩
theorem ee_P_telegramAt_5 : zz_D mm_P_telegramAt 5 (.invokevirtual 184) 3 8 := ⟨by decide +kernel, rfl⟩
theorem kk_P_telegramAt_184 : zz_kV mm_P_telegramAt mm_S_telegramIn 184 1 := ⟨⟨zz_in 384 (by decide +kernel) rfl, zz_in 23 (by decide +kernel) rfl, by decide +kernel, by decide, by decide⟩, rfl, zz_in 1276 (by decide +kernel) rfl, zz_in 382 (by decide +kernel) rfl, zz_in 383 (by decide +kernel) rfl⟩
theorem ee_P_telegramAt_8 : zz_D mm_P_telegramAt 8 (.astore_n 2) 1 9 := ⟨by decide +kernel, rfl⟩
theorem ee_P_telegramAt_9 : zz_D mm_P_telegramAt 9 (.aload_n 2) 1 10 := ⟨by decide +kernel, rfl⟩
theorem ee_P_telegramAt_10 : zz_D mm_P_telegramAt 10 (.ifnonnull 11) 3 13 := ⟨by decide +kernel, rfl⟩
theorem ee_P_telegramAt_13 : zz_D mm_P_telegramAt 13 (.new 188) 3 16 := ⟨by decide +kernel, rfl⟩
theorem tt_P_telegramAt_13 : zz_T mm_P_telegramAt 13 188 190 "java/lang/IndexOutOfBoundsException" ["java/lang/RuntimeException", "java/lang/Exception"] := ⟨⟨ee_P_telegramAt_13.1, by decide +kernel, by decide +kernel, by decide +kernel⟩, by decide +kernel, by decide +kernel, zz_in 554 (by decide +kernel) rfl, zz_in 34 (by decide +kernel) rfl, tw_P_190, to_P_190, by decide, by decide⟩
theorem ee_P_telegramAt_16 : zz_D mm_P_telegramAt 16 .dup 1 17 := ⟨by decide +kernel, rfl⟩
theorem ee_P_telegramAt_17 : zz_D mm_P_telegramAt 17 (.invokespecial 190) 3 20 := ⟨by decide +kernel, rfl⟩
theorem ee_P_telegramAt_20 : zz_D mm_P_telegramAt 20 .athrow 1 21 := ⟨by decide +kernel, rfl⟩
theorem ee_P_telegramAt_21 : zz_D mm_P_telegramAt 21 (.aload_n 2) 1 22 := ⟨by decide +kernel, rfl⟩
theorem ee_P_telegramAt_22 : zz_D mm_P_telegramAt 22 (.getfield 191) 3 25 := ⟨by decide +kernel, rfl⟩
theorem ff_P_telegramAt_191 : zz_F mm_P_telegramAt 191 6 3 := ⟨by decide, zz_in 116 (by decide +kernel) rfl⟩
theorem ee_P_telegramAt_25 : zz_D mm_P_telegramAt 25 .ireturn 1 26 := ⟨by decide +kernel, rfl⟩
theorem ee_P_telegramByPriority_0 : zz_D mm_P_telegramByPriority 0 (.aload_n 0) 1 1 := ⟨by decide +kernel, rfl⟩
theorem ee_P_telegramByPriority_1 : zz_D mm_P_telegramByPriority 1 (.getfield 35) 3 4 := ⟨by decide +kernel, rfl⟩
theorem ff_P_telegramByPriority_35 : zz_F mm_P_telegramByPriority 35 0 4 := ⟨by decide, zz_in 259 (by decide +kernel) rfl⟩
theorem ee_P_telegramByPriority_4 : zz_D mm_P_telegramByPriority 4 (.iload_n 1) 1 5 := ⟨by decide +kernel, rfl⟩
theorem ee_P_telegramByPriority_5 : zz_D mm_P_telegramByPriority 5 (.invokevirtual 196) 3 8 := ⟨by decide +kernel, rfl⟩
theorem kk_P_telegramByPriority_196 : zz_kV mm_P_telegramByPriority mm_S_findByPriority 196 1 := ⟨⟨zz_in 1287 (by decide +kernel) rfl, zz_in 23 (by decide +kernel) rfl, by decide +kernel, by decide, by decide⟩, rfl, zz_in 1284 (by decide +kernel) rfl, zz_in 1285 (by decide +kernel) rfl, zz_in 1286 (by decide +kernel) rfl⟩
theorem ee_P_telegramByPriority_8 : zz_D mm_P_telegramByPriority 8 (.invokestatic 199) 3 11 := ⟨by decide +kernel, rfl⟩
theorem kk_P_telegramByPriority_199 : zz_kS mm_P_telegramByPriority mm_P_requireNumber 199 1 := ⟨⟨zz_in 1294 (by decide +kernel) rfl, zz_in 19 (by decide +kernel) rfl, by decide +kernel, by decide, by decide⟩, rfl, zz_in 1292 (by decide +kernel) rfl, zz_in 1293 (by decide +kernel) rfl⟩
theorem ee_P_telegramByPriority_11 : zz_D mm_P_telegramByPriority 11 .ireturn 1 12 := ⟨by decide +kernel, rfl⟩
theorem ee_P_requireNumber_0 : zz_D mm_P_requireNumber 0 (.iload_n 0) 1 1 := ⟨by decide +kernel, rfl⟩
theorem ee_P_requireNumber_1 : zz_D mm_P_requireNumber 1 (.iconst (-1)) 1 2 := ⟨by decide +kernel, rfl⟩
theorem ee_P_requireNumber_2 : zz_D mm_P_requireNumber 2 (.if_icmp .ne 11) 3 5 := ⟨by decide +kernel, rfl⟩
theorem ee_P_requireNumber_5 : zz_D mm_P_requireNumber 5 (.new 147) 3 8 := ⟨by decide +kernel, rfl⟩
theorem tt_P_requireNumber_5 : zz_T mm_P_requireNumber 5 147 149 "java/util/NoSuchElementException" ["java/lang/RuntimeException", "java/lang/Exception"] := ⟨⟨ee_P_requireNumber_5.1, by decide +kernel, by decide +kernel, by decide +kernel⟩, by decide +kernel, by decide +kernel, zz_in 539 (by decide +kernel) rfl, zz_in 33 (by decide +kernel) rfl, tw_P_149, to_P_149, by decide, by decide⟩
theorem ee_P_requireNumber_8 : zz_D mm_P_requireNumber 8 .dup 1 9 := ⟨by decide +kernel, rfl⟩
theorem ee_P_requireNumber_9 : zz_D mm_P_requireNumber 9 (.invokespecial 149) 3 12 := ⟨by decide +kernel, rfl⟩
theorem ee_P_requireNumber_12 : zz_D mm_P_requireNumber 12 .athrow 1 13 := ⟨by decide +kernel, rfl⟩
theorem ee_P_requireNumber_13 : zz_D mm_P_requireNumber 13 (.iload_n 0) 1 14 := ⟨by decide +kernel, rfl⟩
theorem ee_P_requireNumber_14 : zz_D mm_P_requireNumber 14 .ireturn 1 15 := ⟨by decide +kernel, rfl⟩
theorem ee_P_telegramByRot_0 : zz_D mm_P_telegramByRot 0 (.aload_n 0) 1 1 := ⟨by decide +kernel, rfl⟩
theorem ee_P_telegramByRot_1 : zz_D mm_P_telegramByRot 1 (.getfield 35) 3 4 := ⟨by decide +kernel, rfl⟩
theorem ff_P_telegramByRot_35 : zz_F mm_P_telegramByRot 35 0 4 := ⟨by decide, zz_in 259 (by decide +kernel) rfl⟩
theorem ee_P_telegramByRot_4 : zz_D mm_P_telegramByRot 4 (.iload_n 1) 1 5 := ⟨by decide +kernel, rfl⟩
theorem ee_P_telegramByRot_5 : zz_D mm_P_telegramByRot 5 (.invokevirtual 202) 3 8 := ⟨by decide +kernel, rfl⟩
theorem kk_P_telegramByRot_202 : zz_kV mm_P_telegramByRot mm_S_findByRot 202 1 := ⟨⟨zz_in 1305 (by decide +kernel) rfl, zz_in 23 (by decide +kernel) rfl, by decide +kernel, by decide, by decide⟩, rfl, zz_in 1302 (by decide +kernel) rfl, zz_in 1303 (by decide +kernel) rfl, zz_in 1304 (by decide +kernel) rfl⟩
theorem ee_P_telegramByRot_8 : zz_D mm_P_telegramByRot 8 (.invokestatic 199) 3 11 := ⟨by decide +kernel, rfl⟩
theorem kk_P_telegramByRot_199 : zz_kS mm_P_telegramByRot mm_P_requireNumber 199 1 := ⟨⟨zz_in 1294 (by decide +kernel) rfl, zz_in 19 (by decide +kernel) rfl, by decide +kernel, by decide, by decide⟩, rfl, zz_in 1292 (by decide +kernel) rfl, zz_in 1293 (by decide +kernel) rfl⟩
theorem ee_P_telegramByRot_11 : zz_D mm_P_telegramByRot 11 .ireturn 1 12 := ⟨by decide +kernel, rfl⟩
theorem ee_P_checksumOf_0 : zz_D mm_P_checksumOf 0 (.aload_n 0) 1 1 := ⟨by decide +kernel, rfl⟩
theorem ee_P_checksumOf_1 : zz_D mm_P_checksumOf 1 (.iload_n 1) 1 2 := ⟨by decide +kernel, rfl⟩
theorem ee_P_checksumOf_2 : zz_D mm_P_checksumOf 2 (.invokevirtual 205) 3 5 := ⟨by decide +kernel, rfl⟩
theorem kk_P_checksumOf_205 : zz_kV mm_P_checksumOf mm_P_requireTelegram 205 1 := ⟨⟨zz_in 725 (by decide +kernel) rfl, zz_in 19 (by decide +kernel) rfl, by decide +kernel, by decide, by decide⟩, rfl, zz_in 722 (by decide +kernel) rfl, zz_in 724 (by decide +kernel) rfl, zz_in 6 (by decide +kernel) rfl⟩
theorem ee_P_checksumOf_5 : zz_D mm_P_checksumOf 5 (.getfield 211) 3 8 := ⟨by decide +kernel, rfl⟩
theorem ff_P_checksumOf_211 : zz_F mm_P_checksumOf 211 6 6 := ⟨by decide, zz_in 125 (by decide +kernel) rfl⟩
theorem ee_P_checksumOf_8 : zz_D mm_P_checksumOf 8 .ireturn 1 9 := ⟨by decide +kernel, rfl⟩
theorem ee_P_daysUntilRotten_0 : zz_D mm_P_daysUntilRotten 0 (.aload_n 0) 1 1 := ⟨by decide +kernel, rfl⟩
theorem ee_P_daysUntilRotten_1 : zz_D mm_P_daysUntilRotten 1 (.getfield 35) 3 4 := ⟨by decide +kernel, rfl⟩
theorem ff_P_daysUntilRotten_35 : zz_F mm_P_daysUntilRotten 35 0 4 := ⟨by decide, zz_in 259 (by decide +kernel) rfl⟩
theorem ee_P_daysUntilRotten_4 : zz_D mm_P_daysUntilRotten 4 (.aload_n 0) 1 5 := ⟨by decide +kernel, rfl⟩
theorem ee_P_daysUntilRotten_5 : zz_D mm_P_daysUntilRotten 5 (.iload_n 1) 1 6 := ⟨by decide +kernel, rfl⟩
theorem ee_P_daysUntilRotten_6 : zz_D mm_P_daysUntilRotten 6 (.invokevirtual 205) 3 9 := ⟨by decide +kernel, rfl⟩
theorem kk_P_daysUntilRotten_205 : zz_kV mm_P_daysUntilRotten mm_P_requireTelegram 205 1 := ⟨⟨zz_in 725 (by decide +kernel) rfl, zz_in 19 (by decide +kernel) rfl, by decide +kernel, by decide, by decide⟩, rfl, zz_in 722 (by decide +kernel) rfl, zz_in 724 (by decide +kernel) rfl, zz_in 6 (by decide +kernel) rfl⟩
theorem ee_P_daysUntilRotten_9 : zz_D mm_P_daysUntilRotten 9 (.invokevirtual 244) 3 12 := ⟨by decide +kernel, rfl⟩
theorem kk_P_daysUntilRotten_244 : zz_kV mm_P_daysUntilRotten mm_S_countDaysUntilRotten 244 1 := ⟨⟨zz_in 1332 (by decide +kernel) rfl, zz_in 23 (by decide +kernel) rfl, by decide +kernel, by decide, by decide⟩, rfl, zz_in 1329 (by decide +kernel) rfl, zz_in 1330 (by decide +kernel) rfl, zz_in 1331 (by decide +kernel) rfl⟩
theorem ee_P_daysUntilRotten_12 : zz_D mm_P_daysUntilRotten 12 (.istore_n 2) 1 13 := ⟨by decide +kernel, rfl⟩
theorem ee_P_daysUntilRotten_13 : zz_D mm_P_daysUntilRotten 13 (.iload_n 2) 1 14 := ⟨by decide +kernel, rfl⟩
theorem ee_P_daysUntilRotten_14 : zz_D mm_P_daysUntilRotten 14 (.iconst (-1)) 1 15 := ⟨by decide +kernel, rfl⟩
theorem ee_P_daysUntilRotten_15 : zz_D mm_P_daysUntilRotten 15 (.if_icmp .ne 11) 3 18 := ⟨by decide +kernel, rfl⟩
theorem ee_P_daysUntilRotten_18 : zz_D mm_P_daysUntilRotten 18 (.new 147) 3 21 := ⟨by decide +kernel, rfl⟩
theorem tt_P_daysUntilRotten_18 : zz_T mm_P_daysUntilRotten 18 147 149 "java/util/NoSuchElementException" ["java/lang/RuntimeException", "java/lang/Exception"] := ⟨⟨ee_P_daysUntilRotten_18.1, by decide +kernel, by decide +kernel, by decide +kernel⟩, by decide +kernel, by decide +kernel, zz_in 539 (by decide +kernel) rfl, zz_in 33 (by decide +kernel) rfl, tw_P_149, to_P_149, by decide, by decide⟩
theorem ee_P_daysUntilRotten_21 : zz_D mm_P_daysUntilRotten 21 .dup 1 22 := ⟨by decide +kernel, rfl⟩
theorem ee_P_daysUntilRotten_22 : zz_D mm_P_daysUntilRotten 22 (.invokespecial 149) 3 25 := ⟨by decide +kernel, rfl⟩
theorem ee_P_daysUntilRotten_25 : zz_D mm_P_daysUntilRotten 25 .athrow 1 26 := ⟨by decide +kernel, rfl⟩
theorem ee_P_daysUntilRotten_26 : zz_D mm_P_daysUntilRotten 26 (.iload_n 2) 1 27 := ⟨by decide +kernel, rfl⟩
theorem ee_P_daysUntilRotten_27 : zz_D mm_P_daysUntilRotten 27 .ireturn 1 28 := ⟨by decide +kernel, rfl⟩
theorem ee_P_isReadable_0 : zz_D mm_P_isReadable 0 (.aload_n 0) 1 1 := ⟨by decide +kernel, rfl⟩
theorem ee_P_isReadable_1 : zz_D mm_P_isReadable 1 (.getfield 27) 3 4 := ⟨by decide +kernel, rfl⟩
theorem ff_P_isReadable_27 : zz_F mm_P_isReadable 27 0 3 := ⟨by decide, zz_in 258 (by decide +kernel) rfl⟩
theorem ee_P_isReadable_4 : zz_D mm_P_isReadable 4 (.iload_n 1) 1 5 := ⟨by decide +kernel, rfl⟩
theorem ee_P_isReadable_5 : zz_D mm_P_isReadable 5 (.invokevirtual 168) 3 8 := ⟨by decide +kernel, rfl⟩
theorem kk_P_isReadable_168 : zz_kV mm_P_isReadable mm_V_readTelegram 168 1 := ⟨⟨zz_in 1344 (by decide +kernel) rfl, zz_in 22 (by decide +kernel) rfl, by decide +kernel, by decide, by decide⟩, rfl, zz_in 1341 (by decide +kernel) rfl, zz_in 1342 (by decide +kernel) rfl, zz_in 1343 (by decide +kernel) rfl⟩
theorem ee_P_isReadable_8 : zz_D mm_P_isReadable 8 (.istore_n 2) 1 9 := ⟨by decide +kernel, rfl⟩
theorem ee_P_isReadable_9 : zz_D mm_P_isReadable 9 (.iload_n 2) 1 10 := ⟨by decide +kernel, rfl⟩
theorem ee_P_isReadable_10 : zz_D mm_P_isReadable 10 (.bipush (-11)) 2 12 := ⟨by decide +kernel, rfl⟩
theorem ee_P_isReadable_12 : zz_D mm_P_isReadable 12 (.if_icmp .ne 11) 3 15 := ⟨by decide +kernel, rfl⟩
theorem ee_P_isReadable_15 : zz_D mm_P_isReadable 15 (.new 147) 3 18 := ⟨by decide +kernel, rfl⟩
theorem tt_P_isReadable_15 : zz_T mm_P_isReadable 15 147 149 "java/util/NoSuchElementException" ["java/lang/RuntimeException", "java/lang/Exception"] := ⟨⟨ee_P_isReadable_15.1, by decide +kernel, by decide +kernel, by decide +kernel⟩, by decide +kernel, by decide +kernel, zz_in 539 (by decide +kernel) rfl, zz_in 33 (by decide +kernel) rfl, tw_P_149, to_P_149, by decide, by decide⟩
theorem ee_P_isReadable_18 : zz_D mm_P_isReadable 18 .dup 1 19 := ⟨by decide +kernel, rfl⟩
theorem ee_P_isReadable_19 : zz_D mm_P_isReadable 19 (.invokespecial 149) 3 22 := ⟨by decide +kernel, rfl⟩
theorem ee_P_isReadable_22 : zz_D mm_P_isReadable 22 .athrow 1 23 := ⟨by decide +kernel, rfl⟩
theorem ee_P_isReadable_23 : zz_D mm_P_isReadable 23 (.iload_n 2) 1 24 := ⟨by decide +kernel, rfl⟩
theorem ee_P_isReadable_24 : zz_D mm_P_isReadable 24 (.ifCond .lt 7) 3 27 := ⟨by decide +kernel, rfl⟩
theorem ee_P_isReadable_27 : zz_D mm_P_isReadable 27 (.iconst 1) 1 28 := ⟨by decide +kernel, rfl⟩
theorem ee_P_isReadable_28 : zz_D mm_P_isReadable 28 (.goto 4) 3 31 := ⟨by decide +kernel, rfl⟩
theorem ee_P_isReadable_31 : zz_D mm_P_isReadable 31 (.iconst 0) 1 32 := ⟨by decide +kernel, rfl⟩
theorem ee_P_isReadable_32 : zz_D mm_P_isReadable 32 .ireturn 1 33 := ⟨by decide +kernel, rfl⟩
theorem ee_P_decodedLength_0 : zz_D mm_P_decodedLength 0 (.aload_n 0) 1 1 := ⟨by decide +kernel, rfl⟩
theorem ee_P_decodedLength_1 : zz_D mm_P_decodedLength 1 (.iload_n 1) 1 2 := ⟨by decide +kernel, rfl⟩
theorem ee_P_decodedLength_2 : zz_D mm_P_decodedLength 2 (.invokevirtual 225) 3 5 := ⟨by decide +kernel, rfl⟩
theorem kk_P_decodedLength_225 : zz_kV mm_P_decodedLength mm_P_requireValidCode 225 1 := ⟨⟨zz_in 1355 (by decide +kernel) rfl, zz_in 19 (by decide +kernel) rfl, by decide +kernel, by decide, by decide⟩, rfl, zz_in 1352 (by decide +kernel) rfl, zz_in 1354 (by decide +kernel) rfl, zz_in 16 (by decide +kernel) rfl⟩
theorem ee_P_decodedLength_5 : zz_D mm_P_decodedLength 5 (.aload_n 0) 1 6 := ⟨by decide +kernel, rfl⟩
theorem ee_P_decodedLength_6 : zz_D mm_P_decodedLength 6 (.getfield 27) 3 9 := ⟨by decide +kernel, rfl⟩
theorem ff_P_decodedLength_27 : zz_F mm_P_decodedLength 27 0 3 := ⟨by decide, zz_in 258 (by decide +kernel) rfl⟩
theorem ee_P_decodedLength_9 : zz_D mm_P_decodedLength 9 (.getfield 174) 3 12 := ⟨by decide +kernel, rfl⟩
theorem ff_P_decodedLength_174 : zz_F mm_P_decodedLength 174 1 1 := ⟨by decide, zz_in 177 (by decide +kernel) rfl⟩
theorem ee_P_decodedLength_12 : zz_D mm_P_decodedLength 12 (.invokestatic 111) 3 15 := ⟨by decide +kernel, rfl⟩
theorem kk_P_decodedLength_111 : zz_kS mm_P_decodedLength mm_O_unfold 111 2 := ⟨⟨zz_in 886 (by decide +kernel) rfl, zz_in 41 (by decide +kernel) rfl, by decide +kernel, by decide, by decide⟩, rfl, zz_in 1357 (by decide +kernel) rfl, zz_in 885 (by decide +kernel) rfl⟩
theorem ee_P_decodedLength_15 : zz_D mm_P_decodedLength 15 (.aload_n 0) 1 16 := ⟨by decide +kernel, rfl⟩
theorem ee_P_decodedLength_16 : zz_D mm_P_decodedLength 16 (.getfield 27) 3 19 := ⟨by decide +kernel, rfl⟩
theorem ee_P_decodedLength_19 : zz_D mm_P_decodedLength 19 (.getfield 174) 3 22 := ⟨by decide +kernel, rfl⟩
theorem ee_P_decodedLength_22 : zz_D mm_P_decodedLength 22 (.getfield 89) 3 25 := ⟨by decide +kernel, rfl⟩
theorem ff_P_decodedLength_89 : zz_F mm_P_decodedLength 89 7 1 := ⟨by decide, zz_in 73 (by decide +kernel) rfl⟩
theorem ee_P_decodedLength_25 : zz_D mm_P_decodedLength 25 .ireturn 1 26 := ⟨by decide +kernel, rfl⟩
theorem ee_P_requireValidCode_0 : zz_D mm_P_requireValidCode 0 (.aload_n 0) 1 1 := ⟨by decide +kernel, rfl⟩
theorem ee_P_requireValidCode_1 : zz_D mm_P_requireValidCode 1 (.iload_n 1) 1 2 := ⟨by decide +kernel, rfl⟩
theorem ee_P_requireValidCode_2 : zz_D mm_P_requireValidCode 2 (.invokevirtual 205) 3 5 := ⟨by decide +kernel, rfl⟩
theorem kk_P_requireValidCode_205 : zz_kV mm_P_requireValidCode mm_P_requireTelegram 205 1 := ⟨⟨zz_in 725 (by decide +kernel) rfl, zz_in 19 (by decide +kernel) rfl, by decide +kernel, by decide, by decide⟩, rfl, zz_in 722 (by decide +kernel) rfl, zz_in 724 (by decide +kernel) rfl, zz_in 6 (by decide +kernel) rfl⟩
theorem ee_P_requireValidCode_5 : zz_D mm_P_requireValidCode 5 (.getfield 214) 3 8 := ⟨by decide +kernel, rfl⟩
theorem ff_P_requireValidCode_214 : zz_F mm_P_requireValidCode 214 6 0 := ⟨by decide, zz_in 107 (by decide +kernel) rfl⟩
theorem ee_P_requireValidCode_8 : zz_D mm_P_requireValidCode 8 (.astore_n 2) 1 9 := ⟨by decide +kernel, rfl⟩
theorem ee_P_requireValidCode_9 : zz_D mm_P_requireValidCode 9 (.aload_n 2) 1 10 := ⟨by decide +kernel, rfl⟩
theorem ee_P_requireValidCode_10 : zz_D mm_P_requireValidCode 10 (.invokestatic 108) 3 13 := ⟨by decide +kernel, rfl⟩
theorem kk_P_requireValidCode_108 : zz_kS mm_P_requireValidCode mm_O_faultIn 108 1 := ⟨⟨zz_in 883 (by decide +kernel) rfl, zz_in 41 (by decide +kernel) rfl, by decide +kernel, by decide, by decide⟩, rfl, zz_in 1356 (by decide +kernel) rfl, zz_in 882 (by decide +kernel) rfl⟩
theorem ee_P_requireValidCode_13 : zz_D mm_P_requireValidCode 13 (.iconst (-1)) 1 14 := ⟨by decide +kernel, rfl⟩
theorem ee_P_requireValidCode_14 : zz_D mm_P_requireValidCode 14 (.if_icmp .eq 11) 3 17 := ⟨by decide +kernel, rfl⟩
theorem ee_P_requireValidCode_17 : zz_D mm_P_requireValidCode 17 (.new 147) 3 20 := ⟨by decide +kernel, rfl⟩
theorem tt_P_requireValidCode_17 : zz_T mm_P_requireValidCode 17 147 149 "java/util/NoSuchElementException" ["java/lang/RuntimeException", "java/lang/Exception"] := ⟨⟨ee_P_requireValidCode_17.1, by decide +kernel, by decide +kernel, by decide +kernel⟩, by decide +kernel, by decide +kernel, zz_in 539 (by decide +kernel) rfl, zz_in 33 (by decide +kernel) rfl, tw_P_149, to_P_149, by decide, by decide⟩
theorem ee_P_requireValidCode_20 : zz_D mm_P_requireValidCode 20 .dup 1 21 := ⟨by decide +kernel, rfl⟩
theorem ee_P_requireValidCode_21 : zz_D mm_P_requireValidCode 21 (.invokespecial 149) 3 24 := ⟨by decide +kernel, rfl⟩
theorem ee_P_requireValidCode_24 : zz_D mm_P_requireValidCode 24 .athrow 1 25 := ⟨by decide +kernel, rfl⟩
theorem ee_P_requireValidCode_25 : zz_D mm_P_requireValidCode 25 (.aload_n 2) 1 26 := ⟨by decide +kernel, rfl⟩
theorem ee_P_requireValidCode_26 : zz_D mm_P_requireValidCode 26 .areturn 1 27 := ⟨by decide +kernel, rfl⟩
theorem ee_P_codeLength_0 : zz_D mm_P_codeLength 0 (.aload_n 0) 1 1 := ⟨by decide +kernel, rfl⟩
theorem ee_P_codeLength_1 : zz_D mm_P_codeLength 1 (.iload_n 1) 1 2 := ⟨by decide +kernel, rfl⟩
theorem ee_P_codeLength_2 : zz_D mm_P_codeLength 2 (.invokevirtual 205) 3 5 := ⟨by decide +kernel, rfl⟩
theorem kk_P_codeLength_205 : zz_kV mm_P_codeLength mm_P_requireTelegram 205 1 := ⟨⟨zz_in 725 (by decide +kernel) rfl, zz_in 19 (by decide +kernel) rfl, by decide +kernel, by decide, by decide⟩, rfl, zz_in 722 (by decide +kernel) rfl, zz_in 724 (by decide +kernel) rfl, zz_in 6 (by decide +kernel) rfl⟩
theorem ee_P_codeLength_5 : zz_D mm_P_codeLength 5 (.getfield 214) 3 8 := ⟨by decide +kernel, rfl⟩
theorem ff_P_codeLength_214 : zz_F mm_P_codeLength 214 6 0 := ⟨by decide, zz_in 107 (by decide +kernel) rfl⟩
theorem ee_P_codeLength_8 : zz_D mm_P_codeLength 8 (.getfield 89) 3 11 := ⟨by decide +kernel, rfl⟩
theorem ff_P_codeLength_89 : zz_F mm_P_codeLength 89 7 1 := ⟨by decide, zz_in 73 (by decide +kernel) rfl⟩
theorem ee_P_codeLength_11 : zz_D mm_P_codeLength 11 .ireturn 1 12 := ⟨by decide +kernel, rfl⟩
theorem ee_P_codeCharacter_0 : zz_D mm_P_codeCharacter 0 (.aload_n 0) 1 1 := ⟨by decide +kernel, rfl⟩
theorem ee_P_codeCharacter_1 : zz_D mm_P_codeCharacter 1 (.iload_n 1) 1 2 := ⟨by decide +kernel, rfl⟩
theorem ee_P_codeCharacter_2 : zz_D mm_P_codeCharacter 2 (.invokevirtual 205) 3 5 := ⟨by decide +kernel, rfl⟩
theorem kk_P_codeCharacter_205 : zz_kV mm_P_codeCharacter mm_P_requireTelegram 205 1 := ⟨⟨zz_in 725 (by decide +kernel) rfl, zz_in 19 (by decide +kernel) rfl, by decide +kernel, by decide, by decide⟩, rfl, zz_in 722 (by decide +kernel) rfl, zz_in 724 (by decide +kernel) rfl, zz_in 6 (by decide +kernel) rfl⟩
theorem ee_P_codeCharacter_5 : zz_D mm_P_codeCharacter 5 (.getfield 214) 3 8 := ⟨by decide +kernel, rfl⟩
theorem ff_P_codeCharacter_214 : zz_F mm_P_codeCharacter 214 6 0 := ⟨by decide, zz_in 107 (by decide +kernel) rfl⟩
theorem ee_P_codeCharacter_8 : zz_D mm_P_codeCharacter 8 (.astore_n 3) 1 9 := ⟨by decide +kernel, rfl⟩
theorem ee_P_codeCharacter_9 : zz_D mm_P_codeCharacter 9 (.aload_n 3) 1 10 := ⟨by decide +kernel, rfl⟩
theorem ee_P_codeCharacter_10 : zz_D mm_P_codeCharacter 10 (.iload_n 2) 1 11 := ⟨by decide +kernel, rfl⟩
theorem ee_P_codeCharacter_11 : zz_D mm_P_codeCharacter 11 (.invokevirtual 217) 3 14 := ⟨by decide +kernel, rfl⟩
theorem kk_P_codeCharacter_217 : zz_kV mm_P_codeCharacter mm_T_has 217 1 := ⟨⟨zz_in 315 (by decide +kernel) rfl, zz_in 20 (by decide +kernel) rfl, by decide +kernel, by decide, by decide⟩, rfl, zz_in 1372 (by decide +kernel) rfl, zz_in 313 (by decide +kernel) rfl, zz_in 314 (by decide +kernel) rfl⟩
theorem ee_P_codeCharacter_14 : zz_D mm_P_codeCharacter 14 (.ifCond .ne 11) 3 17 := ⟨by decide +kernel, rfl⟩
theorem ee_P_codeCharacter_17 : zz_D mm_P_codeCharacter 17 (.new 188) 3 20 := ⟨by decide +kernel, rfl⟩
theorem tt_P_codeCharacter_17 : zz_T mm_P_codeCharacter 17 188 190 "java/lang/IndexOutOfBoundsException" ["java/lang/RuntimeException", "java/lang/Exception"] := ⟨⟨ee_P_codeCharacter_17.1, by decide +kernel, by decide +kernel, by decide +kernel⟩, by decide +kernel, by decide +kernel, zz_in 554 (by decide +kernel) rfl, zz_in 34 (by decide +kernel) rfl, tw_P_190, to_P_190, by decide, by decide⟩
theorem ee_P_codeCharacter_20 : zz_D mm_P_codeCharacter 20 .dup 1 21 := ⟨by decide +kernel, rfl⟩
theorem ee_P_codeCharacter_21 : zz_D mm_P_codeCharacter 21 (.invokespecial 190) 3 24 := ⟨by decide +kernel, rfl⟩
theorem ee_P_codeCharacter_24 : zz_D mm_P_codeCharacter 24 .athrow 1 25 := ⟨by decide +kernel, rfl⟩
theorem ee_P_codeCharacter_25 : zz_D mm_P_codeCharacter 25 (.aload_n 3) 1 26 := ⟨by decide +kernel, rfl⟩
theorem ee_P_codeCharacter_26 : zz_D mm_P_codeCharacter 26 (.iload_n 2) 1 27 := ⟨by decide +kernel, rfl⟩
theorem ee_P_codeCharacter_27 : zz_D mm_P_codeCharacter 27 (.invokevirtual 221) 3 30 := ⟨by decide +kernel, rfl⟩
theorem kk_P_codeCharacter_221 : zz_kV mm_P_codeCharacter mm_T_at 221 1 := ⟨⟨zz_in 311 (by decide +kernel) rfl, zz_in 20 (by decide +kernel) rfl, by decide +kernel, by decide, by decide⟩, rfl, zz_in 1373 (by decide +kernel) rfl, zz_in 309 (by decide +kernel) rfl, zz_in 310 (by decide +kernel) rfl⟩
theorem ee_P_codeCharacter_30 : zz_D mm_P_codeCharacter 30 .ireturn 1 31 := ⟨by decide +kernel, rfl⟩
theorem ee_P_writeTelegram_0 : zz_D mm_P_writeTelegram 0 (.aload_n 0) 1 1 := ⟨by decide +kernel, rfl⟩
theorem ee_P_writeTelegram_1 : zz_D mm_P_writeTelegram 1 (.iload_n 1) 1 2 := ⟨by decide +kernel, rfl⟩
theorem ee_P_writeTelegram_2 : zz_D mm_P_writeTelegram 2 (.invokevirtual 205) 3 5 := ⟨by decide +kernel, rfl⟩
theorem kk_P_writeTelegram_205 : zz_kV mm_P_writeTelegram mm_P_requireTelegram 205 1 := ⟨⟨zz_in 725 (by decide +kernel) rfl, zz_in 19 (by decide +kernel) rfl, by decide +kernel, by decide, by decide⟩, rfl, zz_in 722 (by decide +kernel) rfl, zz_in 724 (by decide +kernel) rfl, zz_in 6 (by decide +kernel) rfl⟩
theorem ee_P_writeTelegram_5 : zz_D mm_P_writeTelegram 5 (.aload_n 0) 1 6 := ⟨by decide +kernel, rfl⟩
theorem ee_P_writeTelegram_6 : zz_D mm_P_writeTelegram 6 (.getfield 21) 3 9 := ⟨by decide +kernel, rfl⟩
theorem ff_P_writeTelegram_21 : zz_F mm_P_writeTelegram 21 0 2 := ⟨by decide, zz_in 257 (by decide +kernel) rfl⟩
theorem ee_P_writeTelegram_9 : zz_D mm_P_writeTelegram 9 (.invokevirtual 304) 3 12 := ⟨by decide +kernel, rfl⟩
theorem kk_P_writeTelegram_304 : zz_kV mm_P_writeTelegram mm_G_writeTo 304 1 := ⟨⟨zz_in 1384 (by decide +kernel) rfl, zz_in 24 (by decide +kernel) rfl, by decide +kernel, by decide, by decide⟩, rfl, zz_in 1381 (by decide +kernel) rfl, zz_in 1382 (by decide +kernel) rfl, zz_in 1383 (by decide +kernel) rfl⟩
theorem ee_P_writeTelegram_12 : zz_D mm_P_writeTelegram 12 (.aload_n 0) 1 13 := ⟨by decide +kernel, rfl⟩
theorem ee_P_writeTelegram_13 : zz_D mm_P_writeTelegram 13 (.getfield 21) 3 16 := ⟨by decide +kernel, rfl⟩
theorem ee_P_writeTelegram_16 : zz_D mm_P_writeTelegram 16 (.getfield 89) 3 19 := ⟨by decide +kernel, rfl⟩
theorem ff_P_writeTelegram_89 : zz_F mm_P_writeTelegram 89 7 1 := ⟨by decide, zz_in 73 (by decide +kernel) rfl⟩
theorem ee_P_writeTelegram_19 : zz_D mm_P_writeTelegram 19 .ireturn 1 20 := ⟨by decide +kernel, rfl⟩
theorem ee_P_lineCharacter_0 : zz_D mm_P_lineCharacter 0 (.aload_n 0) 1 1 := ⟨by decide +kernel, rfl⟩
theorem ee_P_lineCharacter_1 : zz_D mm_P_lineCharacter 1 (.getfield 21) 3 4 := ⟨by decide +kernel, rfl⟩
theorem ff_P_lineCharacter_21 : zz_F mm_P_lineCharacter 21 0 2 := ⟨by decide, zz_in 257 (by decide +kernel) rfl⟩
theorem ee_P_lineCharacter_4 : zz_D mm_P_lineCharacter 4 (.iload_n 1) 1 5 := ⟨by decide +kernel, rfl⟩
theorem ee_P_lineCharacter_5 : zz_D mm_P_lineCharacter 5 (.invokevirtual 217) 3 8 := ⟨by decide +kernel, rfl⟩
theorem kk_P_lineCharacter_217 : zz_kV mm_P_lineCharacter mm_T_has 217 1 := ⟨⟨zz_in 315 (by decide +kernel) rfl, zz_in 20 (by decide +kernel) rfl, by decide +kernel, by decide, by decide⟩, rfl, zz_in 1372 (by decide +kernel) rfl, zz_in 313 (by decide +kernel) rfl, zz_in 314 (by decide +kernel) rfl⟩
theorem ee_P_lineCharacter_8 : zz_D mm_P_lineCharacter 8 (.ifCond .ne 11) 3 11 := ⟨by decide +kernel, rfl⟩
theorem ee_P_lineCharacter_11 : zz_D mm_P_lineCharacter 11 (.new 188) 3 14 := ⟨by decide +kernel, rfl⟩
theorem tt_P_lineCharacter_11 : zz_T mm_P_lineCharacter 11 188 190 "java/lang/IndexOutOfBoundsException" ["java/lang/RuntimeException", "java/lang/Exception"] := ⟨⟨ee_P_lineCharacter_11.1, by decide +kernel, by decide +kernel, by decide +kernel⟩, by decide +kernel, by decide +kernel, zz_in 554 (by decide +kernel) rfl, zz_in 34 (by decide +kernel) rfl, tw_P_190, to_P_190, by decide, by decide⟩
theorem ee_P_lineCharacter_14 : zz_D mm_P_lineCharacter 14 .dup 1 15 := ⟨by decide +kernel, rfl⟩
theorem ee_P_lineCharacter_15 : zz_D mm_P_lineCharacter 15 (.invokespecial 190) 3 18 := ⟨by decide +kernel, rfl⟩
theorem ee_P_lineCharacter_18 : zz_D mm_P_lineCharacter 18 .athrow 1 19 := ⟨by decide +kernel, rfl⟩
theorem ee_P_lineCharacter_19 : zz_D mm_P_lineCharacter 19 (.aload_n 0) 1 20 := ⟨by decide +kernel, rfl⟩
theorem ee_P_lineCharacter_20 : zz_D mm_P_lineCharacter 20 (.getfield 21) 3 23 := ⟨by decide +kernel, rfl⟩
theorem ee_P_lineCharacter_23 : zz_D mm_P_lineCharacter 23 (.iload_n 1) 1 24 := ⟨by decide +kernel, rfl⟩
theorem ee_P_lineCharacter_24 : zz_D mm_P_lineCharacter 24 (.invokevirtual 221) 3 27 := ⟨by decide +kernel, rfl⟩
theorem kk_P_lineCharacter_221 : zz_kV mm_P_lineCharacter mm_T_at 221 1 := ⟨⟨zz_in 311 (by decide +kernel) rfl, zz_in 20 (by decide +kernel) rfl, by decide +kernel, by decide, by decide⟩, rfl, zz_in 1373 (by decide +kernel) rfl, zz_in 309 (by decide +kernel) rfl, zz_in 310 (by decide +kernel) rfl⟩
theorem ee_P_lineCharacter_27 : zz_D mm_P_lineCharacter 27 .ireturn 1 28 := ⟨by decide +kernel, rfl⟩
theorem ee_P_dry_0 : zz_D mm_P_dry 0 (.aload_n 0) 1 1 := ⟨by decide +kernel, rfl⟩
theorem ee_P_dry_1 : zz_D mm_P_dry 1 (.getfield 45) 3 4 := ⟨by decide +kernel, rfl⟩
theorem ff_P_dry_45 : zz_F mm_P_dry 45 0 6 := ⟨by decide, zz_in 261 (by decide +kernel) rfl⟩
theorem ee_P_dry_4 : zz_D mm_P_dry 4 (.aload_n 0) 1 5 := ⟨by decide +kernel, rfl⟩
theorem ee_P_dry_5 : zz_D mm_P_dry 5 (.getfield 35) 3 8 := ⟨by decide +kernel, rfl⟩
theorem ff_P_dry_35 : zz_F mm_P_dry 35 0 4 := ⟨by decide, zz_in 259 (by decide +kernel) rfl⟩
theorem ee_P_dry_8 : zz_D mm_P_dry 8 (.invokevirtual 117) 3 11 := ⟨by decide +kernel, rfl⟩
theorem kk_P_dry_117 : zz_kV mm_P_dry mm_H_prepare 117 1 := ⟨⟨zz_in 510 (by decide +kernel) rfl, zz_in 25 (by decide +kernel) rfl, by decide +kernel, by decide, by decide⟩, rfl, zz_in 507 (by decide +kernel) rfl, zz_in 508 (by decide +kernel) rfl, zz_in 509 (by decide +kernel) rfl⟩
theorem ee_P_dry_11 : zz_D mm_P_dry 11 (.aload_n 0) 1 12 := ⟨by decide +kernel, rfl⟩
theorem ee_P_dry_12 : zz_D mm_P_dry 12 (.aload_n 0) 1 13 := ⟨by decide +kernel, rfl⟩
theorem ee_P_dry_13 : zz_D mm_P_dry 13 (.getfield 27) 3 16 := ⟨by decide +kernel, rfl⟩
theorem ff_P_dry_27 : zz_F mm_P_dry 27 0 3 := ⟨by decide, zz_in 258 (by decide +kernel) rfl⟩
theorem ee_P_dry_16 : zz_D mm_P_dry 16 (.iload_n 1) 1 17 := ⟨by decide +kernel, rfl⟩
theorem ee_P_dry_17 : zz_D mm_P_dry 17 (.invokevirtual 128) 3 20 := ⟨by decide +kernel, rfl⟩
theorem kk_P_dry_128 : zz_kV mm_P_dry mm_V_dryRoot 128 1 := ⟨⟨zz_in 865 (by decide +kernel) rfl, zz_in 22 (by decide +kernel) rfl, by decide +kernel, by decide, by decide⟩, rfl, zz_in 1416 (by decide +kernel) rfl, zz_in 863 (by decide +kernel) rfl, zz_in 864 (by decide +kernel) rfl⟩
theorem ee_P_dry_20 : zz_D mm_P_dry 20 (.invokevirtual 125) 3 23 := ⟨by decide +kernel, rfl⟩
theorem kk_P_dry_125 : zz_kV mm_P_dry mm_P_settle 125 1 := ⟨⟨zz_in 534 (by decide +kernel) rfl, zz_in 19 (by decide +kernel) rfl, by decide +kernel, by decide, by decide⟩, rfl, zz_in 531 (by decide +kernel) rfl, zz_in 533 (by decide +kernel) rfl, zz_in 2 (by decide +kernel) rfl⟩
theorem ee_P_dry_23 : zz_D mm_P_dry 23 .ireturn 1 24 := ⟨by decide +kernel, rfl⟩
theorem ee_P_damage_0 : zz_D mm_P_damage 0 (.aload_n 0) 1 1 := ⟨by decide +kernel, rfl⟩
theorem ee_P_damage_1 : zz_D mm_P_damage 1 (.getfield 45) 3 4 := ⟨by decide +kernel, rfl⟩
theorem ff_P_damage_45 : zz_F mm_P_damage 45 0 6 := ⟨by decide, zz_in 261 (by decide +kernel) rfl⟩
theorem ee_P_damage_4 : zz_D mm_P_damage 4 (.aload_n 0) 1 5 := ⟨by decide +kernel, rfl⟩
theorem ee_P_damage_5 : zz_D mm_P_damage 5 (.getfield 35) 3 8 := ⟨by decide +kernel, rfl⟩
theorem ff_P_damage_35 : zz_F mm_P_damage 35 0 4 := ⟨by decide, zz_in 259 (by decide +kernel) rfl⟩
theorem ee_P_damage_8 : zz_D mm_P_damage 8 (.invokevirtual 117) 3 11 := ⟨by decide +kernel, rfl⟩
theorem kk_P_damage_117 : zz_kV mm_P_damage mm_H_prepare 117 1 := ⟨⟨zz_in 510 (by decide +kernel) rfl, zz_in 25 (by decide +kernel) rfl, by decide +kernel, by decide, by decide⟩, rfl, zz_in 507 (by decide +kernel) rfl, zz_in 508 (by decide +kernel) rfl, zz_in 509 (by decide +kernel) rfl⟩
theorem ee_P_damage_11 : zz_D mm_P_damage 11 (.aload_n 0) 1 12 := ⟨by decide +kernel, rfl⟩
theorem ee_P_damage_12 : zz_D mm_P_damage 12 (.aload_n 0) 1 13 := ⟨by decide +kernel, rfl⟩
theorem ee_P_damage_13 : zz_D mm_P_damage 13 (.getfield 27) 3 16 := ⟨by decide +kernel, rfl⟩
theorem ff_P_damage_27 : zz_F mm_P_damage 27 0 3 := ⟨by decide, zz_in 258 (by decide +kernel) rfl⟩
theorem ee_P_damage_16 : zz_D mm_P_damage 16 (.iload_n 1) 1 17 := ⟨by decide +kernel, rfl⟩
theorem ee_P_damage_17 : zz_D mm_P_damage 17 (.iload_n 2) 1 18 := ⟨by decide +kernel, rfl⟩
theorem ee_P_damage_18 : zz_D mm_P_damage 18 (.iload_n 3) 1 19 := ⟨by decide +kernel, rfl⟩
theorem ee_P_damage_19 : zz_D mm_P_damage 19 (.invokevirtual 154) 3 22 := ⟨by decide +kernel, rfl⟩
theorem kk_P_damage_154 : zz_kV mm_P_damage mm_V_damageCode 154 3 := ⟨⟨zz_in 1457 (by decide +kernel) rfl, zz_in 22 (by decide +kernel) rfl, by decide +kernel, by decide, by decide⟩, rfl, zz_in 1454 (by decide +kernel) rfl, zz_in 1455 (by decide +kernel) rfl, zz_in 1456 (by decide +kernel) rfl⟩
theorem ee_P_damage_22 : zz_D mm_P_damage 22 (.invokevirtual 125) 3 25 := ⟨by decide +kernel, rfl⟩
theorem kk_P_damage_125 : zz_kV mm_P_damage mm_P_settle 125 1 := ⟨⟨zz_in 534 (by decide +kernel) rfl, zz_in 19 (by decide +kernel) rfl, by decide +kernel, by decide, by decide⟩, rfl, zz_in 531 (by decide +kernel) rfl, zz_in 533 (by decide +kernel) rfl, zz_in 2 (by decide +kernel) rfl⟩
theorem ee_P_damage_25 : zz_D mm_P_damage 25 .i2c 1 26 := ⟨by decide +kernel, rfl⟩
theorem ee_P_damage_26 : zz_D mm_P_damage 26 .ireturn 1 27 := ⟨by decide +kernel, rfl⟩
theorem ee_P_recarve_0 : zz_D mm_P_recarve 0 (.aload_n 0) 1 1 := ⟨by decide +kernel, rfl⟩
theorem ee_P_recarve_1 : zz_D mm_P_recarve 1 (.getfield 45) 3 4 := ⟨by decide +kernel, rfl⟩
theorem ff_P_recarve_45 : zz_F mm_P_recarve 45 0 6 := ⟨by decide, zz_in 261 (by decide +kernel) rfl⟩
theorem ee_P_recarve_4 : zz_D mm_P_recarve 4 (.aload_n 0) 1 5 := ⟨by decide +kernel, rfl⟩
theorem ee_P_recarve_5 : zz_D mm_P_recarve 5 (.getfield 35) 3 8 := ⟨by decide +kernel, rfl⟩
theorem ff_P_recarve_35 : zz_F mm_P_recarve 35 0 4 := ⟨by decide, zz_in 259 (by decide +kernel) rfl⟩
theorem ee_P_recarve_8 : zz_D mm_P_recarve 8 (.invokevirtual 117) 3 11 := ⟨by decide +kernel, rfl⟩
theorem kk_P_recarve_117 : zz_kV mm_P_recarve mm_H_prepare 117 1 := ⟨⟨zz_in 510 (by decide +kernel) rfl, zz_in 25 (by decide +kernel) rfl, by decide +kernel, by decide, by decide⟩, rfl, zz_in 507 (by decide +kernel) rfl, zz_in 508 (by decide +kernel) rfl, zz_in 509 (by decide +kernel) rfl⟩
theorem ee_P_recarve_11 : zz_D mm_P_recarve 11 (.aload_n 0) 1 12 := ⟨by decide +kernel, rfl⟩
theorem ee_P_recarve_12 : zz_D mm_P_recarve 12 (.aload_n 0) 1 13 := ⟨by decide +kernel, rfl⟩
theorem ee_P_recarve_13 : zz_D mm_P_recarve 13 (.getfield 27) 3 16 := ⟨by decide +kernel, rfl⟩
theorem ff_P_recarve_27 : zz_F mm_P_recarve 27 0 3 := ⟨by decide, zz_in 258 (by decide +kernel) rfl⟩
theorem ee_P_recarve_16 : zz_D mm_P_recarve 16 (.iload_n 1) 1 17 := ⟨by decide +kernel, rfl⟩
theorem ee_P_recarve_17 : zz_D mm_P_recarve 17 (.invokevirtual 158) 3 20 := ⟨by decide +kernel, rfl⟩
theorem kk_P_recarve_158 : zz_kV mm_P_recarve mm_V_carveAnew 158 1 := ⟨⟨zz_in 871 (by decide +kernel) rfl, zz_in 22 (by decide +kernel) rfl, by decide +kernel, by decide, by decide⟩, rfl, zz_in 1472 (by decide +kernel) rfl, zz_in 869 (by decide +kernel) rfl, zz_in 870 (by decide +kernel) rfl⟩
theorem ee_P_recarve_20 : zz_D mm_P_recarve 20 (.invokevirtual 125) 3 23 := ⟨by decide +kernel, rfl⟩
theorem kk_P_recarve_125 : zz_kV mm_P_recarve mm_P_settle 125 1 := ⟨⟨zz_in 534 (by decide +kernel) rfl, zz_in 19 (by decide +kernel) rfl, by decide +kernel, by decide, by decide⟩, rfl, zz_in 531 (by decide +kernel) rfl, zz_in 533 (by decide +kernel) rfl, zz_in 2 (by decide +kernel) rfl⟩
theorem ee_P_recarve_23 : zz_D mm_P_recarve 23 .ireturn 1 24 := ⟨by decide +kernel, rfl⟩
theorem ee_P_move_0 : zz_D mm_P_move 0 (.aload_n 0) 1 1 := ⟨by decide +kernel, rfl⟩
theorem ee_P_move_1 : zz_D mm_P_move 1 (.getfield 45) 3 4 := ⟨by decide +kernel, rfl⟩
theorem ff_P_move_45 : zz_F mm_P_move 45 0 6 := ⟨by decide, zz_in 261 (by decide +kernel) rfl⟩
theorem ee_P_move_4 : zz_D mm_P_move 4 (.aload_n 0) 1 5 := ⟨by decide +kernel, rfl⟩
theorem ee_P_move_5 : zz_D mm_P_move 5 (.getfield 35) 3 8 := ⟨by decide +kernel, rfl⟩
theorem ff_P_move_35 : zz_F mm_P_move 35 0 4 := ⟨by decide, zz_in 259 (by decide +kernel) rfl⟩
theorem ee_P_move_8 : zz_D mm_P_move 8 (.invokevirtual 117) 3 11 := ⟨by decide +kernel, rfl⟩
theorem kk_P_move_117 : zz_kV mm_P_move mm_H_prepare 117 1 := ⟨⟨zz_in 510 (by decide +kernel) rfl, zz_in 25 (by decide +kernel) rfl, by decide +kernel, by decide, by decide⟩, rfl, zz_in 507 (by decide +kernel) rfl, zz_in 508 (by decide +kernel) rfl, zz_in 509 (by decide +kernel) rfl⟩
theorem ee_P_move_11 : zz_D mm_P_move 11 (.aload_n 0) 1 12 := ⟨by decide +kernel, rfl⟩
theorem ee_P_move_12 : zz_D mm_P_move 12 (.aload_n 0) 1 13 := ⟨by decide +kernel, rfl⟩
theorem ee_P_move_13 : zz_D mm_P_move 13 (.getfield 27) 3 16 := ⟨by decide +kernel, rfl⟩
theorem ff_P_move_27 : zz_F mm_P_move 27 0 3 := ⟨by decide, zz_in 258 (by decide +kernel) rfl⟩
theorem ee_P_move_16 : zz_D mm_P_move 16 (.iload_n 1) 1 17 := ⟨by decide +kernel, rfl⟩
theorem ee_P_move_17 : zz_D mm_P_move 17 (.iload_n 2) 1 18 := ⟨by decide +kernel, rfl⟩
theorem ee_P_move_18 : zz_D mm_P_move 18 (.invokevirtual 161) 3 21 := ⟨by decide +kernel, rfl⟩
theorem kk_P_move_161 : zz_kV mm_P_move mm_V_moveTelegram 161 2 := ⟨⟨zz_in 890 (by decide +kernel) rfl, zz_in 22 (by decide +kernel) rfl, by decide +kernel, by decide, by decide⟩, rfl, zz_in 1480 (by decide +kernel) rfl, zz_in 888 (by decide +kernel) rfl, zz_in 889 (by decide +kernel) rfl⟩
theorem ee_P_move_21 : zz_D mm_P_move 21 (.invokevirtual 125) 3 24 := ⟨by decide +kernel, rfl⟩
theorem kk_P_move_125 : zz_kV mm_P_move mm_P_settle 125 1 := ⟨⟨zz_in 534 (by decide +kernel) rfl, zz_in 19 (by decide +kernel) rfl, by decide +kernel, by decide, by decide⟩, rfl, zz_in 531 (by decide +kernel) rfl, zz_in 533 (by decide +kernel) rfl, zz_in 2 (by decide +kernel) rfl⟩
theorem ee_P_move_24 : zz_D mm_P_move 24 .ireturn 1 25 := ⟨by decide +kernel, rfl⟩
theorem ee_P_read_0 : zz_D mm_P_read 0 (.aload_n 0) 1 1 := ⟨by decide +kernel, rfl⟩
theorem ee_P_read_1 : zz_D mm_P_read 1 (.aload_n 0) 1 2 := ⟨by decide +kernel, rfl⟩
theorem ee_P_read_2 : zz_D mm_P_read 2 (.getfield 27) 3 5 := ⟨by decide +kernel, rfl⟩
theorem ff_P_read_27 : zz_F mm_P_read 27 0 3 := ⟨by decide, zz_in 258 (by decide +kernel) rfl⟩
theorem ee_P_read_5 : zz_D mm_P_read 5 (.iload_n 1) 1 6 := ⟨by decide +kernel, rfl⟩
theorem ee_P_read_6 : zz_D mm_P_read 6 (.invokevirtual 168) 3 9 := ⟨by decide +kernel, rfl⟩
theorem kk_P_read_168 : zz_kV mm_P_read mm_V_readTelegram 168 1 := ⟨⟨zz_in 1344 (by decide +kernel) rfl, zz_in 22 (by decide +kernel) rfl, by decide +kernel, by decide, by decide⟩, rfl, zz_in 1341 (by decide +kernel) rfl, zz_in 1342 (by decide +kernel) rfl, zz_in 1343 (by decide +kernel) rfl⟩
theorem ee_P_read_9 : zz_D mm_P_read 9 (.invokevirtual 171) 3 12 := ⟨by decide +kernel, rfl⟩
theorem kk_P_read_171 : zz_kV mm_P_read mm_P_refuse 171 1 := ⟨⟨zz_in 538 (by decide +kernel) rfl, zz_in 19 (by decide +kernel) rfl, by decide +kernel, by decide, by decide⟩, rfl, zz_in 535 (by decide +kernel) rfl, zz_in 537 (by decide +kernel) rfl, zz_in 3 (by decide +kernel) rfl⟩
theorem ee_P_read_12 : zz_D mm_P_read 12 (.aload_n 0) 1 13 := ⟨by decide +kernel, rfl⟩
theorem ee_P_read_13 : zz_D mm_P_read 13 (.getfield 21) 3 16 := ⟨by decide +kernel, rfl⟩
theorem ff_P_read_21 : zz_F mm_P_read 21 0 2 := ⟨by decide, zz_in 257 (by decide +kernel) rfl⟩
theorem ee_P_read_16 : zz_D mm_P_read 16 (.aload_n 0) 1 17 := ⟨by decide +kernel, rfl⟩
theorem ee_P_read_17 : zz_D mm_P_read 17 (.getfield 27) 3 20 := ⟨by decide +kernel, rfl⟩
theorem ee_P_read_20 : zz_D mm_P_read 20 (.getfield 174) 3 23 := ⟨by decide +kernel, rfl⟩
theorem ff_P_read_174 : zz_F mm_P_read 174 1 1 := ⟨by decide, zz_in 177 (by decide +kernel) rfl⟩
theorem ee_P_read_23 : zz_D mm_P_read 23 (.invokevirtual 177) 3 26 := ⟨by decide +kernel, rfl⟩
theorem kk_P_read_177 : zz_kV mm_P_read mm_T_copyFrom 177 1 := ⟨⟨zz_in 392 (by decide +kernel) rfl, zz_in 20 (by decide +kernel) rfl, by decide +kernel, by decide, by decide⟩, rfl, zz_in 1499 (by decide +kernel) rfl, zz_in 390 (by decide +kernel) rfl, zz_in 391 (by decide +kernel) rfl⟩
theorem ee_P_read_26 : zz_D mm_P_read 26 (.aload_n 0) 1 27 := ⟨by decide +kernel, rfl⟩
theorem ee_P_read_27 : zz_D mm_P_read 27 (.getfield 21) 3 30 := ⟨by decide +kernel, rfl⟩
theorem ee_P_read_30 : zz_D mm_P_read 30 (.getfield 89) 3 33 := ⟨by decide +kernel, rfl⟩
theorem ff_P_read_89 : zz_F mm_P_read 89 7 1 := ⟨by decide, zz_in 73 (by decide +kernel) rfl⟩
theorem ee_P_read_33 : zz_D mm_P_read 33 .ireturn 1 34 := ⟨by decide +kernel, rfl⟩
theorem ee_P_rootOf_0 : zz_D mm_P_rootOf 0 (.aload_n 0) 1 1 := ⟨by decide +kernel, rfl⟩
theorem ee_P_rootOf_1 : zz_D mm_P_rootOf 1 (.iload_n 1) 1 2 := ⟨by decide +kernel, rfl⟩
theorem ee_P_rootOf_2 : zz_D mm_P_rootOf 2 (.invokevirtual 205) 3 5 := ⟨by decide +kernel, rfl⟩
theorem kk_P_rootOf_205 : zz_kV mm_P_rootOf mm_P_requireTelegram 205 1 := ⟨⟨zz_in 725 (by decide +kernel) rfl, zz_in 19 (by decide +kernel) rfl, by decide +kernel, by decide, by decide⟩, rfl, zz_in 722 (by decide +kernel) rfl, zz_in 724 (by decide +kernel) rfl, zz_in 6 (by decide +kernel) rfl⟩
theorem ee_P_rootOf_5 : zz_D mm_P_rootOf 5 (.getfield 208) 3 8 := ⟨by decide +kernel, rfl⟩
theorem ff_P_rootOf_208 : zz_F mm_P_rootOf 208 6 4 := ⟨by decide, zz_in 120 (by decide +kernel) rfl⟩
theorem ee_P_rootOf_8 : zz_D mm_P_rootOf 8 .ireturn 1 9 := ⟨by decide +kernel, rfl⟩
theorem ee_P_pageCount_0 : zz_D mm_P_pageCount 0 (.aload_n 0) 1 1 := ⟨by decide +kernel, rfl⟩
theorem ee_P_pageCount_1 : zz_D mm_P_pageCount 1 (.iload_n 1) 1 2 := ⟨by decide +kernel, rfl⟩
theorem ee_P_pageCount_2 : zz_D mm_P_pageCount 2 (.invokevirtual 205) 3 5 := ⟨by decide +kernel, rfl⟩
theorem kk_P_pageCount_205 : zz_kV mm_P_pageCount mm_P_requireTelegram 205 1 := ⟨⟨zz_in 725 (by decide +kernel) rfl, zz_in 19 (by decide +kernel) rfl, by decide +kernel, by decide, by decide⟩, rfl, zz_in 722 (by decide +kernel) rfl, zz_in 724 (by decide +kernel) rfl, zz_in 6 (by decide +kernel) rfl⟩
theorem ee_P_pageCount_5 : zz_D mm_P_pageCount 5 (.getfield 235) 3 8 := ⟨by decide +kernel, rfl⟩
theorem ff_P_pageCount_235 : zz_F mm_P_pageCount 235 6 2 := ⟨by decide, zz_in 112 (by decide +kernel) rfl⟩
theorem ee_P_pageCount_8 : zz_D mm_P_pageCount 8 .ireturn 1 9 := ⟨by decide +kernel, rfl⟩
theorem ee_P_decodedLengthByUnits_0 : zz_D mm_P_decodedLengthByUnits 0 (.aload_n 0) 1 1 := ⟨by decide +kernel, rfl⟩
theorem ee_P_decodedLengthByUnits_1 : zz_D mm_P_decodedLengthByUnits 1 (.iload_n 1) 1 2 := ⟨by decide +kernel, rfl⟩
theorem ee_P_decodedLengthByUnits_2 : zz_D mm_P_decodedLengthByUnits 2 (.invokevirtual 225) 3 5 := ⟨by decide +kernel, rfl⟩
theorem kk_P_decodedLengthByUnits_225 : zz_kV mm_P_decodedLengthByUnits mm_P_requireValidCode 225 1 := ⟨⟨zz_in 1355 (by decide +kernel) rfl, zz_in 19 (by decide +kernel) rfl, by decide +kernel, by decide, by decide⟩, rfl, zz_in 1352 (by decide +kernel) rfl, zz_in 1354 (by decide +kernel) rfl, zz_in 16 (by decide +kernel) rfl⟩
theorem ee_P_decodedLengthByUnits_5 : zz_D mm_P_decodedLengthByUnits 5 (.invokestatic 229) 3 8 := ⟨by decide +kernel, rfl⟩
theorem kk_P_decodedLengthByUnits_229 : zz_kS mm_P_decodedLengthByUnits mm_O_unfoldedLength 229 1 := ⟨⟨zz_in 1523 (by decide +kernel) rfl, zz_in 41 (by decide +kernel) rfl, by decide +kernel, by decide, by decide⟩, rfl, zz_in 1521 (by decide +kernel) rfl, zz_in 1522 (by decide +kernel) rfl⟩
theorem ee_P_decodedLengthByUnits_8 : zz_D mm_P_decodedLengthByUnits 8 .ireturn 1 9 := ⟨by decide +kernel, rfl⟩
end
section
theorem ee_JM_max_0 : zz_D mm_JM_max 0 (.iload_n 0) 1 1 := ⟨by decide +kernel, rfl⟩
theorem ee_JM_max_1 : zz_D mm_JM_max 1 (.iload_n 1) 1 2 := ⟨by decide +kernel, rfl⟩
theorem ee_JM_max_2 : zz_D mm_JM_max 2 (.if_icmp .lt 7) 3 5 := ⟨by decide +kernel, rfl⟩
theorem ee_JM_max_5 : zz_D mm_JM_max 5 (.iload_n 0) 1 6 := ⟨by decide +kernel, rfl⟩
theorem ee_JM_max_6 : zz_D mm_JM_max 6 (.goto 4) 3 9 := ⟨by decide +kernel, rfl⟩
theorem ee_JM_max_9 : zz_D mm_JM_max 9 (.iload_n 1) 1 10 := ⟨by decide +kernel, rfl⟩
theorem ee_JM_max_10 : zz_D mm_JM_max 10 .ireturn 1 11 := ⟨by decide +kernel, rfl⟩
theorem ee_JM_min_0 : zz_D mm_JM_min 0 (.iload_n 0) 1 1 := ⟨by decide +kernel, rfl⟩
theorem ee_JM_min_1 : zz_D mm_JM_min 1 (.iload_n 1) 1 2 := ⟨by decide +kernel, rfl⟩
theorem ee_JM_min_2 : zz_D mm_JM_min 2 (.if_icmp .gt 7) 3 5 := ⟨by decide +kernel, rfl⟩
theorem ee_JM_min_5 : zz_D mm_JM_min 5 (.iload_n 0) 1 6 := ⟨by decide +kernel, rfl⟩
theorem ee_JM_min_6 : zz_D mm_JM_min 6 (.goto 4) 3 9 := ⟨by decide +kernel, rfl⟩
theorem ee_JM_min_9 : zz_D mm_JM_min 9 (.iload_n 1) 1 10 := ⟨by decide +kernel, rfl⟩
theorem ee_JM_min_10 : zz_D mm_JM_min 10 .ireturn 1 11 := ⟨by decide +kernel, rfl⟩
theorem ee_JM_floorMod_0 : zz_D mm_JM_floorMod 0 (.iload_n 0) 1 1 := ⟨by decide +kernel, rfl⟩
theorem ee_JM_floorMod_1 : zz_D mm_JM_floorMod 1 (.iload_n 1) 1 2 := ⟨by decide +kernel, rfl⟩
theorem ee_JM_floorMod_2 : zz_D mm_JM_floorMod 2 .irem 1 3 := ⟨by decide +kernel, rfl⟩
theorem ee_JM_floorMod_3 : zz_D mm_JM_floorMod 3 (.istore_n 2) 1 4 := ⟨by decide +kernel, rfl⟩
theorem ee_JM_floorMod_4 : zz_D mm_JM_floorMod 4 (.iload_n 0) 1 5 := ⟨by decide +kernel, rfl⟩
theorem ee_JM_floorMod_5 : zz_D mm_JM_floorMod 5 (.iload_n 1) 1 6 := ⟨by decide +kernel, rfl⟩
theorem ee_JM_floorMod_6 : zz_D mm_JM_floorMod 6 .ixor 1 7 := ⟨by decide +kernel, rfl⟩
theorem ee_JM_floorMod_7 : zz_D mm_JM_floorMod 7 (.ifCond .ge 11) 3 10 := ⟨by decide +kernel, rfl⟩
theorem ee_JM_floorMod_10 : zz_D mm_JM_floorMod 10 (.iload_n 2) 1 11 := ⟨by decide +kernel, rfl⟩
theorem ee_JM_floorMod_11 : zz_D mm_JM_floorMod 11 (.ifCond .eq 7) 3 14 := ⟨by decide +kernel, rfl⟩
theorem ee_JM_floorMod_14 : zz_D mm_JM_floorMod 14 (.iload_n 2) 1 15 := ⟨by decide +kernel, rfl⟩
theorem ee_JM_floorMod_15 : zz_D mm_JM_floorMod 15 (.iload_n 1) 1 16 := ⟨by decide +kernel, rfl⟩
theorem ee_JM_floorMod_16 : zz_D mm_JM_floorMod 16 .iadd 1 17 := ⟨by decide +kernel, rfl⟩
theorem ee_JM_floorMod_17 : zz_D mm_JM_floorMod 17 .ireturn 1 18 := ⟨by decide +kernel, rfl⟩
theorem ee_JM_floorMod_18 : zz_D mm_JM_floorMod 18 (.iload_n 2) 1 19 := ⟨by decide +kernel, rfl⟩
theorem ee_JM_floorMod_19 : zz_D mm_JM_floorMod 19 .ireturn 1 20 := ⟨by decide +kernel, rfl⟩
end
section
/-! field types, by number -/
theorem il_0_0 : zz_ir 0 0 = true := by decide +kernel
theorem nl_0_0 (b : Nat) : narrow (zz_ty 0 0) (.ref b) = .ref b := by rw [show zz_ty 0 0 = (parseFieldDescriptor "LTurnipPages$Text;").getD .int by decide +kernel]; rfl
theorem pl_0_0 (b : Nat) : fits (zz_ty 0 0) (.ref b) = true := by rw [show zz_ty 0 0 = .object "TurnipPages$Text" by decide +kernel]; rfl
theorem dl_0_0 : zz_dc 0 0 = "TurnipPages" := by decide +kernel
theorem il_0_1 : zz_ir 0 1 = true := by decide +kernel
theorem nl_0_1 (b : Nat) : narrow (zz_ty 0 1) (.ref b) = .ref b := by rw [show zz_ty 0 1 = (parseFieldDescriptor "LTurnipPages$Text;").getD .int by decide +kernel]; rfl
theorem pl_0_1 (b : Nat) : fits (zz_ty 0 1) (.ref b) = true := by rw [show zz_ty 0 1 = .object "TurnipPages$Text" by decide +kernel]; rfl
theorem dl_0_1 : zz_dc 0 1 = "TurnipPages" := by decide +kernel
theorem il_0_2 : zz_ir 0 2 = true := by decide +kernel
theorem nl_0_2 (b : Nat) : narrow (zz_ty 0 2) (.ref b) = .ref b := by rw [show zz_ty 0 2 = (parseFieldDescriptor "LTurnipPages$Text;").getD .int by decide +kernel]; rfl
theorem pl_0_2 (b : Nat) : fits (zz_ty 0 2) (.ref b) = true := by rw [show zz_ty 0 2 = .object "TurnipPages$Text" by decide +kernel]; rfl
theorem dl_0_2 : zz_dc 0 2 = "TurnipPages" := by decide +kernel
theorem il_0_3 : zz_ir 0 3 = true := by decide +kernel
theorem nl_0_3 (b : Nat) : narrow (zz_ty 0 3) (.ref b) = .ref b := by rw [show zz_ty 0 3 = (parseFieldDescriptor "LTurnipPages$Carver;").getD .int by decide +kernel]; rfl
theorem pl_0_3 (b : Nat) : fits (zz_ty 0 3) (.ref b) = true := by rw [show zz_ty 0 3 = .object "TurnipPages$Carver" by decide +kernel]; rfl
theorem dl_0_3 : zz_dc 0 3 = "TurnipPages" := by decide +kernel
theorem il_0_4 : zz_ir 0 4 = true := by decide +kernel
theorem nl_0_4 (b : Nat) : narrow (zz_ty 0 4) (.ref b) = .ref b := by rw [show zz_ty 0 4 = (parseFieldDescriptor "LTurnipPages$Store;").getD .int by decide +kernel]; rfl
theorem pl_0_4 (b : Nat) : fits (zz_ty 0 4) (.ref b) = true := by rw [show zz_ty 0 4 = .object "TurnipPages$Store" by decide +kernel]; rfl
theorem dl_0_4 : zz_dc 0 4 = "TurnipPages" := by decide +kernel
theorem il_0_5 : zz_ir 0 5 = true := by decide +kernel
theorem nl_0_5 (b : Nat) : narrow (zz_ty 0 5) (.ref b) = .ref b := by rw [show zz_ty 0 5 = (parseFieldDescriptor "LTurnipPages$Store;").getD .int by decide +kernel]; rfl
theorem pl_0_5 (b : Nat) : fits (zz_ty 0 5) (.ref b) = true := by rw [show zz_ty 0 5 = .object "TurnipPages$Store" by decide +kernel]; rfl
theorem dl_0_5 : zz_dc 0 5 = "TurnipPages" := by decide +kernel
theorem il_0_6 : zz_ir 0 6 = true := by decide +kernel
theorem nl_0_6 (b : Nat) : narrow (zz_ty 0 6) (.ref b) = .ref b := by rw [show zz_ty 0 6 = (parseFieldDescriptor "LTurnipPages$History;").getD .int by decide +kernel]; rfl
theorem pl_0_6 (b : Nat) : fits (zz_ty 0 6) (.ref b) = true := by rw [show zz_ty 0 6 = .object "TurnipPages$History" by decide +kernel]; rfl
theorem dl_0_6 : zz_dc 0 6 = "TurnipPages" := by decide +kernel
theorem il_0_7 : zz_ir 0 7 = true := by decide +kernel
theorem nl_0_7 (b : Nat) : narrow (zz_ty 0 7) (.ref b) = .ref b := by rw [show zz_ty 0 7 = (parseFieldDescriptor "LTurnipPages$Commands;").getD .int by decide +kernel]; rfl
theorem pl_0_7 (b : Nat) : fits (zz_ty 0 7) (.ref b) = true := by rw [show zz_ty 0 7 = .object "TurnipPages$Commands" by decide +kernel]; rfl
theorem dl_0_7 : zz_dc 0 7 = "TurnipPages" := by decide +kernel
theorem il_0_8 : zz_ir 0 8 = true := by decide +kernel
theorem nl_0_8 (b : Nat) : narrow (zz_ty 0 8) (.ref b) = .ref b := by rw [show zz_ty 0 8 = (parseFieldDescriptor "LTurnipPages$Denial;").getD .int by decide +kernel]; rfl
theorem pl_0_8 (b : Nat) : fits (zz_ty 0 8) (.ref b) = true := by rw [show zz_ty 0 8 = .object "TurnipPages$Denial" by decide +kernel]; rfl
theorem dl_0_8 : zz_dc 0 8 = "TurnipPages" := by decide +kernel
theorem il_0_9 : zz_ir 0 9 = false := by decide +kernel
theorem tl_0_9 : zz_ty 0 9 = .boolean := by decide +kernel
theorem fl_0_9 : zz_fin 0 9 = false := by decide +kernel
theorem il_0_10 : zz_ir 0 10 = false := by decide +kernel
theorem tl_0_10 : zz_ty 0 10 = .int := by decide +kernel
theorem fl_0_10 : zz_fin 0 10 = false := by decide +kernel
theorem il_1_0 : zz_ir 1 0 = true := by decide +kernel
theorem nl_1_0 (b : Nat) : narrow (zz_ty 1 0) (.ref b) = .ref b := by rw [show zz_ty 1 0 = (parseFieldDescriptor "LTurnipPages$Store;").getD .int by decide +kernel]; rfl
theorem pl_1_0 (b : Nat) : fits (zz_ty 1 0) (.ref b) = true := by rw [show zz_ty 1 0 = .object "TurnipPages$Store" by decide +kernel]; rfl
theorem dl_1_0 : zz_dc 1 0 = "TurnipPages$Carver" := by decide +kernel
theorem il_1_1 : zz_ir 1 1 = true := by decide +kernel
theorem nl_1_1 (b : Nat) : narrow (zz_ty 1 1) (.ref b) = .ref b := by rw [show zz_ty 1 1 = (parseFieldDescriptor "LTurnipPages$Text;").getD .int by decide +kernel]; rfl
theorem pl_1_1 (b : Nat) : fits (zz_ty 1 1) (.ref b) = true := by rw [show zz_ty 1 1 = .object "TurnipPages$Text" by decide +kernel]; rfl
theorem dl_1_1 : zz_dc 1 1 = "TurnipPages$Carver" := by decide +kernel
theorem il_1_2 : zz_ir 1 2 = true := by decide +kernel
theorem nl_1_2 (b : Nat) : narrow (zz_ty 1 2) (.ref b) = .ref b := by rw [show zz_ty 1 2 = (parseFieldDescriptor "LTurnipPages$Text;").getD .int by decide +kernel]; rfl
theorem pl_1_2 (b : Nat) : fits (zz_ty 1 2) (.ref b) = true := by rw [show zz_ty 1 2 = .object "TurnipPages$Text" by decide +kernel]; rfl
theorem dl_1_2 : zz_dc 1 2 = "TurnipPages$Carver" := by decide +kernel
theorem il_1_3 : zz_ir 1 3 = false := by decide +kernel
theorem tl_1_3 : zz_ty 1 3 = .int := by decide +kernel
theorem fl_1_3 : zz_fin 1 3 = false := by decide +kernel
theorem il_2_0 : zz_ir 2 0 = true := by decide +kernel
theorem nl_2_0 (b : Nat) : narrow (zz_ty 2 0) (.ref b) = .ref b := by rw [show zz_ty 2 0 = (parseFieldDescriptor "[I").getD .int by decide +kernel]; rfl
theorem pl_2_0 (b : Nat) : fits (zz_ty 2 0) (.ref b) = true := by rw [show zz_ty 2 0 = (parseFieldDescriptor "[I").getD .int by decide +kernel]; rfl
theorem dl_2_0 : zz_dc 2 0 = "TurnipPages$Commands" := by decide +kernel
theorem il_2_1 : zz_ir 2 1 = true := by decide +kernel
theorem nl_2_1 (b : Nat) : narrow (zz_ty 2 1) (.ref b) = .ref b := by rw [show zz_ty 2 1 = (parseFieldDescriptor "[I").getD .int by decide +kernel]; rfl
theorem pl_2_1 (b : Nat) : fits (zz_ty 2 1) (.ref b) = true := by rw [show zz_ty 2 1 = (parseFieldDescriptor "[I").getD .int by decide +kernel]; rfl
theorem dl_2_1 : zz_dc 2 1 = "TurnipPages$Commands" := by decide +kernel
theorem il_2_2 : zz_ir 2 2 = true := by decide +kernel
theorem nl_2_2 (b : Nat) : narrow (zz_ty 2 2) (.ref b) = .ref b := by rw [show zz_ty 2 2 = (parseFieldDescriptor "[I").getD .int by decide +kernel]; rfl
theorem pl_2_2 (b : Nat) : fits (zz_ty 2 2) (.ref b) = true := by rw [show zz_ty 2 2 = (parseFieldDescriptor "[I").getD .int by decide +kernel]; rfl
theorem dl_2_2 : zz_dc 2 2 = "TurnipPages$Commands" := by decide +kernel
theorem il_2_3 : zz_ir 2 3 = false := by decide +kernel
theorem tl_2_3 : zz_ty 2 3 = .int := by decide +kernel
theorem fl_2_3 : zz_fin 2 3 = false := by decide +kernel
theorem il_2_4 : zz_ir 2 4 = false := by decide +kernel
theorem tl_2_4 : zz_ty 2 4 = .int := by decide +kernel
theorem fl_2_4 : zz_fin 2 4 = false := by decide +kernel
theorem il_3_0 : zz_ir 3 0 = false := by decide +kernel
theorem tl_3_0 : zz_ty 3 0 = .int := by decide +kernel
theorem fl_3_0 : zz_fin 3 0 = false := by decide +kernel
theorem il_3_1 : zz_ir 3 1 = false := by decide +kernel
theorem tl_3_1 : zz_ty 3 1 = .int := by decide +kernel
theorem fl_3_1 : zz_fin 3 1 = false := by decide +kernel
theorem il_3_2 : zz_ir 3 2 = false := by decide +kernel
theorem tl_3_2 : zz_ty 3 2 = .int := by decide +kernel
theorem fl_3_2 : zz_fin 3 2 = false := by decide +kernel
theorem il_4_0 : zz_ir 4 0 = true := by decide +kernel
theorem nl_4_0 (b : Nat) : narrow (zz_ty 4 0) (.ref b) = .ref b := by rw [show zz_ty 4 0 = (parseFieldDescriptor "[LTurnipPages$Store;").getD .int by decide +kernel]; rfl
theorem pl_4_0 (b : Nat) : fits (zz_ty 4 0) (.ref b) = true := by rw [show zz_ty 4 0 = (parseFieldDescriptor "[LTurnipPages$Store;").getD .int by decide +kernel]; rfl
theorem dl_4_0 : zz_dc 4 0 = "TurnipPages$History" := by decide +kernel
theorem il_4_1 : zz_ir 4 1 = false := by decide +kernel
theorem tl_4_1 : zz_ty 4 1 = .int := by decide +kernel
theorem fl_4_1 : zz_fin 4 1 = false := by decide +kernel
theorem il_4_2 : zz_ir 4 2 = false := by decide +kernel
theorem tl_4_2 : zz_ty 4 2 = .int := by decide +kernel
theorem fl_4_2 : zz_fin 4 2 = false := by decide +kernel
theorem il_5_0 : zz_ir 5 0 = true := by decide +kernel
theorem nl_5_0 (b : Nat) : narrow (zz_ty 5 0) (.ref b) = .ref b := by rw [show zz_ty 5 0 = (parseFieldDescriptor "[I").getD .int by decide +kernel]; rfl
theorem pl_5_0 (b : Nat) : fits (zz_ty 5 0) (.ref b) = true := by rw [show zz_ty 5 0 = (parseFieldDescriptor "[I").getD .int by decide +kernel]; rfl
theorem dl_5_0 : zz_dc 5 0 = "TurnipPages$Store" := by decide +kernel
theorem il_5_1 : zz_ir 5 1 = true := by decide +kernel
theorem nl_5_1 (b : Nat) : narrow (zz_ty 5 1) (.ref b) = .ref b := by rw [show zz_ty 5 1 = (parseFieldDescriptor "[LTurnipPages$Telegram;").getD .int by decide +kernel]; rfl
theorem pl_5_1 (b : Nat) : fits (zz_ty 5 1) (.ref b) = true := by rw [show zz_ty 5 1 = (parseFieldDescriptor "[LTurnipPages$Telegram;").getD .int by decide +kernel]; rfl
theorem dl_5_1 : zz_dc 5 1 = "TurnipPages$Store" := by decide +kernel
theorem il_5_2 : zz_ir 5 2 = false := by decide +kernel
theorem tl_5_2 : zz_ty 5 2 = .int := by decide +kernel
theorem fl_5_2 : zz_fin 5 2 = false := by decide +kernel
theorem il_5_3 : zz_ir 5 3 = false := by decide +kernel
theorem tl_5_3 : zz_ty 5 3 = .int := by decide +kernel
theorem fl_5_3 : zz_fin 5 3 = false := by decide +kernel
theorem il_5_4 : zz_ir 5 4 = false := by decide +kernel
theorem tl_5_4 : zz_ty 5 4 = .int := by decide +kernel
theorem fl_5_4 : zz_fin 5 4 = false := by decide +kernel
theorem il_5_5 : zz_ir 5 5 = false := by decide +kernel
theorem tl_5_5 : zz_ty 5 5 = .int := by decide +kernel
theorem fl_5_5 : zz_fin 5 5 = false := by decide +kernel
theorem il_5_6 : zz_ir 5 6 = false := by decide +kernel
theorem tl_5_6 : zz_ty 5 6 = .int := by decide +kernel
theorem fl_5_6 : zz_fin 5 6 = false := by decide +kernel
theorem il_6_0 : zz_ir 6 0 = true := by decide +kernel
theorem nl_6_0 (b : Nat) : narrow (zz_ty 6 0) (.ref b) = .ref b := by rw [show zz_ty 6 0 = (parseFieldDescriptor "LTurnipPages$Text;").getD .int by decide +kernel]; rfl
theorem pl_6_0 (b : Nat) : fits (zz_ty 6 0) (.ref b) = true := by rw [show zz_ty 6 0 = .object "TurnipPages$Text" by decide +kernel]; rfl
theorem dl_6_0 : zz_dc 6 0 = "TurnipPages$Telegram" := by decide +kernel
theorem il_6_1 : zz_ir 6 1 = true := by decide +kernel
theorem nl_6_1 (b : Nat) : narrow (zz_ty 6 1) (.ref b) = .ref b := by rw [show zz_ty 6 1 = (parseFieldDescriptor "[I").getD .int by decide +kernel]; rfl
theorem pl_6_1 (b : Nat) : fits (zz_ty 6 1) (.ref b) = true := by rw [show zz_ty 6 1 = (parseFieldDescriptor "[I").getD .int by decide +kernel]; rfl
theorem dl_6_1 : zz_dc 6 1 = "TurnipPages$Telegram" := by decide +kernel
theorem il_6_2 : zz_ir 6 2 = false := by decide +kernel
theorem tl_6_2 : zz_ty 6 2 = .int := by decide +kernel
theorem fl_6_2 : zz_fin 6 2 = false := by decide +kernel
theorem il_6_3 : zz_ir 6 3 = false := by decide +kernel
theorem tl_6_3 : zz_ty 6 3 = .int := by decide +kernel
theorem fl_6_3 : zz_fin 6 3 = false := by decide +kernel
theorem il_6_4 : zz_ir 6 4 = false := by decide +kernel
theorem tl_6_4 : zz_ty 6 4 = .int := by decide +kernel
theorem fl_6_4 : zz_fin 6 4 = false := by decide +kernel
theorem il_6_5 : zz_ir 6 5 = false := by decide +kernel
theorem tl_6_5 : zz_ty 6 5 = .int := by decide +kernel
theorem fl_6_5 : zz_fin 6 5 = false := by decide +kernel
theorem il_6_6 : zz_ir 6 6 = false := by decide +kernel
theorem tl_6_6 : zz_ty 6 6 = .int := by decide +kernel
theorem fl_6_6 : zz_fin 6 6 = false := by decide +kernel
theorem il_7_0 : zz_ir 7 0 = true := by decide +kernel
theorem nl_7_0 (b : Nat) : narrow (zz_ty 7 0) (.ref b) = .ref b := by rw [show zz_ty 7 0 = (parseFieldDescriptor "[C").getD .int by decide +kernel]; rfl
theorem pl_7_0 (b : Nat) : fits (zz_ty 7 0) (.ref b) = true := by rw [show zz_ty 7 0 = (parseFieldDescriptor "[C").getD .int by decide +kernel]; rfl
theorem dl_7_0 : zz_dc 7 0 = "TurnipPages$Text" := by decide +kernel
theorem il_7_1 : zz_ir 7 1 = false := by decide +kernel
theorem tl_7_1 : zz_ty 7 1 = .int := by decide +kernel
theorem fl_7_1 : zz_fin 7 1 = false := by decide +kernel
theorem il_8_0 : zz_ir 8 0 = true := by decide +kernel
theorem nl_8_0 (b : Nat) : narrow (zz_ty 8 0) (.ref b) = .ref b := by rw [show zz_ty 8 0 = (parseFieldDescriptor "[B").getD .int by decide +kernel]; rfl
theorem pl_8_0 (b : Nat) : fits (zz_ty 8 0) (.ref b) = true := by rw [show zz_ty 8 0 = (parseFieldDescriptor "[B").getD .int by decide +kernel]; rfl
theorem dl_8_0 : zz_dc 8 0 = "java/lang/String" := by decide +kernel
theorem il_8_1 : zz_ir 8 1 = false := by decide +kernel
theorem tl_8_1 : zz_ty 8 1 = .byte := by decide +kernel
theorem dl_8_1 : zz_dc 8 1 = "java/lang/String" := by decide +kernel
theorem il_9_0 : zz_ir 9 0 = true := by decide +kernel
theorem nl_9_0 (b : Nat) : narrow (zz_ty 9 0) (.ref b) = .ref b := by rw [show zz_ty 9 0 = (parseFieldDescriptor "[B").getD .int by decide +kernel]; rfl
theorem pl_9_0 (b : Nat) : fits (zz_ty 9 0) (.ref b) = true := by rw [show zz_ty 9 0 = (parseFieldDescriptor "[B").getD .int by decide +kernel]; rfl
theorem fl_9_0 : zz_fin 9 0 = false := by decide +kernel
theorem il_9_1 : zz_ir 9 1 = false := by decide +kernel
theorem tl_9_1 : zz_ty 9 1 = .byte := by decide +kernel
theorem fl_9_1 : zz_fin 9 1 = false := by decide +kernel
theorem il_9_2 : zz_ir 9 2 = false := by decide +kernel
theorem tl_9_2 : zz_ty 9 2 = .boolean := by decide +kernel
theorem fl_9_2 : zz_fin 9 2 = false := by decide +kernel
theorem il_9_3 : zz_ir 9 3 = false := by decide +kernel
theorem tl_9_3 : zz_ty 9 3 = .int := by decide +kernel
theorem fl_9_3 : zz_fin 9 3 = false := by decide +kernel
theorem wc_T_addNumber_33 : Cond.constant (zz_y mm_T_addNumber).cls 33 (1000000000 : Int32) ∈ zz_gw := zz_in 1391 (by decide +kernel) rfl
theorem ws_C_wordOf_83 : ((zz_y mm_C_wordOf).cls, 83, "root ", 0) ∈ zz_str := List.mem_of_getElem? (i := 0) (by decide +kernel)
theorem ws_C_wordOf_85 : ((zz_y mm_C_wordOf).cls, 85, "dry ", 1) ∈ zz_str := List.mem_of_getElem? (i := 1) (by decide +kernel)
theorem ws_C_wordOf_87 : ((zz_y mm_C_wordOf).cls, 87, "age ", 2) ∈ zz_str := List.mem_of_getElem? (i := 2) (by decide +kernel)
theorem ws_C_wordOf_89 : ((zz_y mm_C_wordOf).cls, 89, "recarve ", 3) ∈ zz_str := List.mem_of_getElem? (i := 3) (by decide +kernel)
theorem ws_C_wordOf_91 : ((zz_y mm_C_wordOf).cls, 91, "move ", 4) ∈ zz_str := List.mem_of_getElem? (i := 4) (by decide +kernel)
theorem ws_C_wordOf_93 : ((zz_y mm_C_wordOf).cls, 93, "drop ", 5) ∈ zz_str := List.mem_of_getElem? (i := 5) (by decide +kernel)
theorem ws_L_text_182 : ((zz_y mm_L_text).cls, 182, "", 6) ∈ zz_str := List.mem_of_getElem? (i := 6) (by decide +kernel)
theorem ws_L_text_188 : ((zz_y mm_L_text).cls, 188, "ab7\\0 z39", 7) ∈ zz_str := List.mem_of_getElem? (i := 7) (by decide +kernel)
theorem wc_L_asks_225 : Cond.constantLong (zz_y mm_L_asks).cls 225 (31 : Int64) ∈ zz_gw := zz_in 1197 (by decide +kernel) rfl
theorem wc_L_meanLength_113 : Cond.constantDouble (zz_y mm_L_meanLength).cls 113 (13875388141788987392 : UInt64) ∈ zz_gw := zz_in 1228 (by decide +kernel) rfl
theorem wc_L_rottenShare_119 : Cond.constantFloat (zz_y mm_L_rottenShare).cls 119 (3296346112 : UInt32) ∈ zz_gw := zz_in 1250 (by decide +kernel) rfl
theorem ws_L_changes_289 : ((zz_y mm_L_changes).cls, 289, "a12", 9) ∈ zz_str := List.mem_of_getElem? (i := 9) (by decide +kernel)
theorem ws_L_changes_295 : ((zz_y mm_L_changes).cls, 295, "ab3\\7", 12) ∈ zz_str := List.mem_of_getElem? (i := 12) (by decide +kernel)
theorem ws_L_changes_306 : ((zz_y mm_L_changes).cls, 306, "age 2;drop ", 13) ∈ zz_str := List.mem_of_getElem? (i := 13) (by decide +kernel)
theorem ws_L_changes_311 : ((zz_y mm_L_changes).cls, 311, "recarve ", 14) ∈ zz_str := List.mem_of_getElem? (i := 14) (by decide +kernel)
theorem ws_L_changes_313 : ((zz_y mm_L_changes).cls, 313, ";move ", 15) ∈ zz_str := List.mem_of_getElem? (i := 15) (by decide +kernel)
theorem ws_L_changes_315 : ((zz_y mm_L_changes).cls, 315, " 1", 16) ∈ zz_str := List.mem_of_getElem? (i := 16) (by decide +kernel)
theorem ws_L_thrown_182 : ((zz_y mm_L_thrown).cls, 182, "", 6) ∈ zz_str := List.mem_of_getElem? (i := 6) (by decide +kernel)
theorem ws_L_thrown_343 : ((zz_y mm_L_thrown).cls, 343, "q", 17) ∈ zz_str := List.mem_of_getElem? (i := 17) (by decide +kernel)
theorem ws_L_thrown_347 : ((zz_y mm_L_thrown).cls, 347, "age 3;drop 99;drop 99", 18) ∈ zz_str := List.mem_of_getElem? (i := 18) (by decide +kernel)
theorem ws_L_thrown_349 : ((zz_y mm_L_thrown).cls, 349, "age 1;move ", 19) ∈ zz_str := List.mem_of_getElem? (i := 19) (by decide +kernel)
theorem ws_L_thrown_351 : ((zz_y mm_L_thrown).cls, 351, " ", 20) ∈ zz_str := List.mem_of_getElem? (i := 20) (by decide +kernel)
theorem wc_JA_newCapacity_39 : Cond.constant (zz_y mm_JA_newCapacity).cls 39 (2147483647 : Int32) ∈ zz_gw := zz_in 1026 (by decide +kernel) rfl
theorem wc_JU_newLength_200 : Cond.constant (zz_y mm_JU_newLength).cls 200 (2147483639 : Int32) ∈ zz_gw := zz_in 1022 (by decide +kernel) rfl
theorem ws_JR_checkLength_337 : ((zz_y mm_JR_checkLength).cls, 337, " > ", 8) ∈ zz_str := List.mem_of_getElem? (i := 8) (by decide +kernel)
theorem wc_JD_doubleToLongBits_137 : Cond.constantLong (zz_y mm_JD_doubleToLongBits).cls 137 (9221120237041090560 : Int64) ∈ zz_gw := zz_in 1238 (by decide +kernel) rfl
theorem wc_JF_floatToIntBits_77 : Cond.constant (zz_y mm_JF_floatToIntBits).cls 77 (2143289344 : Int32) ∈ zz_gw := zz_in 1260 (by decide +kernel) rfl
theorem ws_JL_newString_151 : ((zz_y mm_JL_newString).cls, 151, "", 10) ∈ zz_str := List.mem_of_getElem? (i := 10) (by decide +kernel)
theorem cw_nat : Cond.native arraycopyName ∈ zz_gw := zz_in 398 (by decide +kernel) rfl
theorem cw_stat : Cond.static arraycopyName ∈ zz_gw := zz_in 397 (by decide +kernel) rfl
theorem cw_ini : Cond.initialized "java/lang/System" ∈ zz_gw := zz_in 32 (by decide +kernel) rfl
theorem cw_oi : Cond.instanceMethod Lib.objectInit ∈ zz_gw := zz_in 58 (by decide +kernel) rfl
theorem cw_oc : Cond.code Lib.objectInit ⟨#[0xb1]⟩ 1 none ∈ zz_gw := zz_in 59 (by decide +kernel) rfl
theorem cw_char : Cond.arrayClass .char ∈ zz_gw := zz_in 82 (by decide +kernel) rfl
theorem cw_int : Cond.arrayClass .int ∈ zz_gw := zz_in 141 (by decide +kernel) rfl
theorem cw_byte : Cond.arrayClass .byte ∈ zz_gw := zz_in 623 (by decide +kernel) rfl
theorem cw_long : Cond.arrayClass .long ∈ zz_gw := zz_in 1529 (by decide +kernel) rfl
end
section
/-! numbers -/
theorem zi_lt {x y : Int32} : x < y ↔ x.toInt < y.toInt := Int32.lt_iff_toInt_lt
theorem zi_le {x y : Int32} : x ≤ y ↔ x.toInt ≤ y.toInt := Int32.le_iff_toInt_le
theorem zi_eq {x y : Int32} : x = y ↔ x.toInt = y.toInt := Int32.toInt_inj.symm
theorem zi_n {n : Nat} (h : n < 2 ^ 31) : (nI n).toInt = (n : Int) := nI_toInt h
theorem zi_0 : (0 : Int32).toInt = 0 := by decide
theorem zi_m1 : (-1 : Int32).toInt = -1 := by decide
/-- an int that isn't negative -/
theorem zi_of {x : Int32} (h : 0 ≤ x.toInt) : x = nI x.toInt.toNat := by
  have := Int32.toInt_lt x
  apply Int32.toInt_inj.mp
  rw [zi_n (by omega)]
  omega
/-- the int of a truth -/
def zz_tf (p : Prop) [Decidable p] : Int32 := if p then nI 1 else nI 0
theorem zz_tf_t {p : Prop} [Decidable p] (h : p) : zz_tf p = nI 1 := if_pos h
theorem zz_tf_f {p : Prop} [Decidable p] (h : ¬ p) : zz_tf p = nI 0 := if_neg h
theorem zz_tf_0 {p : Prop} [Decidable p] : zz_tf p = 0 ↔ ¬ p := by
  unfold zz_tf
  split
  · rename_i h
    constructor
    · intro q; exact absurd q (by decide)
    · intro q; exact absurd h q
  · rename_i h
    exact ⟨fun _ => h, fun _ => rfl⟩
theorem zz_tf_n0 {p : Prop} [Decidable p] : ¬ zz_tf p = 0 ↔ p := by
  rw [zz_tf_0]
  exact Decidable.not_not
/-- a char -/
def zz_ch (c : Int32) : Prop := fits .char (.int c) = true
theorem zz_ch.le {c : Int32} (h : zz_ch c) : 0 ≤ c.toInt ∧ c.toInt ≤ 65535 := by
  unfold zz_ch fits at h
  simp only [Bool.and_eq_true, decide_eq_true_eq] at h
  rw [zi_le, zi_le, zi_0, show (65535 : Int32).toInt = 65535 by decide] at h
  exact h
theorem zz_ch.nar {c : Int32} (h : zz_ch c) : narrow .char (.int c) = .int c := by
  have h1 := h.le
  rw [zi_of h1.1]
  exact (pk_charN (by omega)).1
theorem zz_ch_n {j : Nat} (h : j < 65536) : zz_ch (nI j) := (pk_charN h).2
/-- a frame: outside lo .. hi nothing has changed -/
def zz_fr (lo hi : Nat) (I I' : Nat → Nat → Int32) : Prop := ∀ b, (b < lo ∨ hi ≤ b) → I' b = I b
theorem zz_fr.rf {lo hi : Nat} {I : Nat → Nat → Int32} : zz_fr lo hi I I := fun _ _ => rfl
theorem zz_fr.wid {lo hi lo' hi' : Nat} {I I' : Nat → Nat → Int32} (h : zz_fr lo hi I I') (h1 : lo' ≤ lo) (h2 : hi ≤ hi') : zz_fr lo' hi' I I' := fun b hb => h b (by omega)
theorem zz_fr.trans {lo hi : Nat} {I I1 I2 : Nat → Nat → Int32} (h : zz_fr lo hi I I1) (h' : zz_fr lo hi I1 I2) : zz_fr lo hi I I2 := fun b hb => (h' b hb).trans (h b hb)
theorem zz_fr.up {lo hi a k : Nat} {x : Int32} {I I' : Nat → Nat → Int32} (h : zz_fr lo hi I I') (h1 : lo ≤ a) (h2 : a < hi) : zz_fr lo hi I (zz_up I' a k x) := fun b hb => (zz_up_r (by omega)).trans (h b hb)
def zz_no : String → zz_H → Prop := fun _ _ => False
/-- a call that answers v and changes nothing -/
def zz_is (h : zz_H) (v : Value) : Option Value → zz_H → Prop := fun w h' => h' = h ∧ w = some v
section ZC
variable {g : zz_G} {l : Launch} {M : zz_M} {mc ms : Nat} {Q : Option Value → zz_H → Prop} {QX : String → zz_H → Prop} {ce sl pc nx : Nat} {lv : List (Option Value)} {st : List Value}
variable {K : Nat → Nat × Nat} {R : Nat → Nat → Option Nat} {I : Nat → Nat → Int32} {L : Nat → Nat → Int64} {z : Nat}
theorem z_castC {a n j : Nat} {i x : Int32} (d : zz_D M pc .castore 1 nx) (hK : K a = zz_a 1 n) (ha : zz_A g a) (hi : i = nI j) (hj : j < n) (hm : n < 2 ^ 31) (hx : zz_ch x) (kk : Zz g l M mc ms Q QX ce sl nx lv st (K, R, zz_up I a j x, L, z)) : Zz g l M mc ms Q QX ce sl pc lv (.int x :: .int i :: .ref a :: st) (K, R, I, L, z) :=
  z_cast d hK ha hi hj hm hx hx.nar kk
end ZC
/-! stores into the first locals, by number -/
section ZST
variable {g : zz_G} {l : Launch} {M : zz_M} {mc ms : Nat} {Q : Option Value → zz_H → Prop} {QX : String → zz_H → Prop} {ce sl pc nx : Nat} {lv : List (Option Value)} {st : List Value} {h : zz_H}
theorem z_istore_m {i : Fin 4} {j : Nat} {x : Int32} (d : zz_D M pc (.istore_n i) 1 nx) (e : (i : Nat) = j) (hi : j < zz_n M) (k : Zz g l M mc ms Q QX ce sl nx (zz_s lv j (.int x)) st h) : Zz g l M mc ms Q QX ce sl pc lv (.int x :: st) h := by
  subst e
  exact z_istore_n d hi k
theorem z_astore_m {i : Fin 4} {j : Nat} {x : Nat} (d : zz_D M pc (.astore_n i) 1 nx) (e : (i : Nat) = j) (hi : j < zz_n M) (k : Zz g l M mc ms Q QX ce sl nx (zz_s lv j (.ref x)) st h) : Zz g l M mc ms Q QX ce sl pc lv (.ref x :: st) h := by
  subst e
  exact z_astore_n d hi k
theorem z_lstore_m {i : Fin 4} {j : Nat} {x : Int64} (d : zz_D M pc (.lstore_n i) 1 nx) (e : (i : Nat) = j) (hi : j + 1 < zz_n M) (k : Zz g l M mc ms Q QX ce sl nx (zz_s2 lv j (.long x)) st h) : Zz g l M mc ms Q QX ce sl pc lv (.long x :: st) h := by
  subst e
  exact z_lstore_n d hi k
theorem z_astoreN_m {i : Fin 4} {j : Nat} (d : zz_D M pc (.astore_n i) 1 nx) (e : (i : Nat) = j) (hi : j < zz_n M) (k : Zz g l M mc ms Q QX ce sl nx (zz_s lv j (.null)) st h) : Zz g l M mc ms Q QX ce sl pc lv (.null :: st) h := by
  subst e
  exact z_astoreN_n d hi k
/-- fewer locals known -/
def zz_le : List (Option Value) → List (Option Value) → Prop
  | [], _ => True
  | none :: t, [] => zz_le t []
  | none :: t, _ :: t' => zz_le t t'
  | some v :: t, x :: t' => x = some v ∧ zz_le t t'
  | some _ :: _, [] => False
theorem zz_le_g : ∀ (a b : List (Option Value)), zz_le a b → ∀ (i : Nat) (v : Value), zz_g a i = some v → zz_g b i = some v
  | [], _, _, i, v, h => by simp [zz_g] at h
  | none :: t, [], hl, i, v, h => by
    cases i with
    | zero => simp [zz_g] at h
    | succ i =>
      simp only [zz_g] at h
      have := zz_le_g t [] hl i v h
      simp [zz_g] at this
  | none :: t, _ :: t', hl, i, v, h => by
    cases i with
    | zero => simp [zz_g] at h
    | succ i => simp only [zz_g] at h ⊢; exact zz_le_g t t' hl i v h
  | some w :: t, x :: t', hl, i, v, h => by
    cases i with
    | zero => simp only [zz_g] at h ⊢; rw [hl.1]; exact h
    | succ i => simp only [zz_g] at h ⊢; exact zz_le_g t t' hl.2 i v h
  | some _ :: _, [], hl, _, _, _ => hl.elim
theorem z_lvw {lv' : List (Option Value)} (hl : zz_le lv' lv) (k : Zz g l M mc ms Q QX ce sl pc lv' st h) : Zz g l M mc ms Q QX ce sl pc lv st h := by
  intro p e s m args below meth c H locs ls C hH hv hL
  exact k p e s m args below meth c H locs ls C hH ⟨hv.1, hv.2.1, fun i v q => hv.2.2 i v (zz_le_g _ _ hl i v q)⟩ hL
theorem z_lvk {lv' : List (Option Value)} (k : Zz g l M mc ms Q QX ce sl pc lv' st h) (hl : zz_le lv' lv) : Zz g l M mc ms Q QX ce sl pc lv st h := z_lvw hl k
end ZST
/-! methods of classes that have natives, but not this one -/
section ZF
variable {g : zz_G} {l : Launch} {M : zz_M} {mc ms : Nat} {Q : Option Value → zz_H → Prop} {QX : String → zz_H → Prop} {h : zz_H}
theorem vx_ofWF {y : MethodName} {ws ws' : List Cond} {rm : Room} {Pc : Array Value → State → Prop} {Qc : Array Value → State → Outcome → State → Prop} {XC : String → State → State → Prop} {mc ms : Nat} {free : Addr → Prop} {cc : ByteArray} {maxL : Nat} {ret : Option FieldType}
    (hy : plainFor y = true) (hw : ws = Cond.code y cc maxL ret :: ws')
    (body : ∀ p e s m args below meth c s₁, BodyLoose p l y (headSpec ws rm) cc maxL ret e s m args below meth c s₁ → c.maxLocals = maxL → (∀ x ∈ c.exceptionTable.toList, False) → Pc args s →
      W p l e (headSpec ws rm).room s m args below meth c s.heap [] 0 0 (vx_MQ below Qc XC args s mc ms free) (entryFrame m args maxL)) : vx_Met l y ws rm Pc Qc XC mc ms free := by
  refine MetFree.of_bodySF (code := cc) (maxLocals := maxL) (ret := ret) hy ?_ ?_
  · intro args s m h hn
    obtain ⟨meth, c, h1, h2, h3, h4, h5, h6, -, -⟩ := Cond.code_spec hn (atoms_spec (ws := ws) h _ (by rw [hw]; exact List.mem_cons_self))
    exact ⟨meth, c, h1, h2, h3, h4, h5, h6⟩
  · intro p e s m args below meth c s₁ B hml hP _
    have hh0 : s₁.heap = s.heap := by rw [B.state]; rfl
    have ht : ∀ x ∈ c.exceptionTable.toList, False := by
      obtain ⟨meth9, c9, h1, h2, -, -, -, -, h7, -⟩ := Cond.code_spec B.named (atoms_spec (ws := ws) B.pre _ (by rw [hw]; exact List.mem_cons_self))
      cases Option.some.inj (h1.symm.trans B.method)
      cases Option.some.inj (h2.symm.trans (Stand.of_body B).code)
      intro x hx
      rw [Array.isEmpty_iff.mp h7] at hx
      cases hx
    obtain ⟨t, a1, o, b1, b2, b3⟩ := body p e s m args below meth c s₁ B hml ht hP s₁ hh0 (Stand.of_body B)
    exact ⟨t, o, a1, b1, b2, b3⟩
theorem z_startF {av : List Value} (hf : l.stackTraces = false) (hh : zz_hh M = []) (hp : plainFor (zz_y M) = true) (hn : (lg_sl av).length ≤ zz_n M) (k : Zz g l M mc ms Q QX 0 0 0 (zz_lv0 av) [] h) : zz_S g l M mc ms av h Q QX := by
  refine vx_ofWF hp (zz_cw_code hh) fun p e s m args below meth c s₁ B hml ht hP => ?_
  refine zz_body hf hn B hml ?_ hP k
  rw [hh]
  cases hc : c.exceptionTable.toList with
  | nil => rfl
  | cons x t => exact absurd (by rw [hc]; exact List.mem_cons_self) (fun q => ht x q)
end ZF
end
section
/-! MATH -/
section MathM
variable {g : zz_G} {l : Launch} {h : zz_H}
theorem sp_JM_max (hf : l.stackTraces = false) (x y : Int32) : zz_S g l mm_JM_max 0 0 [.int x, .int y] h (zz_is h (.int (if x < y then y else x))) zz_no := by
  refine z_startF hf rfl (by decide +kernel) (Nat.le_of_ble_eq_true rfl) ?_
  dsimp only [zz_lv0]
  refine z_iload_n ee_JM_max_0 rfl ?_
  refine z_iload_n ee_JM_max_1 rfl ?_
  refine z_icmp_lt ee_JM_max_2 (tgt := 9) (by decide) (fun c_2 => ?_) (fun c_2 => ?_)
  -- at 2
  · refine z_iload_n ee_JM_max_9 rfl ?_
    refine z_iret ee_JM_max_10 rfl (by omega) (by omega) ?_
    -- at 10
    exact ⟨rfl, by rw [if_pos c_2]⟩
  · refine z_iload_n ee_JM_max_5 rfl ?_
    refine z_goto ee_JM_max_6 (tgt := 10) (by decide) ?_
    refine z_iret ee_JM_max_10 rfl (by omega) (by omega) ?_
    -- at 10
    exact ⟨rfl, by rw [if_neg c_2]⟩
theorem sp_JM_min (hf : l.stackTraces = false) (x y : Int32) : zz_S g l mm_JM_min 0 0 [.int x, .int y] h (zz_is h (.int (if y < x then y else x))) zz_no := by
  refine z_startF hf rfl (by decide +kernel) (Nat.le_of_ble_eq_true rfl) ?_
  dsimp only [zz_lv0]
  refine z_iload_n ee_JM_min_0 rfl ?_
  refine z_iload_n ee_JM_min_1 rfl ?_
  refine z_icmp_gt ee_JM_min_2 (tgt := 9) (by decide) (fun c_2 => ?_) (fun c_2 => ?_)
  -- at 2
  · refine z_iload_n ee_JM_min_9 rfl ?_
    refine z_iret ee_JM_min_10 rfl (by omega) (by omega) ?_
    -- at 10
    exact ⟨rfl, by rw [if_pos c_2]⟩
  · refine z_iload_n ee_JM_min_5 rfl ?_
    refine z_goto ee_JM_min_6 (tgt := 10) (by decide) ?_
    refine z_iret ee_JM_min_10 rfl (by omega) (by omega) ?_
    -- at 10
    exact ⟨rfl, by rw [if_neg c_2]⟩
/-- min and max of numbers -/
theorem zz_min_n {a b : Nat} (ha : a < 2 ^ 31) (hb : b < 2 ^ 31) : (if nI b < nI a then nI b else nI a) = nI (min a b) := by
  by_cases q : b < a
  · rw [if_pos ((nI_ltI hb ha).mpr q), Nat.min_eq_right (by omega)]
  · rw [if_neg (fun z => q ((nI_ltI hb ha).mp z)), Nat.min_eq_left (by omega)]
theorem zz_max_n {a b : Nat} (ha : a < 2 ^ 31) (hb : b < 2 ^ 31) : (if nI a < nI b then nI b else nI a) = nI (max a b) := by
  by_cases q : a < b
  · rw [if_pos ((nI_ltI ha hb).mpr q), Nat.max_eq_right (by omega)]
  · rw [if_neg (fun z => q ((nI_ltI ha hb).mp z)), Nat.max_eq_left (by omega)]
theorem zz_xor9 : ∀ a, a < 20 → ¬ (nI a ^^^ nI 9) < 0 := by decide +kernel
theorem sp_JM_floorMod (hf : l.stackTraces = false) (a : Nat) (ha : a < 20) : zz_S g l mm_JM_floorMod 0 0 [.int (nI a), .int (nI 9)] h (zz_is h (.int (nI (a % 9)))) zz_no := by
  refine z_startF hf rfl (by decide +kernel) (Nat.le_of_ble_eq_true rfl) ?_
  dsimp only [zz_lv0]
  refine z_iload_n ee_JM_floorMod_0 rfl ?_
  refine z_iload_n ee_JM_floorMod_1 rfl ?_
  -- at 2
  refine z_irem ee_JM_floorMod_2 (by decide) ?_
  rw [pk_rem (by omega) (by omega) (by omega)]
  refine z_istore_m ee_JM_floorMod_3 (j := 2) rfl (by decide) ?_
  refine z_iload_n ee_JM_floorMod_4 rfl ?_
  refine z_iload_n ee_JM_floorMod_5 rfl ?_
  refine z_ixor ee_JM_floorMod_6 ?_
  refine z_if_ge ee_JM_floorMod_7 (tgt := 18) (by decide) (fun c_7 => ?_) (fun c_7 => ?_)
  -- at 7
  · refine z_iload_n ee_JM_floorMod_18 rfl ?_
    refine z_iret ee_JM_floorMod_19 rfl (by omega) (by omega) ?_
    -- at 19
    exact ⟨rfl, rfl⟩
  · exact absurd (Int32.not_le.mp c_7) (zz_xor9 a ha)
end MathM
end
section
/-! TEXT -/
/-- the object t is a text that takes n characters -/
def zz_Tx (g : zz_G) (K : Nat → Nat × Nat) (R : Nat → Nat → Option Nat) (t n : Nat) : Prop := K t = zz_o 7 ∧ R t 0 = some (t + 1) ∧ K (t + 1) = zz_a 1 n ∧ zz_A g t ∧ zz_A g (t + 1) ∧ n < 2 ^ 20
/-- .. and holds xs -/
def zz_tx (I : Nat → Nat → Int32) (t n : Nat) (xs : List Int32) : Prop := I t 1 = nI xs.length ∧ xs.length ≤ n ∧ ∀ j, j < xs.length → I (t + 1) j = xs.getD j 0
theorem zz_tx.kept {I I' : Nat → Nat → Int32} {t n : Nat} {xs : List Int32} (h : zz_tx I t n xs) (h1 : I' t = I t) (h2 : I' (t + 1) = I (t + 1)) : zz_tx I' t n xs := by
  obtain ⟨q1, q2, q3⟩ := h
  exact ⟨by rw [h1]; exact q1, q2, fun j hj => by rw [h2]; exact q3 j hj⟩
theorem zz_tx.fr {I I' : Nat → Nat → Int32} {t n lo hi : Nat} {xs : List Int32} (h : zz_tx I t n xs) (hf : zz_fr lo hi I I') (hd : t + 2 ≤ lo ∨ hi ≤ t) : zz_tx I' t n xs := h.kept (hf _ (by omega)) (hf _ (by omega))
/-- the character at an index, 0 past the end -/
def zz_at0 (xs : List Int32) (i : Int32) : Int32 := if 0 ≤ i.toInt ∧ i.toInt < xs.length then xs.getD i.toInt.toNat 0 else nI 0
theorem zz_at0_n {xs : List Int32} {j : Nat} (h : j < 2 ^ 31) : zz_at0 xs (nI j) = xs.getD j 0 := by
  unfold zz_at0
  rw [zi_n h]
  by_cases q : j < xs.length
  · rw [if_pos (by omega)]; simp
  · rw [if_neg (by omega)]
    rw [List.getD_eq_getElem?_getD, List.getElem?_eq_none (by omega)]; rfl
/-- one more, where it fits -/
def zz_add (n : Nat) (xs : List Int32) (c : Int32) : List Int32 := if xs.length < n then xs ++ [c] else xs
theorem zz_getD_app {xs : List Int32} {c : Int32} {j : Nat} : (xs ++ [c]).getD j 0 = if j = xs.length then c else xs.getD j 0 := by
  by_cases h : j < xs.length
  · rw [if_neg (by omega)]
    simp [List.getD_eq_getElem?_getD, List.getElem?_append_left h]
  · by_cases q : j = xs.length
    · subst q; simp [List.getD_eq_getElem?_getD]
    · rw [if_neg q]
      simp only [List.getD_eq_getElem?_getD]
      rw [List.getElem?_eq_none (by simp; omega), List.getElem?_eq_none (by omega)]
section Text
variable {g : zz_G} {l : Launch} {K : Nat → Nat × Nat} {R : Nat → Nat → Option Nat} {I : Nat → Nat → Int32} {L : Nat → Nat → Int64} {z : Nat} {t n : Nat} {xs : List Int32}
theorem sp_T_clear (hf : l.stackTraces = false) (hT : zz_Tx g K R t n) : zz_S g l mm_T_clear 0 0 [.ref t] (K, R, I, L, z) (fun v h' => ∃ I', h' = (K, R, I', L, z) ∧ v = none ∧ zz_tx I' t n [] ∧ zz_fr t (t + 2) I I') zz_no := by
  obtain ⟨k1, k2, k3, k4, k5, k6⟩ := hT
  refine z_start hf rfl (by decide +kernel) (Nat.le_of_ble_eq_true rfl) ?_
  dsimp only [zz_lv0]
  refine z_aload_n ee_T_clear_0 rfl ?_
  refine z_iconst ee_T_clear_1 (v := nI 0) (by decide) ?_
  refine z_putI ee_T_clear_2 ff_T_clear_9 (by assumption) (by assumption) tl_7_1 fl_7_1 ?_
  refine z_vret ee_T_clear_5 rfl (by omega) (by omega) ?_
  -- at 5
  exact ⟨_, rfl, rfl, ⟨zz_up_s, Nat.zero_le _, fun j hj => absurd hj (by simp)⟩, zz_fr.rf.up (by omega) (by omega)⟩
theorem sp_T_isFull (hf : l.stackTraces = false) (hT : zz_Tx g K R t n) (hx : zz_tx I t n xs) : zz_S g l mm_T_isFull 0 0 [.ref t] (K, R, I, L, z) (zz_is (K, R, I, L, z) (.int (zz_tf (n ≤ xs.length)))) zz_no := by
  obtain ⟨k1, k2, k3, k4, k5, k6⟩ := hT
  have hl := hx.2.1
  refine z_start hf rfl (by decide +kernel) (Nat.le_of_ble_eq_true rfl) ?_
  dsimp only [zz_lv0]
  refine z_aload_n ee_T_isFull_0 rfl ?_
  refine z_getI ee_T_isFull_1 ff_T_isFull_9 (by assumption) il_7_1 ?_
  refine z_aload_n ee_T_isFull_4 rfl ?_
  refine z_getR ee_T_isFull_5 ff_T_isFull_21 (by assumption) il_7_0 (by assumption) ?_
  refine z_alen ee_T_isFull_8 (by assumption) ?_
  refine z_icmp_lt ee_T_isFull_9 (tgt := 16) (by decide) (fun c_9 => ?_) (fun c_9 => ?_)
  -- at 9
  · rw [hx.1] at c_9
    simp (disch := omega) only [zi_lt, zi_le, zi_eq, zi_n, zi_0, zi_m1] at c_9
    refine z_iconst ee_T_isFull_16 (v := nI 0) (by decide) ?_
    refine z_zret ee_T_isFull_17 (ty := .boolean) rfl (by decide) (by omega) (by omega) ?_
    -- at 17
    exact ⟨rfl, by rw [zz_tf_f (by omega)]⟩
  · rw [hx.1] at c_9
    simp (disch := omega) only [zi_lt, zi_le, zi_eq, zi_n, zi_0, zi_m1] at c_9
    refine z_iconst ee_T_isFull_12 (v := nI 1) (by decide) ?_
    refine z_goto ee_T_isFull_13 (tgt := 17) (by decide) ?_
    refine z_zret ee_T_isFull_17 (ty := .boolean) rfl (by decide) (by omega) (by omega) ?_
    -- at 17
    exact ⟨rfl, by rw [zz_tf_t (by omega)]⟩
/-- has(i) -/
theorem sp_T_has (hf : l.stackTraces = false) (hT : zz_Tx g K R t n) (hx : zz_tx I t n xs) (i : Int32) : zz_S g l mm_T_has 0 0 [.ref t, .int i] (K, R, I, L, z) (zz_is (K, R, I, L, z) (.int (zz_tf (0 ≤ i.toInt ∧ i.toInt < xs.length)))) zz_no := by
  obtain ⟨k1, k2, k3, k4, k5, k6⟩ := hT
  have hl := hx.2.1
  refine z_start hf rfl (by decide +kernel) (Nat.le_of_ble_eq_true rfl) ?_
  dsimp only [zz_lv0]
  refine z_iload_n ee_T_has_0 rfl ?_
  refine z_if_lt ee_T_has_1 (tgt := 25) (by decide) (fun c_1 => ?_) (fun c_1 => ?_)
  -- at 1
  · simp (disch := omega) only [zi_lt, zi_le, zi_eq, zi_n, zi_0, zi_m1] at c_1
    refine z_iconst ee_T_has_25 (v := nI 0) (by decide) ?_
    refine z_zret ee_T_has_26 (ty := .boolean) rfl (by decide) (by omega) (by omega) ?_
    -- at 26
    exact ⟨rfl, by rw [zz_tf_f (by omega)]⟩
  · simp (disch := omega) only [zi_lt, zi_le, zi_eq, zi_n, zi_0, zi_m1] at c_1
    refine z_iload_n ee_T_has_4 rfl ?_
    refine z_aload_n ee_T_has_5 rfl ?_
    refine z_getI ee_T_has_6 ff_T_has_9 (by assumption) il_7_1 ?_
    refine z_icmp_ge ee_T_has_9 (tgt := 25) (by decide) (fun c_9 => ?_) (fun c_9 => ?_)
    -- at 9
    · rw [hx.1] at c_9
      simp (disch := omega) only [zi_lt, zi_le, zi_eq, zi_n, zi_0, zi_m1] at c_9
      refine z_iconst ee_T_has_25 (v := nI 0) (by decide) ?_
      refine z_zret ee_T_has_26 (ty := .boolean) rfl (by decide) (by omega) (by omega) ?_
      -- at 26
      exact ⟨rfl, by rw [zz_tf_f (by omega)]⟩
    · rw [hx.1] at c_9
      simp (disch := omega) only [zi_lt, zi_le, zi_eq, zi_n, zi_0, zi_m1] at c_9
      refine z_iload_n ee_T_has_12 rfl ?_
      refine z_aload_n ee_T_has_13 rfl ?_
      refine z_getR ee_T_has_14 ff_T_has_21 (by assumption) il_7_0 (by assumption) ?_
      refine z_alen ee_T_has_17 (by assumption) ?_
      refine z_icmp_ge ee_T_has_18 (tgt := 25) (by decide) (fun c_18 => ?_) (fun c_18 => ?_)
      -- at 18
      · simp (disch := omega) only [zi_lt, zi_le, zi_eq, zi_n, zi_0, zi_m1] at c_18
        omega
      · refine z_iconst ee_T_has_21 (v := nI 1) (by decide) ?_
        refine z_goto ee_T_has_22 (tgt := 26) (by decide) ?_
        refine z_zret ee_T_has_26 (ty := .boolean) rfl (by decide) (by omega) (by omega) ?_
        -- at 26
        exact ⟨rfl, by rw [zz_tf_t (by omega)]⟩
theorem sp_T_at (hf : l.stackTraces = false) (hT : zz_Tx g K R t n) (hx : zz_tx I t n xs) (i : Int32) : zz_S g l mm_T_at 0 0 [.ref t, .int i] (K, R, I, L, z) (fun v h' => h' = (K, R, I, L, z) ∧ v = some (.int (zz_at0 xs i)) ∧ zz_ch (zz_at0 xs i)) zz_no := by
  have hT' := hT
  obtain ⟨k1, k2, k3, k4, k5, k6⟩ := hT
  have hl := hx.2.1
  refine z_start hf rfl (by decide +kernel) (Nat.le_of_ble_eq_true rfl) ?_
  dsimp only [zz_lv0]
  refine z_aload_n ee_T_at_0 rfl ?_
  refine z_iload_n ee_T_at_1 rfl ?_
  -- at 2
  refine z_callV (As := [_]) ee_T_at_2 kk_T_at_25 rfl (by assumption) rfl rfl (Nat.le_of_ble_eq_true rfl) (by omega) (sp_T_has hf hT' hx i) (fun E h1 hx => hx.elim) (fun v h1 hq => ?_)
  obtain ⟨rfl, rfl⟩ := hq
  refine z_if_eq ee_T_at_5 (tgt := 17) (by decide) (fun c_5 => ?_) (fun c_5 => ?_)
  -- at 5
  · rw [zz_tf_0] at c_5
    refine z_iconst ee_T_at_17 (v := nI 0) (by decide) ?_
    refine z_zret ee_T_at_18 (ty := .char) rfl rfl (by omega) (by omega) ?_
    -- at 18
    have e : zz_at0 xs i = nI 0 := if_neg c_5
    exact ⟨rfl, by rw [e], by rw [e]; exact zz_ch_n (by omega)⟩
  · have c_6 := zz_tf_n0.mp c_5
    refine z_aload_n ee_T_at_8 rfl ?_
    refine z_getR ee_T_at_9 ff_T_at_21 (by assumption) il_7_0 (by assumption) ?_
    refine z_iload_n ee_T_at_12 rfl ?_
    -- at 13
    refine z_cald ee_T_at_13 (by assumption) (zi_of c_6.1) (by omega) (by omega) (fun hc => ?_)
    have e : zz_at0 xs i = I (t + 1) i.toInt.toNat := by
      unfold zz_at0
      rw [if_pos c_6, hx.2.2 _ (by omega)]
    rw [← e] at hc ⊢
    refine z_goto ee_T_at_14 (tgt := 18) (by decide) ?_
    refine z_zret ee_T_at_18 (ty := .char) rfl (zz_ch.nar hc) (by omega) (by omega) ?_
    -- at 18
    exact ⟨rfl, rfl, hc⟩
theorem sp_T_put (hf : l.stackTraces = false) (hT : zz_Tx g K R t n) (hx : zz_tx I t n xs) (j : Nat) (hj : j < xs.length) (c : Int32) (hc : zz_ch c) : zz_S g l mm_T_put 0 0 [.ref t, .int (nI j), .int c] (K, R, I, L, z) (fun v h' => ∃ I', h' = (K, R, I', L, z) ∧ v = none ∧ zz_tx I' t n (xs.set j c) ∧ zz_fr t (t + 2) I I') zz_no := by
  have hT' := hT
  obtain ⟨k1, k2, k3, k4, k5, k6⟩ := hT
  have hl := hx.2.1
  refine z_start hf rfl (by decide +kernel) (Nat.le_of_ble_eq_true rfl) ?_
  dsimp only [zz_lv0]
  refine z_aload_n ee_T_put_0 rfl ?_
  refine z_iload_n ee_T_put_1 rfl ?_
  -- at 2
  refine z_callV (As := [_]) ee_T_put_2 kk_T_put_25 rfl (by assumption) rfl rfl (Nat.le_of_ble_eq_true rfl) (by omega) (sp_T_has hf hT' hx (nI j)) (fun E h1 hx => hx.elim) (fun v h1 hq => ?_)
  obtain ⟨rfl, rfl⟩ := hq
  refine z_if_eq ee_T_put_5 (tgt := 15) (by decide) (fun c_5 => ?_) (fun c_5 => ?_)
  -- at 5
  · rw [zz_tf_0, zi_n (by omega)] at c_5
    exact absurd ⟨by omega, by omega⟩ c_5
  · refine z_aload_n ee_T_put_8 rfl ?_
    refine z_getR ee_T_put_9 ff_T_put_21 (by assumption) il_7_0 (by assumption) ?_
    refine z_iload_n ee_T_put_12 rfl ?_
    refine z_iload_n ee_T_put_13 rfl ?_
    -- at 14
    refine z_castC ee_T_put_14 (by assumption) (by assumption) rfl (by omega) (by omega) hc ?_
    refine z_vret ee_T_put_15 rfl (by omega) (by omega) ?_
    -- at 15
    refine ⟨_, rfl, rfl, ⟨by rw [zz_up_a (by omega), List.length_set]; exact hx.1, by rw [List.length_set]; exact hl, fun i hi => ?_⟩, zz_fr.rf.up (by omega) (by omega)⟩
    rw [List.length_set] at hi
    by_cases q : i = j
    · subst q
      rw [zz_up_s]
      simp [List.getD_eq_getElem?_getD, hi]
    · rw [zz_up_k q, hx.2.2 i hi]
      simp [List.getD_eq_getElem?_getD, List.getElem?_set, Ne.symm q]
theorem sp_T_add (hf : l.stackTraces = false) (hT : zz_Tx g K R t n) (hx : zz_tx I t n xs) (c : Int32) (hc : zz_ch c) : zz_S g l mm_T_add 0 0 [.ref t, .int c] (K, R, I, L, z) (fun v h' => ∃ I', h' = (K, R, I', L, z) ∧ v = none ∧ zz_tx I' t n (zz_add n xs c) ∧ zz_fr t (t + 2) I I') zz_no := by
  have hT' := hT
  obtain ⟨k1, k2, k3, k4, k5, k6⟩ := hT
  have hl := hx.2.1
  refine z_start hf rfl (by decide +kernel) (Nat.le_of_ble_eq_true rfl) ?_
  dsimp only [zz_lv0]
  refine z_aload_n ee_T_add_0 rfl ?_
  -- at 1
  refine z_callV (As := []) ee_T_add_1 kk_T_add_29 rfl (by assumption) rfl rfl (Nat.le_of_ble_eq_true rfl) (by omega) (sp_T_isFull hf hT' hx) (fun E h1 hx => hx.elim) (fun v h1 hq => ?_)
  obtain ⟨rfl, rfl⟩ := hq
  refine z_if_ne ee_T_add_4 (tgt := 27) (by decide) (fun c_4 => ?_) (fun c_4 => ?_)
  -- at 4
  · rw [zz_tf_n0] at c_4
    refine z_vret ee_T_add_27 rfl (by omega) (by omega) ?_
    -- at 27
    unfold zz_add
    rw [if_neg (by omega)]
    exact ⟨_, rfl, rfl, hx, zz_fr.rf⟩
  · rw [zz_tf_0] at c_4
    refine z_aload_n ee_T_add_7 rfl ?_
    refine z_getR ee_T_add_8 ff_T_add_21 (by assumption) il_7_0 (by assumption) ?_
    refine z_aload_n ee_T_add_11 rfl ?_
    refine z_getI ee_T_add_12 ff_T_add_9 (by assumption) il_7_1 ?_
    refine z_iload_n ee_T_add_15 rfl ?_
    -- at 16
    refine z_castC ee_T_add_16 (by assumption) (by assumption) hx.1 (by omega) (by omega) hc ?_
    refine z_aload_n ee_T_add_17 rfl ?_
    refine z_dup ee_T_add_18 rfl ?_
    refine z_getI ee_T_add_19 ff_T_add_9 (by assumption) il_7_1 ?_
    refine z_iconst ee_T_add_22 (v := nI 1) (by decide) ?_
    refine z_iadd ee_T_add_23 ?_
    refine z_putI ee_T_add_24 ff_T_add_9 (by assumption) (by assumption) tl_7_1 fl_7_1 ?_
    refine z_vret ee_T_add_27 rfl (by omega) (by omega) ?_
    -- at 27
    unfold zz_add
    rw [if_pos (by omega)]
    refine ⟨_, rfl, rfl, ⟨?_, by simp; omega, fun j hj => ?_⟩, (zz_fr.rf.up (by omega) (by omega)).up (by omega) (by omega)⟩
    · rw [zz_up_s, zz_up_a (by omega), hx.1]
      show nI xs.length + nI 1 = _
      rw [nI_add]
      simp
    · rw [zz_up_a (by omega), zz_getD_app]
      by_cases q : j = xs.length
      · subst q
        rw [zz_up_s, if_pos rfl]
      · rw [zz_up_k q, if_neg q]
        simp at hj
        exact hx.2.2 j (by omega)
end Text
end
section
/-! TEXT: copies, numbers, new texts -/
section Text2
variable {g : zz_G} {l : Launch} {K : Nat → Nat × Nat} {R : Nat → Nat → Option Nat} {I : Nat → Nat → Int32} {L : Nat → Nat → Int64} {z : Nat} {t n u m : Nat} {xs ys : List Int32}
theorem zz_getD_take {ys : List Int32} {n j : Nat} (h : j < (ys.take n).length) : (ys.take n).getD j 0 = ys.getD j 0 := by
  simp only [List.getD_eq_getElem?_getD]
  rw [List.getElem?_take, if_pos (by rw [List.length_take] at h; omega)]
theorem sp_T_copyFrom (hf : l.stackTraces = false) (hT : zz_Tx g K R t n) (hU : zz_Tx g K R u m) (hy : zz_tx I u m ys) (hd : t + 2 ≤ u ∨ u + 2 ≤ t) : zz_S g l mm_T_copyFrom 0 0 [.ref t, .ref u] (K, R, I, L, z) (fun v h' => ∃ I', h' = (K, R, I', L, z) ∧ v = none ∧ zz_tx I' t n (ys.take n) ∧ zz_fr t (t + 2) I I') zz_no := by
  obtain ⟨k1, k2, k3, k4, k5, k6⟩ := hT
  obtain ⟨u1, u2, u3, u4, u5, u6⟩ := hU
  have hl := hy.2.1
  refine z_start hf rfl (by decide +kernel) (Nat.le_of_ble_eq_true rfl) ?_
  dsimp only [zz_lv0]
  refine z_aload_n ee_T_copyFrom_0 rfl ?_
  refine z_aload_n ee_T_copyFrom_1 rfl ?_
  refine z_getI ee_T_copyFrom_2 ff_T_copyFrom_9 (by assumption) il_7_1 ?_
  refine z_aload_n ee_T_copyFrom_5 rfl ?_
  refine z_getR ee_T_copyFrom_6 ff_T_copyFrom_21 (by assumption) il_7_0 (by assumption) ?_
  refine z_alen ee_T_copyFrom_9 (by assumption) ?_
  refine z_aload_n ee_T_copyFrom_10 rfl ?_
  refine z_getR ee_T_copyFrom_11 ff_T_copyFrom_21 (by assumption) il_7_0 (by assumption) ?_
  refine z_alen ee_T_copyFrom_14 (by assumption) ?_
  -- at 15
  refine z_callS (As := [_, _]) ee_T_copyFrom_15 kk_T_copyFrom_38 rfl rfl (Nat.le_of_ble_eq_true rfl) (by omega) (sp_JM_min hf _ _) (fun E h1 hx => hx.elim) (fun v h1 hq => ?_)
  obtain ⟨rfl, rfl⟩ := hq
  refine z_callS (As := [_, _]) ee_T_copyFrom_18 kk_T_copyFrom_38 rfl rfl (Nat.le_of_ble_eq_true rfl) (by omega) (sp_JM_min hf _ _) (fun E h1 hx => hx.elim) (fun v h1 hq => ?_)
  obtain ⟨rfl, rfl⟩ := hq
  rw [hy.1, zz_min_n (by omega) (by omega), zz_min_n (by omega) (by omega)]
  have e : min ys.length (min m n) = (ys.take n).length := by rw [List.length_take]; omega
  rw [e]
  refine z_putI ee_T_copyFrom_21 ff_T_copyFrom_9 (by assumption) (by assumption) tl_7_1 fl_7_1 ?_
  refine z_aload_n ee_T_copyFrom_24 rfl ?_
  refine z_getR ee_T_copyFrom_25 ff_T_copyFrom_21 (by assumption) il_7_0 (by assumption) ?_
  refine z_iconst ee_T_copyFrom_28 (v := nI 0) (by decide) ?_
  refine z_aload_n ee_T_copyFrom_29 rfl ?_
  refine z_getR ee_T_copyFrom_30 ff_T_copyFrom_21 (by assumption) il_7_0 (by assumption) ?_
  refine z_iconst ee_T_copyFrom_33 (v := nI 0) (by decide) ?_
  refine z_aload_n ee_T_copyFrom_34 rfl ?_
  refine z_getI ee_T_copyFrom_35 ff_T_copyFrom_9 (by assumption) il_7_1 ?_
  -- at 38
  refine z_copy (t := 1) (n0 := m) (n1 := n) (sp := 0) (dp := 0) (n := (ys.take n).length) ee_T_copyFrom_38 (by omega) cc_T_copyFrom_41 cw_nat cw_stat cw_ini u3 k3 k5 rfl rfl zz_up_s (by rw [List.length_take]; omega) (by rw [List.length_take]; omega) (by omega) (by omega) (by decide) (Nat.le_of_ble_eq_true rfl) ?_
  refine z_vret ee_T_copyFrom_41 rfl (by omega) (by omega) ?_
  -- at 41
  refine ⟨_, rfl, rfl, ⟨?_, by rw [List.length_take]; omega, fun j hj => ?_⟩, fun b hb => ?_⟩
  · rw [zz_cp_n (by omega), zz_up_s]
  · rw [zz_cp_s]
    unfold va_cpy
    rw [if_pos ⟨by omega, by omega⟩, zz_up_a (by omega), zz_getD_take hj, Nat.zero_add, Nat.sub_zero, hy.2.2 j (by rw [List.length_take] at hj; omega)]
  · rw [zz_cp_n (by omega), zz_up_r (by omega)]
/-- the digit of x at the unit u -/
def zz_dig (x u : Int32) : Int32 := ((nI 48 + (x / u - x / u / nI 10 * nI 10)).toUInt32 % 65536).toInt32
theorem zz_dig_ch {x u : Int32} : zz_ch (zz_dig x u) := pk_fc _
def zz_un : Nat → Nat
  | 0 => 0
  | j + 1 => 10 ^ j
theorem zz_un_le : ∀ j, j ≤ 10 → zz_un j ≤ 1000000000
  | 0, _ => by decide
  | j + 1, h => by
    show 10 ^ j ≤ 10 ^ 9
    exact Nat.pow_le_pow_right (by decide) (by omega)
theorem zz_un_div (j : Nat) : zz_un (j + 1) / 10 = zz_un j := by
  cases j with
  | zero => rfl
  | succ j =>
    show 10 ^ (j + 1) / 10 = 10 ^ j
    rw [Nat.pow_succ]
    exact Nat.mul_div_cancel _ (by decide)
/-- the digits of x, from the unit 10 ^ (j - 1) on -/
def zz_num (n : Nat) (x : Int32) : Nat → List Int32 → List Int32
  | 0, xs => xs
  | j + 1, xs => zz_num n x j (if nI (zz_un (j + 1)) ≤ x ∨ j = 0 then zz_add n xs (zz_dig x (nI (zz_un (j + 1)))) else xs)
theorem zz_num_loop (hf : l.stackTraces = false) (hT : zz_Tx g K R t n) (x : Int32) {I0 : Nat → Nat → Int32} : ∀ (j : Nat) (xs : List Int32) (I : Nat → Nat → Int32), j ≤ 10 → zz_tx I t n xs → zz_fr t (t + 2) I0 I →
    Zz g l mm_T_addNumber 0 0 (fun v h' => ∃ I', h' = (K, R, I', L, z) ∧ v = none ∧ zz_tx I' t n (zz_num n x j xs) ∧ zz_fr t (t + 2) I0 I') zz_no 0 0 3 [some (.ref t), some (.int x), some (.int (nI (zz_un j)))] [] (K, R, I, L, z) := by
  intro j
  induction j with
  | zero =>
    intro xs I _ hx hfr
    obtain ⟨k1, k2, k3, k4, k5, k6⟩ := hT
    refine z_iload_n ee_T_addNumber_3 rfl ?_
    refine z_if_le ee_T_addNumber_4 (tgt := 39) (by decide) (fun c_4 => ?_) (fun c_4 => ?_)
    -- at 4
    · refine z_vret ee_T_addNumber_39 rfl (by omega) (by omega) ?_
      -- at 39
      exact ⟨_, rfl, rfl, hx, hfr⟩
    · exact absurd (by decide) c_4
  | succ j ih =>
    intro xs I hj hx hfr
    have hu := zz_un_le (j + 1) hj
    have hp : 0 < zz_un (j + 1) := Nat.pow_pos (by decide)
    have hdiv : nI (zz_un (j + 1)) / nI 10 = nI (zz_un j) := by rw [pk_div (by omega) (by decide) (by decide), zz_un_div]
    have k1 := hT.1
    refine z_iload_n ee_T_addNumber_3 rfl ?_
    refine z_if_le ee_T_addNumber_4 (tgt := 39) (by decide) (fun c_4 => ?_) (fun c_4 => ?_)
    -- at 4
    · simp (disch := omega) only [zi_lt, zi_le, zi_eq, zi_n, zi_0, zi_m1] at c_4
      omega
    have back : ∀ (xs' : List Int32) (I' : Nat → Nat → Int32), zz_tx I' t n xs' → zz_fr t (t + 2) I0 I' → xs' = (if nI (zz_un (j + 1)) ≤ x ∨ j = 0 then zz_add n xs (zz_dig x (nI (zz_un (j + 1)))) else xs) → Zz g l mm_T_addNumber 0 0 (fun v h' => ∃ I', h' = (K, R, I', L, z) ∧ v = none ∧ zz_tx I' t n (zz_num n x (j + 1) xs) ∧ zz_fr t (t + 2) I0 I') zz_no 0 0 31 [some (.ref t), some (.int x), some (.int (nI (zz_un (j + 1))))] [] (K, R, I', L, z) := by
      intro xs' I' hx' hfr' e
      refine z_iload_n ee_T_addNumber_31 rfl ?_
      refine z_bipush ee_T_addNumber_32 (v := nI 10) (by decide) ?_
      -- at 34
      refine z_idiv ee_T_addNumber_34 (by decide) ?_
      rw [hdiv]
      refine z_istore_m ee_T_addNumber_35 (j := 2) rfl (by decide) ?_
      refine z_goto ee_T_addNumber_36 (tgt := 3) (by decide) ?_
      -- at 3
      have h9 := ih xs' I' (by omega) hx' hfr'
      unfold zz_num
      rw [← e]
      exact h9
    have put : nI (zz_un (j + 1)) ≤ x ∨ j = 0 → Zz g l mm_T_addNumber 0 0 (fun v h' => ∃ I', h' = (K, R, I', L, z) ∧ v = none ∧ zz_tx I' t n (zz_num n x (j + 1) xs) ∧ zz_fr t (t + 2) I0 I') zz_no 0 0 17 [some (.ref t), some (.int x), some (.int (nI (zz_un (j + 1))))] [] (K, R, I, L, z) := by
      intro hc
      refine z_aload_n ee_T_addNumber_17 rfl ?_
      refine z_bipush ee_T_addNumber_18 (v := nI 48) (by decide) ?_
      refine z_iload_n ee_T_addNumber_20 rfl ?_
      refine z_iload_n ee_T_addNumber_21 rfl ?_
      -- at 22
      refine z_idiv ee_T_addNumber_22 (fun q => ?_) ?_
      · simp (disch := omega) only [zi_lt, zi_le, zi_eq, zi_n, zi_0, zi_m1] at q
        omega
      refine z_bipush ee_T_addNumber_23 (v := nI 10) (by decide) ?_
      -- at 25
      refine z_irem ee_T_addNumber_25 (by decide) ?_
      refine z_iadd ee_T_addNumber_26 ?_
      refine z_i2c ee_T_addNumber_27 rfl ?_
      -- at 28
      refine z_callV (As := [_]) ee_T_addNumber_28 kk_T_addNumber_34 rfl (by assumption) rfl rfl (Nat.le_of_ble_eq_true rfl) (by omega) (sp_T_add hf hT hx _ zz_dig_ch) (fun E h1 hx => hx.elim) (fun v h1 hq => ?_)
      obtain ⟨I', rfl, rfl, hx', hfr'⟩ := hq
      exact back _ I' hx' (hfr.trans hfr') (by rw [if_pos hc]; rfl)
    refine z_iload_n ee_T_addNumber_7 rfl ?_
    refine z_iload_n ee_T_addNumber_8 rfl ?_
    refine z_icmp_ge ee_T_addNumber_9 (tgt := 17) (by decide) (fun c_9 => ?_) (fun c_9 => ?_)
    -- at 9
    · exact put (Or.inl c_9)
    · refine z_iload_n ee_T_addNumber_12 rfl ?_
      refine z_iconst ee_T_addNumber_13 (v := nI 1) (by decide) ?_
      refine z_icmp_ne ee_T_addNumber_14 (tgt := 31) (by decide) (fun c_14 => ?_) (fun c_14 => ?_)
      -- at 14
      · refine back xs I hx hfr ?_
        rw [if_neg]
        rintro (q | q)
        · exact c_9 q
        · subst q
          exact c_14 rfl
      · refine put (Or.inr ?_)
        have e1 := (nI_eq (by omega) (by omega)).mp c_14
        cases j with
        | zero => rfl
        | succ j =>
          have : 10 ≤ zz_un (j + 1 + 1) := by
            show 10 ≤ 10 ^ (j + 1)
            rw [Nat.pow_succ]
            have := Nat.pow_pos (n := j) (show 0 < 10 by decide)
            omega
          omega
theorem sp_T_addNumber (hf : l.stackTraces = false) (hT : zz_Tx g K R t n) (hx : zz_tx I t n xs) (x : Int32) : zz_S g l mm_T_addNumber 0 0 [.ref t, .int x] (K, R, I, L, z) (fun v h' => ∃ I', h' = (K, R, I', L, z) ∧ v = none ∧ zz_tx I' t n (zz_num n x 10 xs) ∧ zz_fr t (t + 2) I I') zz_no := by
  refine z_start hf rfl (by decide +kernel) (Nat.le_of_ble_eq_true rfl) ?_
  dsimp only [zz_lv0]
  refine z_ldc ee_T_addNumber_0 wc_T_addNumber_33 ?_
  refine z_istore_m ee_T_addNumber_2 (j := 2) rfl (by decide) ?_
  -- at 3
  exact zz_num_loop hf hT x 10 xs I (by omega) hx zz_fr.rf
end Text2
end
section
/-! CODE -/
abbrev zz_dgt (c : Int32) : Prop := nI 48 ≤ c ∧ c ≤ nI 57
abbrev zz_esc (c : Int32) : Prop := c = nI 92 ∨ zz_dgt c
abbrev zz_typ (c : Int32) : Prop := nI 32 ≤ c ∧ c ≤ nI 126
theorem zz_i2c {j : Nat} (h : j < 65536) : ((nI j).toUInt32 % 65536).toInt32 = nI j := by
  rw [pk_char, pk_tn (by omega), Nat.mod_eq_of_lt h]
theorem zz_drop_nil {xs : List Int32} {i : Nat} (h : xs.drop i = []) : xs.length ≤ i := List.drop_eq_nil_iff.mp h
theorem zz_drop_cons {xs t : List Int32} {c : Int32} {i : Nat} (h : xs.drop i = c :: t) : i < xs.length ∧ xs.getD i 0 = c ∧ xs.drop (i + 1) = t := by
  have h1 : i < xs.length := by
    rcases Nat.lt_or_ge i xs.length with q | q
    · exact q
    · rw [List.drop_eq_nil_of_le q] at h; cases h
  have h2 := List.drop_eq_getElem_cons h1
  rw [h] at h2
  injection h2 with e1 e2
  exact ⟨h1, by rw [List.getD_eq_getElem?_getD, List.getElem?_eq_getElem h1]; exact e1.symm, e2.symm⟩
/-- the character once or more, each with its backslash where it needs one -/
def zz_rep (n : Nat) (c : Int32) : Nat → List Int32 → List Int32
  | 0, out => out
  | k + 1, out => zz_rep n c k (zz_add n (if zz_esc c then zz_add n out (nI 92) else out) c)
def zz_wr (n : Nat) (c : Int32) (run : Nat) (out : List Int32) : List Int32 :=
  if 3 ≤ run then zz_rep n c 1 (zz_add n out (nI (48 + run))) else zz_rep n c run out
def zz_fold (n : Nat) : Nat → List Int32 → List Int32 → List Int32
  | _, [], out => out
  | run, c :: t, out => if run + 1 = 9 ∨ t.head? ≠ some c then zz_fold n 0 t (zz_wr n c (run + 1) out) else zz_fold n (run + 1) t out
/-- the fault position, or -1 -/
def zz_flt : Nat → Bool → Bool → List Int32 → Int32
  | i, cnt, esc, [] => if cnt = true ∨ esc = true then nI i else -1
  | i, cnt, true, c :: t => if zz_esc c then zz_flt (i + 1) false false t else nI i
  | i, cnt, false, c :: t => if c = nI 92 then zz_flt (i + 1) cnt true t else if zz_dgt c then (if cnt = true ∨ c < nI 51 then nI i else zz_flt (i + 1) true false t) else zz_flt (i + 1) false false t
def zz_repc (n : Nat) (c : Int32) : Nat → List Int32 → List Int32
  | 0, out => out
  | k + 1, out => zz_repc n c k (zz_add n out c)
def zz_unf (n : Nat) : Nat → Bool → List Int32 → List Int32 → List Int32
  | _, _, [], out => out
  | k, true, c :: t, out => zz_unf n 1 false t (zz_repc n c k out)
  | k, false, c :: t, out => if c = nI 92 then zz_unf n k true t out else if zz_dgt c then zz_unf n (c.toInt - 48).toNat false t out else zz_unf n 1 false t (zz_repc n c k out)
def zz_sm : Nat → Int32 → List Int32 → Int32
  | _, s, [] => s
  | i, s, c :: t => zz_sm (i + 1) (s + c * nI (i + 1)) t
def zz_sum (xs : List Int32) : Int32 := let s := zz_sm 0 (nI 0) xs; s - s / nI 97 * nI 97
section Code
variable {g : zz_G} {l : Launch} {K : Nat → Nat × Nat} {R : Nat → Nat → Option Nat} {I : Nat → Nat → Int32} {L : Nat → Nat → Int64} {z : Nat} {t n u m : Nat} {xs ys : List Int32} {h : zz_H}
theorem sp_P_isDigit (hf : l.stackTraces = false) (c : Int32) : zz_S g l mm_P_isDigit 0 0 [.int c] h (zz_is h (.int (zz_tf (zz_dgt c)))) zz_no := by
  refine z_start hf rfl (by decide +kernel) (Nat.le_of_ble_eq_true rfl) ?_
  dsimp only [zz_lv0]
  refine z_iload_n ee_P_isDigit_0 rfl ?_
  refine z_bipush ee_P_isDigit_1 (v := nI 48) (by decide) ?_
  refine z_icmp_lt ee_P_isDigit_3 (tgt := 16) (by decide) (fun c_3 => ?_) (fun c_3 => ?_)
  -- at 3
  · refine z_iconst ee_P_isDigit_16 (v := nI 0) (by decide) ?_
    refine z_zret ee_P_isDigit_17 (ty := .boolean) rfl (by decide) (by omega) (by omega) ?_
    -- at 17
    exact ⟨rfl, by rw [zz_tf_f (fun q => absurd q.1 (Int32.not_le.mpr c_3))]⟩
  · refine z_iload_n ee_P_isDigit_6 rfl ?_
    refine z_bipush ee_P_isDigit_7 (v := nI 57) (by decide) ?_
    refine z_icmp_gt ee_P_isDigit_9 (tgt := 16) (by decide) (fun c_9 => ?_) (fun c_9 => ?_)
    -- at 9
    · refine z_iconst ee_P_isDigit_16 (v := nI 0) (by decide) ?_
      refine z_zret ee_P_isDigit_17 (ty := .boolean) rfl (by decide) (by omega) (by omega) ?_
      -- at 17
      exact ⟨rfl, by rw [zz_tf_f (fun q => absurd q.2 (Int32.not_le.mpr c_9))]⟩
    · refine z_iconst ee_P_isDigit_12 (v := nI 1) (by decide) ?_
      refine z_goto ee_P_isDigit_13 (tgt := 17) (by decide) ?_
      refine z_zret ee_P_isDigit_17 (ty := .boolean) rfl (by decide) (by omega) (by omega) ?_
      -- at 17
      exact ⟨rfl, by rw [zz_tf_t ⟨Int32.not_lt.mp c_3, Int32.not_lt.mp c_9⟩]⟩
theorem sp_P_isTypeable (hf : l.stackTraces = false) (c : Int32) : zz_S g l mm_P_isTypeable 0 0 [.int c] h (zz_is h (.int (zz_tf (zz_typ c)))) zz_no := by
  refine z_start hf rfl (by decide +kernel) (Nat.le_of_ble_eq_true rfl) ?_
  dsimp only [zz_lv0]
  refine z_iload_n ee_P_isTypeable_0 rfl ?_
  refine z_bipush ee_P_isTypeable_1 (v := nI 32) (by decide) ?_
  refine z_icmp_lt ee_P_isTypeable_3 (tgt := 16) (by decide) (fun c_3 => ?_) (fun c_3 => ?_)
  -- at 3
  · refine z_iconst ee_P_isTypeable_16 (v := nI 0) (by decide) ?_
    refine z_zret ee_P_isTypeable_17 (ty := .boolean) rfl (by decide) (by omega) (by omega) ?_
    -- at 17
    exact ⟨rfl, by rw [zz_tf_f (fun q => absurd q.1 (Int32.not_le.mpr c_3))]⟩
  · refine z_iload_n ee_P_isTypeable_6 rfl ?_
    refine z_bipush ee_P_isTypeable_7 (v := nI 126) (by decide) ?_
    refine z_icmp_gt ee_P_isTypeable_9 (tgt := 16) (by decide) (fun c_9 => ?_) (fun c_9 => ?_)
    -- at 9
    · refine z_iconst ee_P_isTypeable_16 (v := nI 0) (by decide) ?_
      refine z_zret ee_P_isTypeable_17 (ty := .boolean) rfl (by decide) (by omega) (by omega) ?_
      -- at 17
      exact ⟨rfl, by rw [zz_tf_f (fun q => absurd q.2 (Int32.not_le.mpr c_9))]⟩
    · refine z_iconst ee_P_isTypeable_12 (v := nI 1) (by decide) ?_
      refine z_goto ee_P_isTypeable_13 (tgt := 17) (by decide) ?_
      refine z_zret ee_P_isTypeable_17 (ty := .boolean) rfl (by decide) (by omega) (by omega) ?_
      -- at 17
      exact ⟨rfl, by rw [zz_tf_t ⟨Int32.not_lt.mp c_3, Int32.not_lt.mp c_9⟩]⟩
theorem sp_O_needsEscape (hf : l.stackTraces = false) (c : Int32) : zz_S g l mm_O_needsEscape 0 0 [.int c] h (zz_is h (.int (zz_tf (zz_esc c)))) zz_no := by
  refine z_start hf rfl (by decide +kernel) (Nat.le_of_ble_eq_true rfl) ?_
  dsimp only [zz_lv0]
  refine z_iload_n ee_O_needsEscape_0 rfl ?_
  refine z_bipush ee_O_needsEscape_1 (v := nI 92) (by decide) ?_
  refine z_icmp_eq ee_O_needsEscape_3 (tgt := 13) (by decide) (fun c_3 => ?_) (fun c_3 => ?_)
  -- at 3
  · refine z_iconst ee_O_needsEscape_13 (v := nI 1) (by decide) ?_
    refine z_goto ee_O_needsEscape_14 (tgt := 18) (by decide) ?_
    refine z_zret ee_O_needsEscape_18 (ty := .boolean) rfl (by decide) (by omega) (by omega) ?_
    -- at 18
    exact ⟨rfl, by rw [zz_tf_t (Or.inl c_3)]⟩
  · refine z_iload_n ee_O_needsEscape_6 rfl ?_
    -- at 7
    refine z_callSN (As := [_]) ee_O_needsEscape_7 kk_O_needsEscape_40 rfl rfl (Nat.le_of_ble_eq_true rfl) (by omega) (sp_P_isDigit hf c) (fun E h1 hx => hx.elim) (fun v h1 hq => ?_)
    obtain ⟨rfl, rfl⟩ := hq
    refine z_if_eq ee_O_needsEscape_10 (tgt := 17) (by decide) (fun c_10 => ?_) (fun c_10 => ?_)
    -- at 10
    · rw [zz_tf_0] at c_10
      refine z_iconst ee_O_needsEscape_17 (v := nI 0) (by decide) ?_
      refine z_zret ee_O_needsEscape_18 (ty := .boolean) rfl (by decide) (by omega) (by omega) ?_
      -- at 18
      exact ⟨rfl, by rw [zz_tf_f (fun q => q.elim c_3 c_10)]⟩
    · rw [zz_tf_n0] at c_10
      refine z_iconst ee_O_needsEscape_13 (v := nI 1) (by decide) ?_
      refine z_goto ee_O_needsEscape_14 (tgt := 18) (by decide) ?_
      refine z_zret ee_O_needsEscape_18 (ty := .boolean) rfl (by decide) (by omega) (by omega) ?_
      -- at 18
      exact ⟨rfl, by rw [zz_tf_t (Or.inr c_10)]⟩
theorem sp_O_endsRun (hf : l.stackTraces = false) (hT : zz_Tx g K R t n) (hx : zz_tx I t n xs) (i r : Nat) (hi : i < xs.length) (hr : r < 100) : zz_S g l mm_O_endsRun 0 0 [.ref t, .int (nI i), .int (nI r)] (K, R, I, L, z) (zz_is (K, R, I, L, z) (.int (zz_tf (r = 9 ∨ (xs.drop (i + 1)).head? ≠ some (xs.getD i 0))))) zz_no := by
  have k1 := hT.1
  have k6 := hT.2.2.2.2.2
  have hl := hx.2.1
  have hh : (xs.drop (i + 1)).head? = if i + 1 < xs.length then some (xs.getD (i + 1) 0) else none := by
    rw [List.head?_drop]
    by_cases q : i + 1 < xs.length
    · rw [if_pos q, List.getElem?_eq_getElem q, List.getD_eq_getElem?_getD, List.getElem?_eq_getElem q]; rfl
    · rw [if_neg q, List.getElem?_eq_none (by omega)]
  have yes : (r = 9 ∨ (xs.drop (i + 1)).head? ≠ some (xs.getD i 0)) → Zz g l mm_O_endsRun 0 0 (zz_is (K, R, I, L, z) (.int (zz_tf (r = 9 ∨ (xs.drop (i + 1)).head? ≠ some (xs.getD i 0))))) zz_no 0 0 31 [some (.ref t), some (.int (nI i)), some (.int (nI r))] [] (K, R, I, L, z) := by
    intro q
    refine z_iconst ee_O_endsRun_31 (v := nI 1) (by decide) ?_
    refine z_goto ee_O_endsRun_32 (tgt := 36) (by decide) ?_
    refine z_zret ee_O_endsRun_36 (ty := .boolean) rfl (by decide) (by omega) (by omega) ?_
    -- at 36
    exact ⟨rfl, by rw [zz_tf_t q]⟩
  refine z_start hf rfl (by decide +kernel) (Nat.le_of_ble_eq_true rfl) ?_
  dsimp only [zz_lv0]
  refine z_iload_n ee_O_endsRun_0 rfl ?_
  refine z_bipush ee_O_endsRun_1 (v := nI 9) (by decide) ?_
  refine z_icmp_eq ee_O_endsRun_3 (tgt := 31) (by decide) (fun c_3 => ?_) (fun c_3 => ?_)
  -- at 3
  · refine yes (Or.inl ((nI_eq (by omega) (by omega)).mp c_3))
  · have c_4 : ¬ r = 9 := fun q => c_3 (by rw [q])
    refine z_iload_n ee_O_endsRun_6 rfl ?_
    refine z_iconst ee_O_endsRun_7 (v := nI 1) (by decide) ?_
    refine z_iadd ee_O_endsRun_8 ?_
    refine z_aload_n ee_O_endsRun_9 rfl ?_
    refine z_getI ee_O_endsRun_10 ff_O_endsRun_14 (by assumption) il_7_1 ?_
    refine z_icmp_eq ee_O_endsRun_13 (tgt := 31) (by decide) (fun c_13 => ?_) (fun c_13 => ?_)
    -- at 13
    · rw [nI_add, hx.1] at c_13
      have c_14 := (nI_eq (by omega) (by omega)).mp c_13
      refine yes (Or.inr ?_)
      rw [hh, if_neg (by omega)]
      exact fun q => by cases q
    · have c_14 : i + 1 < xs.length := by
        rcases Nat.lt_or_ge (i + 1) xs.length with q | q
        · exact q
        · have : i + 1 = xs.length := by omega
          exact absurd (by rw [nI_add, hx.1, this]) c_13
      refine z_aload_n ee_O_endsRun_16 rfl ?_
      refine z_iload_n ee_O_endsRun_17 rfl ?_
      refine z_iconst ee_O_endsRun_18 (v := nI 1) (by decide) ?_
      refine z_iadd ee_O_endsRun_19 ?_
      -- at 20
      refine z_callV (As := [_]) ee_O_endsRun_20 kk_O_endsRun_24 rfl (by assumption) rfl rfl (Nat.le_of_ble_eq_true rfl) (by omega) (sp_T_at hf hT hx _) (fun E h1 hx => hx.elim) (fun v h1 hq => ?_)
      obtain ⟨rfl, rfl, -⟩ := hq
      refine z_aload_n ee_O_endsRun_23 rfl ?_
      refine z_iload_n ee_O_endsRun_24 rfl ?_
      -- at 25
      refine z_callV (As := [_]) ee_O_endsRun_25 kk_O_endsRun_24 rfl (by assumption) rfl rfl (Nat.le_of_ble_eq_true rfl) (by omega) (sp_T_at hf hT hx _) (fun E h1 hx => hx.elim) (fun v h1 hq => ?_)
      obtain ⟨rfl, rfl, -⟩ := hq
      rw [nI_add, zz_at0_n (by omega), zz_at0_n (by omega)]
      refine z_icmp_eq ee_O_endsRun_28 (tgt := 35) (by decide) (fun c_28 => ?_) (fun c_28 => ?_)
      -- at 28
      · refine z_iconst ee_O_endsRun_35 (v := nI 0) (by decide) ?_
        refine z_zret ee_O_endsRun_36 (ty := .boolean) rfl (by decide) (by omega) (by omega) ?_
        -- at 36
        have c9 : ¬ (r = 9 ∨ (xs.drop (i + 1)).head? ≠ some (xs.getD i 0)) := by
          rintro (q | q)
          · exact c_4 q
          · rw [hh, if_pos c_14, c_28] at q
            exact q rfl
        exact ⟨rfl, by rw [zz_tf_f c9]⟩
      · refine yes (Or.inr ?_)
        rw [hh, if_pos c_14]
        intro q
        injection q with q
        exact c_28 q
theorem zz_wr_loop (hf : l.stackTraces = false) (hU : zz_Tx g K R u m) (c : Int32) (hc : zz_ch c) {r k3 : Int32} (times : Nat) (ht : times < 100) {I0 : Nat → Nat → Int32} : ∀ (k i : Nat) (out : List Int32) (I : Nat → Nat → Int32), i + k = times → zz_tx I u m out → zz_fr u (u + 2) I0 I →
    Zz g l mm_O_writeRun 0 0 (fun v h' => ∃ I', h' = (K, R, I', L, z) ∧ v = none ∧ zz_tx I' u m (zz_rep m c k out) ∧ zz_fr u (u + 2) I0 I') zz_no 0 0 44 [some (.int c), some (.int r), some (.ref u), some (.int k3), some (.int (zz_tf (zz_esc c))), some (.int (nI times)), some (.int (nI i))] [] (K, R, I, L, z) := by
  intro k
  have k1 := hU.1
  induction k with
  | zero =>
    intro i out I hi hx hfr
    refine z_iload ee_O_writeRun_44 rfl ?_
    refine z_iload ee_O_writeRun_46 rfl ?_
    refine z_icmp_ge ee_O_writeRun_48 (tgt := 73) (by decide) (fun c_48 => ?_) (fun c_48 => ?_)
    -- at 48
    · refine z_vret ee_O_writeRun_73 rfl (by omega) (by omega) ?_
      -- at 73
      exact ⟨_, rfl, rfl, hx, hfr⟩
    · simp (disch := omega) only [zi_lt, zi_le, zi_eq, zi_n, zi_0, zi_m1] at c_48
      omega
  | succ k ih =>
    intro i out I hi hx hfr
    have tail : ∀ (out' : List Int32) (I' : Nat → Nat → Int32), zz_tx I' u m out' → zz_fr u (u + 2) I0 I' → out' = (if zz_esc c then zz_add m out (nI 92) else out) → Zz g l mm_O_writeRun 0 0 (fun v h' => ∃ I', h' = (K, R, I', L, z) ∧ v = none ∧ zz_tx I' u m (zz_rep m c (k + 1) out) ∧ zz_fr u (u + 2) I0 I') zz_no 0 0 62 [some (.int c), some (.int r), some (.ref u), some (.int k3), some (.int (zz_tf (zz_esc c))), some (.int (nI times)), some (.int (nI i))] [] (K, R, I', L, z) := by
      intro out' I' hx' hfr' e
      refine z_aload_n ee_O_writeRun_62 rfl ?_
      refine z_iload_n ee_O_writeRun_63 rfl ?_
      -- at 64
      refine z_callV (As := [_]) ee_O_writeRun_64 kk_O_writeRun_36 rfl (by assumption) rfl rfl (Nat.le_of_ble_eq_true rfl) (by omega) (sp_T_add hf hU hx' c hc) (fun E h1 hx => hx.elim) (fun v h1 hq => ?_)
      obtain ⟨I2, rfl, rfl, hx2, hfr2⟩ := hq
      refine z_iinc ee_O_writeRun_67 rfl rfl (by decide) ?_
      refine z_goto ee_O_writeRun_70 (tgt := 44) (by decide) ?_
      -- at 44
      have e2 : nI i + Int32.ofInt 1 = nI (i + 1) := nI_1 i
      rw [e2]
      have h9 := ih (i + 1) _ I2 (by omega) hx2 (hfr'.trans hfr2)
      unfold zz_rep
      rw [← e]
      exact h9
    refine z_iload ee_O_writeRun_44 rfl ?_
    refine z_iload ee_O_writeRun_46 rfl ?_
    refine z_icmp_ge ee_O_writeRun_48 (tgt := 73) (by decide) (fun c_48 => ?_) (fun c_48 => ?_)
    -- at 48
    · simp (disch := omega) only [zi_lt, zi_le, zi_eq, zi_n, zi_0, zi_m1] at c_48
      omega
    · refine z_iload ee_O_writeRun_51 rfl ?_
      refine z_if_eq ee_O_writeRun_53 (tgt := 62) (by decide) (fun c_53 => ?_) (fun c_53 => ?_)
      -- at 53
      · rw [zz_tf_0] at c_53
        exact tail out I hx hfr (by rw [if_neg c_53])
      · rw [zz_tf_n0] at c_53
        refine z_aload_n ee_O_writeRun_56 rfl ?_
        refine z_bipush ee_O_writeRun_57 (v := nI 92) (by decide) ?_
        -- at 59
        refine z_callV (As := [_]) ee_O_writeRun_59 kk_O_writeRun_36 rfl (by assumption) rfl rfl (Nat.le_of_ble_eq_true rfl) (by omega) (sp_T_add hf hU hx (nI 92) (zz_ch_n (by omega))) (fun E h1 hx => hx.elim) (fun v h1 hq => ?_)
        obtain ⟨I2, rfl, rfl, hx2, hfr2⟩ := hq
        exact tail _ I2 hx2 (hfr.trans hfr2) (by rw [if_pos c_53])
theorem sp_O_writeRun (hf : l.stackTraces = false) (hU : zz_Tx g K R u m) (hx : zz_tx I u m ys) (c : Int32) (hc : zz_ch c) (r : Nat) (hr : r < 10) : zz_S g l mm_O_writeRun 0 0 [.int c, .int (nI r), .ref u] (K, R, I, L, z) (fun v h' => ∃ I', h' = (K, R, I', L, z) ∧ v = none ∧ zz_tx I' u m (zz_wr m c r ys) ∧ zz_fr u (u + 2) I I') zz_no := by
  have k1 := hU.1
  refine z_start hf rfl (by decide +kernel) (Nat.le_of_ble_eq_true rfl) ?_
  dsimp only [zz_lv0]
  refine z_iload_n ee_O_writeRun_0 rfl ?_
  refine z_iconst ee_O_writeRun_1 (v := nI 3) (by decide) ?_
  refine z_icmp_lt ee_O_writeRun_2 (tgt := 9) (by decide) (fun c_2 => ?_) (fun c_2 => ?_)
  -- at 2
  · simp (disch := omega) only [zi_lt, zi_le, zi_eq, zi_n, zi_0, zi_m1] at c_2
    have e : zz_wr m c r ys = zz_rep m c r ys := if_neg (by omega)
    rw [e]
    refine z_iconst ee_O_writeRun_9 (v := nI 0) (by decide) ?_
    refine z_istore_m ee_O_writeRun_10 (j := 3) rfl (by decide) ?_
    refine z_iload_n ee_O_writeRun_11 rfl ?_
    -- at 12
    refine z_callS (As := [_]) ee_O_writeRun_12 kk_O_writeRun_32 rfl rfl (Nat.le_of_ble_eq_true rfl) (by omega) (sp_O_needsEscape hf c) (fun E h1 hx => hx.elim) (fun v h1 hq => ?_)
    obtain ⟨rfl, rfl⟩ := hq
    refine z_istore ee_O_writeRun_15 (by decide) ?_
    refine z_iload_n ee_O_writeRun_17 rfl ?_
    refine z_if_eq ee_O_writeRun_18 (tgt := 30) (by decide) (fun c_18 => ?_) (fun c_18 => ?_)
    -- at 18
    · refine z_iload_n ee_O_writeRun_30 rfl ?_
      refine z_if_eq ee_O_writeRun_31 (tgt := 38) (by decide) (fun c_31 => ?_) (fun c_31 => ?_)
      -- at 31
      · refine z_iload_n ee_O_writeRun_38 rfl ?_
        refine z_istore ee_O_writeRun_39 (by decide) ?_
        refine z_iconst ee_O_writeRun_41 (v := nI 0) (by decide) ?_
        refine z_istore ee_O_writeRun_42 (by decide) ?_
        -- at 44
        exact zz_wr_loop hf hU c hc r (by omega) r 0 ys I (by omega) hx zz_fr.rf
      · exact absurd rfl c_31
    · exact absurd rfl c_18
  · simp (disch := omega) only [zi_lt, zi_le, zi_eq, zi_n, zi_0, zi_m1] at c_2
    have e : zz_wr m c r ys = zz_rep m c 1 (zz_add m ys (nI (48 + r))) := if_pos (by omega)
    rw [e]
    refine z_iconst ee_O_writeRun_5 (v := nI 1) (by decide) ?_
    refine z_goto ee_O_writeRun_6 (tgt := 10) (by decide) ?_
    refine z_istore_m ee_O_writeRun_10 (j := 3) rfl (by decide) ?_
    refine z_iload_n ee_O_writeRun_11 rfl ?_
    -- at 12
    refine z_callS (As := [_]) ee_O_writeRun_12 kk_O_writeRun_32 rfl rfl (Nat.le_of_ble_eq_true rfl) (by omega) (sp_O_needsEscape hf c) (fun E h1 hx => hx.elim) (fun v h1 hq => ?_)
    obtain ⟨rfl, rfl⟩ := hq
    refine z_istore ee_O_writeRun_15 (by decide) ?_
    refine z_iload_n ee_O_writeRun_17 rfl ?_
    refine z_if_eq ee_O_writeRun_18 (tgt := 30) (by decide) (fun c_18 => ?_) (fun c_18 => ?_)
    -- at 18
    · exact absurd c_18 (by decide)
    · refine z_aload_n ee_O_writeRun_21 rfl ?_
      refine z_bipush ee_O_writeRun_22 (v := nI 48) (by decide) ?_
      refine z_iload_n ee_O_writeRun_24 rfl ?_
      refine z_iadd ee_O_writeRun_25 ?_
      refine z_i2c ee_O_writeRun_26 rfl ?_
      -- at 27
      rw [nI_add, zz_i2c (by omega)]
      refine z_callV (As := [_]) ee_O_writeRun_27 kk_O_writeRun_36 rfl (by assumption) rfl rfl (Nat.le_of_ble_eq_true rfl) (by omega) (sp_T_add hf hU hx (nI (48 + r)) (zz_ch_n (by omega))) (fun E h1 hx => hx.elim) (fun v h1 hq => ?_)
      obtain ⟨I2, rfl, rfl, hx2, hfr2⟩ := hq
      refine z_iload_n ee_O_writeRun_30 rfl ?_
      refine z_if_eq ee_O_writeRun_31 (tgt := 38) (by decide) (fun c_31 => ?_) (fun c_31 => ?_)
      -- at 31
      · exact absurd c_31 (by decide)
      · refine z_iconst ee_O_writeRun_34 (v := nI 1) (by decide) ?_
        refine z_goto ee_O_writeRun_35 (tgt := 39) (by decide) ?_
        refine z_istore ee_O_writeRun_39 (by decide) ?_
        refine z_iconst ee_O_writeRun_41 (v := nI 0) (by decide) ?_
        refine z_istore ee_O_writeRun_42 (by decide) ?_
        -- at 44
        exact zz_wr_loop hf hU c hc 1 (by omega) 1 0 _ I2 (by omega) hx2 hfr2
end Code
end
section
/-! CODE: the loops over a text -/
section Code2
variable {g : zz_G} {l : Launch} {K : Nat → Nat × Nat} {R : Nat → Nat → Option Nat} {I : Nat → Nat → Int32} {L : Nat → Nat → Int64} {z : Nat} {t n u m : Nat} {xs : List Int32}
theorem zz_iinc1 (i : Nat) : nI i + Int32.ofInt 1 = nI (i + 1) := nI_1 i
/-- the characters of a text are chars: what T.at says -/
theorem zz_fold_loop (hf : l.stackTraces = false) (hT : zz_Tx g K R t n) (hU : zz_Tx g K R u m) (hd : t + 2 ≤ u ∨ u + 2 ≤ t) {I0 : Nat → Nat → Int32} (hx0 : zz_tx I0 t n xs) : ∀ (ys : List Int32) (i run : Nat) (out : List Int32) (I : Nat → Nat → Int32), xs.drop i = ys → i ≤ xs.length → run < 9 → zz_tx I u m out → zz_fr u (u + 2) I0 I →
    Zz g l mm_O_fold 0 0 (fun v h' => ∃ I', h' = (K, R, I', L, z) ∧ v = none ∧ zz_tx I' u m (zz_fold m run ys out) ∧ zz_fr u (u + 2) I0 I') zz_no 0 0 8 [some (.ref t), some (.ref u), some (.int (nI run)), some (.int (nI i))] [] (K, R, I, L, z) := by
  intro ys
  have k1 := hT.1
  have k6 := hT.2.2.2.2.2
  have kl := hx0.2.1
  induction ys with
  | nil =>
    intro i run out I hi hil hr hx hfr
    have hx1 := hx0.fr hfr hd
    have h1 := zz_drop_nil hi
    refine z_iload_n ee_O_fold_8 rfl ?_
    refine z_aload_n ee_O_fold_9 rfl ?_
    refine z_getI ee_O_fold_10 ff_O_fold_14 (by assumption) il_7_1 ?_
    refine z_icmp_ge ee_O_fold_13 (tgt := 46) (by decide) (fun c_13 => ?_) (fun c_13 => ?_)
    -- at 13
    · refine z_vret ee_O_fold_46 rfl (by omega) (by omega) ?_
      -- at 46
      exact ⟨_, rfl, rfl, hx, hfr⟩
    · rw [hx1.1] at c_13
      simp (disch := omega) only [zi_lt, zi_le, zi_eq, zi_n, zi_0, zi_m1] at c_13
      omega
  | cons c ys ih =>
    intro i run out I hi hil hr hx hfr
    have hx1 := hx0.fr hfr hd
    obtain ⟨h1, h2, h3⟩ := zz_drop_cons hi
    refine z_iload_n ee_O_fold_8 rfl ?_
    refine z_aload_n ee_O_fold_9 rfl ?_
    refine z_getI ee_O_fold_10 ff_O_fold_14 (by assumption) il_7_1 ?_
    refine z_icmp_ge ee_O_fold_13 (tgt := 46) (by decide) (fun c_13 => ?_) (fun c_13 => ?_)
    -- at 13
    · rw [hx1.1] at c_13
      simp (disch := omega) only [zi_lt, zi_le, zi_eq, zi_n, zi_0, zi_m1] at c_13
      omega
    · refine z_iinc ee_O_fold_16 rfl rfl (by decide) ?_
      refine z_aload_n ee_O_fold_19 rfl ?_
      refine z_iload_n ee_O_fold_20 rfl ?_
      refine z_iload_n ee_O_fold_21 rfl ?_
      -- at 22
      rw [zz_iinc1]
      refine z_callS (As := [_, _, _]) ee_O_fold_22 kk_O_fold_18 rfl rfl (Nat.le_of_ble_eq_true rfl) (by omega) (sp_O_endsRun hf hT hx1 i (run + 1) h1 (by omega)) (fun E h1 hx => hx.elim) (fun v h1 hq => ?_)
      obtain ⟨rfl, rfl⟩ := hq
      rw [h2, h3]
      refine z_if_eq ee_O_fold_25 (tgt := 40) (by decide) (fun c_25 => ?_) (fun c_25 => ?_)
      -- at 25
      · rw [zz_tf_0] at c_25
        refine z_iinc ee_O_fold_40 rfl rfl (by decide) ?_
        refine z_goto ee_O_fold_43 (tgt := 8) (by decide) ?_
        -- at 8
        rw [zz_iinc1]
        have h9 := ih (i + 1) (run + 1) out I h3 h1 (by omega) hx hfr
        unfold zz_fold
        rw [if_neg c_25]
        exact h9
      · rw [zz_tf_n0] at c_25
        refine z_aload_n ee_O_fold_28 rfl ?_
        refine z_iload_n ee_O_fold_29 rfl ?_
        -- at 30
        refine z_callV (As := [_]) ee_O_fold_30 kk_O_fold_24 rfl (by assumption) rfl rfl (Nat.le_of_ble_eq_true rfl) (by omega) (sp_T_at hf hT hx1 _) (fun E h1 hx => hx.elim) (fun v h1 hq => ?_)
        obtain ⟨rfl, rfl, hc⟩ := hq
        rw [zz_at0_n (by omega), h2] at hc ⊢
        refine z_iload_n ee_O_fold_33 rfl ?_
        refine z_aload_n ee_O_fold_34 rfl ?_
        -- at 35
        refine z_callS (As := [_, _, _]) ee_O_fold_35 kk_O_fold_28 rfl rfl (Nat.le_of_ble_eq_true rfl) (by omega) (sp_O_writeRun hf hU hx c hc (run + 1) (by omega)) (fun E h1 hx => hx.elim) (fun v h1 hq => ?_)
        obtain ⟨I2, rfl, rfl, hx2, hfr2⟩ := hq
        refine z_iconst ee_O_fold_38 (v := nI 0) (by decide) ?_
        refine z_istore_m ee_O_fold_39 (j := 2) rfl (by decide) ?_
        refine z_iinc ee_O_fold_40 rfl rfl (by decide) ?_
        refine z_goto ee_O_fold_43 (tgt := 8) (by decide) ?_
        -- at 8
        rw [zz_iinc1]
        have h9 := ih (i + 1) 0 _ I2 h3 h1 (by omega) hx2 (hfr.trans hfr2)
        unfold zz_fold
        rw [if_pos c_25]
        exact h9
theorem sp_O_fold (hf : l.stackTraces = false) (hT : zz_Tx g K R t n) (hU : zz_Tx g K R u m) (hd : t + 2 ≤ u ∨ u + 2 ≤ t) (hx : zz_tx I t n xs) : zz_S g l mm_O_fold 0 0 [.ref t, .ref u] (K, R, I, L, z) (fun v h' => ∃ I', h' = (K, R, I', L, z) ∧ v = none ∧ zz_tx I' u m (zz_fold m 0 xs []) ∧ zz_fr u (u + 2) I I') zz_no := by
  have k1 := hU.1
  refine z_start hf rfl (by decide +kernel) (Nat.le_of_ble_eq_true rfl) ?_
  dsimp only [zz_lv0]
  refine z_aload_n ee_O_fold_0 rfl ?_
  -- at 1
  refine z_callV (As := []) ee_O_fold_1 kk_O_fold_9 rfl (by assumption) rfl rfl (Nat.le_of_ble_eq_true rfl) (by omega) (sp_T_clear hf hU) (fun E h1 hx => hx.elim) (fun v h1 hq => ?_)
  obtain ⟨I2, rfl, rfl, hx2, hfr2⟩ := hq
  refine z_iconst ee_O_fold_4 (v := nI 0) (by decide) ?_
  refine z_istore_m ee_O_fold_5 (j := 2) rfl (by decide) ?_
  refine z_iconst ee_O_fold_6 (v := nI 0) (by decide) ?_
  refine z_istore_m ee_O_fold_7 (j := 3) rfl (by decide) ?_
  -- at 8
  exact zz_fold_loop hf hT hU hd hx xs 0 0 [] I2 rfl (Nat.zero_le _) (by omega) hx2 hfr2
theorem zz_sum_loop (hf : l.stackTraces = false) (hT : zz_Tx g K R t n) (hx : zz_tx I t n xs) : ∀ (ys : List Int32) (i : Nat) (s : Int32), xs.drop i = ys → i ≤ xs.length →
    Zz g l mm_O_sumOf 0 0 (zz_is (K, R, I, L, z) (.int (zz_sm i s ys - zz_sm i s ys / nI 97 * nI 97))) zz_no 0 0 4 [some (.ref t), some (.int s), some (.int (nI i))] [] (K, R, I, L, z) := by
  intro ys
  have k1 := hT.1
  have k6 := hT.2.2.2.2.2
  have kl := hx.2.1
  induction ys with
  | nil =>
    intro i s hi hil
    have h1 := zz_drop_nil hi
    refine z_iload_n ee_O_sumOf_4 rfl ?_
    refine z_aload_n ee_O_sumOf_5 rfl ?_
    refine z_getI ee_O_sumOf_6 ff_O_sumOf_14 (by assumption) il_7_1 ?_
    refine z_icmp_ge ee_O_sumOf_9 (tgt := 30) (by decide) (fun c_9 => ?_) (fun c_9 => ?_)
    -- at 9
    · refine z_iload_n ee_O_sumOf_30 rfl ?_
      refine z_bipush ee_O_sumOf_31 (v := nI 97) (by decide) ?_
      -- at 33
      refine z_irem ee_O_sumOf_33 (by decide) ?_
      refine z_iret ee_O_sumOf_34 rfl (by omega) (by omega) ?_
      -- at 34
      exact ⟨rfl, rfl⟩
    · rw [hx.1] at c_9
      simp (disch := omega) only [zi_lt, zi_le, zi_eq, zi_n, zi_0, zi_m1] at c_9
      omega
  | cons c ys ih =>
    intro i s hi hil
    obtain ⟨h1, h2, h3⟩ := zz_drop_cons hi
    refine z_iload_n ee_O_sumOf_4 rfl ?_
    refine z_aload_n ee_O_sumOf_5 rfl ?_
    refine z_getI ee_O_sumOf_6 ff_O_sumOf_14 (by assumption) il_7_1 ?_
    refine z_icmp_ge ee_O_sumOf_9 (tgt := 30) (by decide) (fun c_9 => ?_) (fun c_9 => ?_)
    -- at 9
    · rw [hx.1] at c_9
      simp (disch := omega) only [zi_lt, zi_le, zi_eq, zi_n, zi_0, zi_m1] at c_9
      omega
    · refine z_iload_n ee_O_sumOf_12 rfl ?_
      refine z_aload_n ee_O_sumOf_13 rfl ?_
      refine z_iload_n ee_O_sumOf_14 rfl ?_
      -- at 15
      refine z_callV (As := [_]) ee_O_sumOf_15 kk_O_sumOf_24 rfl (by assumption) rfl rfl (Nat.le_of_ble_eq_true rfl) (by omega) (sp_T_at hf hT hx _) (fun E h1 hx => hx.elim) (fun v h1 hq => ?_)
      obtain ⟨rfl, rfl, -⟩ := hq
      rw [zz_at0_n (by omega), h2]
      refine z_iload_n ee_O_sumOf_18 rfl ?_
      refine z_iconst ee_O_sumOf_19 (v := nI 1) (by decide) ?_
      refine z_iadd ee_O_sumOf_20 ?_
      refine z_imul ee_O_sumOf_21 ?_
      refine z_iadd ee_O_sumOf_22 ?_
      refine z_istore_m ee_O_sumOf_23 (j := 1) rfl (by decide) ?_
      refine z_iinc ee_O_sumOf_24 rfl rfl (by decide) ?_
      refine z_goto ee_O_sumOf_27 (tgt := 4) (by decide) ?_
      -- at 4
      rw [zz_iinc1, nI_add]
      exact ih (i + 1) _ h3 h1
theorem sp_O_sumOf (hf : l.stackTraces = false) (hT : zz_Tx g K R t n) (hx : zz_tx I t n xs) : zz_S g l mm_O_sumOf 0 0 [.ref t] (K, R, I, L, z) (zz_is (K, R, I, L, z) (.int (zz_sum xs))) zz_no := by
  refine z_start hf rfl (by decide +kernel) (Nat.le_of_ble_eq_true rfl) ?_
  dsimp only [zz_lv0]
  refine z_iconst ee_O_sumOf_0 (v := nI 0) (by decide) ?_
  refine z_istore_m ee_O_sumOf_1 (j := 1) rfl (by decide) ?_
  refine z_iconst ee_O_sumOf_2 (v := nI 0) (by decide) ?_
  refine z_istore_m ee_O_sumOf_3 (j := 2) rfl (by decide) ?_
  -- at 4
  exact zz_sum_loop hf hT hx xs 0 (nI 0) rfl (Nat.zero_le _)
theorem zz_flt_loop (hf : l.stackTraces = false) (hT : zz_Tx g K R t n) (hx : zz_tx I t n xs) : ∀ (ys : List Int32) (i : Nat) (cnt esc : Bool), xs.drop i = ys → i ≤ xs.length →
    Zz g l mm_O_faultIn 0 0 (zz_is (K, R, I, L, z) (.int (zz_flt i cnt esc ys))) zz_no 0 0 6 [some (.ref t), some (.int (zz_tf (cnt = true))), some (.int (zz_tf (esc = true))), some (.int (nI i))] [] (K, R, I, L, z) := by
  intro ys
  have k1 := hT.1
  have k6 := hT.2.2.2.2.2
  have kl := hx.2.1
  induction ys with
  | nil =>
    intro i cnt esc hi hil
    have h1 := zz_drop_nil hi
    have hi2 : i = xs.length := by omega
    have yes : (cnt = true ∨ esc = true) → Zz g l mm_O_faultIn 0 0 (zz_is (K, R, I, L, z) (.int (zz_flt i cnt esc []))) zz_no 0 0 96 [some (.ref t), some (.int (zz_tf (cnt = true))), some (.int (zz_tf (esc = true))), some (.int (nI i))] [] (K, R, I, L, z) := by
      intro q
      refine z_aload_n ee_O_faultIn_96 rfl ?_
      refine z_getI ee_O_faultIn_97 ff_O_faultIn_14 (by assumption) il_7_1 ?_
      refine z_goto ee_O_faultIn_100 (tgt := 104) (by decide) ?_
      refine z_iret ee_O_faultIn_104 rfl (by omega) (by omega) ?_
      -- at 104
      refine ⟨rfl, ?_⟩
      unfold zz_flt
      rw [if_pos q, hx.1, hi2]
    refine z_iload_n ee_O_faultIn_6 rfl ?_
    refine z_aload_n ee_O_faultIn_7 rfl ?_
    refine z_getI ee_O_faultIn_8 ff_O_faultIn_14 (by assumption) il_7_1 ?_
    refine z_icmp_ge ee_O_faultIn_11 (tgt := 88) (by decide) (fun c_11 => ?_) (fun c_11 => ?_)
    -- at 11
    · refine z_iload_n ee_O_faultIn_88 rfl ?_
      refine z_if_ne ee_O_faultIn_89 (tgt := 96) (by decide) (fun c_89 => ?_) (fun c_89 => ?_)
      -- at 89
      · rw [zz_tf_n0] at c_89
        exact yes (Or.inl c_89)
      · rw [zz_tf_0] at c_89
        refine z_iload_n ee_O_faultIn_92 rfl ?_
        refine z_if_eq ee_O_faultIn_93 (tgt := 103) (by decide) (fun c_93 => ?_) (fun c_93 => ?_)
        -- at 93
        · rw [zz_tf_0] at c_93
          refine z_iconst ee_O_faultIn_103 (v := -1) (by decide) ?_
          refine z_iret ee_O_faultIn_104 rfl (by omega) (by omega) ?_
          -- at 104
          refine ⟨rfl, ?_⟩
          unfold zz_flt
          rw [if_neg (fun q => q.elim c_89 c_93)]
        · rw [zz_tf_n0] at c_93
          exact yes (Or.inr c_93)
    · rw [hx.1] at c_11
      simp (disch := omega) only [zi_lt, zi_le, zi_eq, zi_n, zi_0, zi_m1] at c_11
      omega
  | cons c ys ih =>
    intro i cnt esc hi hil
    obtain ⟨h1, h2, h3⟩ := zz_drop_cons hi
    have back : ∀ (cnt' esc' : Bool), zz_flt i cnt esc (c :: ys) = zz_flt (i + 1) cnt' esc' ys → Zz g l mm_O_faultIn 0 0 (zz_is (K, R, I, L, z) (.int (zz_flt i cnt esc (c :: ys)))) zz_no 0 0 82 [some (.ref t), some (.int (zz_tf (cnt' = true))), some (.int (zz_tf (esc' = true))), some (.int (nI i))] [] (K, R, I, L, z) := by
      intro cnt' esc' e
      refine z_iinc ee_O_faultIn_82 rfl rfl (by decide) ?_
      refine z_goto ee_O_faultIn_85 (tgt := 6) (by decide) ?_
      -- at 6
      rw [zz_iinc1, e]
      exact ih (i + 1) cnt' esc' h3 h1
    refine z_iload_n ee_O_faultIn_6 rfl ?_
    refine z_aload_n ee_O_faultIn_7 rfl ?_
    refine z_getI ee_O_faultIn_8 ff_O_faultIn_14 (by assumption) il_7_1 ?_
    refine z_icmp_ge ee_O_faultIn_11 (tgt := 88) (by decide) (fun c_11 => ?_) (fun c_11 => ?_)
    -- at 11
    · rw [hx.1] at c_11
      simp (disch := omega) only [zi_lt, zi_le, zi_eq, zi_n, zi_0, zi_m1] at c_11
      omega
    · refine z_aload_n ee_O_faultIn_14 rfl ?_
      refine z_iload_n ee_O_faultIn_15 rfl ?_
      -- at 16
      refine z_callV (As := [_]) ee_O_faultIn_16 kk_O_faultIn_24 rfl (by assumption) rfl rfl (Nat.le_of_ble_eq_true rfl) (by omega) (sp_T_at hf hT hx _) (fun E h1 hx => hx.elim) (fun v h1 hq => ?_)
      obtain ⟨rfl, rfl, -⟩ := hq
      rw [zz_at0_n (by omega), h2]
      refine z_istore ee_O_faultIn_19 (by decide) ?_
      refine z_iload_n ee_O_faultIn_21 rfl ?_
      refine z_if_eq ee_O_faultIn_22 (tgt := 42) (by decide) (fun c_22 => ?_) (fun c_22 => ?_)
      -- at 22
      · -- not escaped
        rw [zz_tf_0] at c_22
        have he : esc = false := by simpa using c_22
        subst he
        refine z_iload ee_O_faultIn_42 rfl ?_
        refine z_bipush ee_O_faultIn_44 (v := nI 92) (by decide) ?_
        refine z_icmp_ne ee_O_faultIn_46 (tgt := 54) (by decide) (fun c_46 => ?_) (fun c_46 => ?_)
        -- at 46
        · -- not a backslash
          refine z_iload ee_O_faultIn_54 rfl ?_
          -- at 56
          refine z_callSN (As := [_]) ee_O_faultIn_56 kk_O_faultIn_40 rfl rfl (Nat.le_of_ble_eq_true rfl) (by omega) (sp_P_isDigit hf c) (fun E h1 hx => hx.elim) (fun v h1 hq => ?_)
          obtain ⟨rfl, rfl⟩ := hq
          refine z_if_eq ee_O_faultIn_59 (tgt := 80) (by decide) (fun c_59 => ?_) (fun c_59 => ?_)
          -- at 59
          · rw [zz_tf_0] at c_59
            refine z_iconst ee_O_faultIn_80 (v := nI 0) (by decide) ?_
            refine z_istore_m ee_O_faultIn_81 (j := 1) rfl (by decide) ?_
            -- at 82
            refine z_lvk (back false false ?_) ⟨rfl, rfl, rfl, rfl, trivial⟩
            simp only [zz_flt]
            rw [if_neg c_46, if_neg c_59]
          · rw [zz_tf_n0] at c_59
            refine z_iload_n ee_O_faultIn_62 rfl ?_
            refine z_if_ne ee_O_faultIn_63 (tgt := 73) (by decide) (fun c_63 => ?_) (fun c_63 => ?_)
            -- at 63
            · rw [zz_tf_n0] at c_63
              refine z_iload_n ee_O_faultIn_73 rfl ?_
              refine z_iret ee_O_faultIn_74 rfl (by omega) (by omega) ?_
              -- at 74
              refine ⟨rfl, ?_⟩
              simp only [zz_flt]
              rw [if_neg c_46, if_pos c_59, if_pos (Or.inl c_63)]
            · rw [zz_tf_0] at c_63
              refine z_iload ee_O_faultIn_66 rfl ?_
              refine z_bipush ee_O_faultIn_68 (v := nI 51) (by decide) ?_
              refine z_icmp_ge ee_O_faultIn_70 (tgt := 75) (by decide) (fun c_70 => ?_) (fun c_70 => ?_)
              -- at 70
              · refine z_iconst ee_O_faultIn_75 (v := nI 1) (by decide) ?_
                refine z_istore_m ee_O_faultIn_76 (j := 1) rfl (by decide) ?_
                refine z_goto ee_O_faultIn_77 (tgt := 82) (by decide) ?_
                -- at 82
                refine z_lvk (back true false ?_) ⟨rfl, rfl, rfl, rfl, trivial⟩
                simp only [zz_flt]
                rw [if_neg c_46, if_pos c_59, if_neg (fun q => q.elim c_63 (Int32.not_lt.mpr c_70))]
              · refine z_iload_n ee_O_faultIn_73 rfl ?_
                refine z_iret ee_O_faultIn_74 rfl (by omega) (by omega) ?_
                -- at 74
                refine ⟨rfl, ?_⟩
                simp only [zz_flt]
                rw [if_neg c_46, if_pos c_59, if_pos (Or.inr (Int32.not_le.mp c_70))]
        · refine z_iconst ee_O_faultIn_49 (v := nI 1) (by decide) ?_
          refine z_istore_m ee_O_faultIn_50 (j := 2) rfl (by decide) ?_
          refine z_goto ee_O_faultIn_51 (tgt := 82) (by decide) ?_
          -- at 82
          refine z_lvk (back cnt true ?_) ⟨rfl, rfl, rfl, rfl, trivial⟩
          simp only [zz_flt]
          rw [if_pos c_46]
      · rw [zz_tf_n0] at c_22
        subst c_22
        refine z_iload ee_O_faultIn_25 rfl ?_
        -- at 27
        refine z_callS (As := [_]) ee_O_faultIn_27 kk_O_faultIn_32 rfl rfl (Nat.le_of_ble_eq_true rfl) (by omega) (sp_O_needsEscape hf c) (fun E h1 hx => hx.elim) (fun v h1 hq => ?_)
        obtain ⟨rfl, rfl⟩ := hq
        refine z_if_ne ee_O_faultIn_30 (tgt := 35) (by decide) (fun c_30 => ?_) (fun c_30 => ?_)
        -- at 30
        · rw [zz_tf_n0] at c_30
          refine z_iconst ee_O_faultIn_35 (v := nI 0) (by decide) ?_
          refine z_istore_m ee_O_faultIn_36 (j := 2) rfl (by decide) ?_
          refine z_iconst ee_O_faultIn_37 (v := nI 0) (by decide) ?_
          refine z_istore_m ee_O_faultIn_38 (j := 1) rfl (by decide) ?_
          refine z_goto ee_O_faultIn_39 (tgt := 82) (by decide) ?_
          -- at 82
          refine z_lvk (back false false ?_) ⟨rfl, rfl, rfl, rfl, trivial⟩
          simp only [zz_flt]
          rw [if_pos c_30]
        · rw [zz_tf_0] at c_30
          refine z_iload_n ee_O_faultIn_33 rfl ?_
          refine z_iret ee_O_faultIn_34 rfl (by omega) (by omega) ?_
          -- at 34
          refine ⟨rfl, ?_⟩
          simp only [zz_flt]
          rw [if_neg c_30]
theorem sp_O_faultIn (hf : l.stackTraces = false) (hT : zz_Tx g K R t n) (hx : zz_tx I t n xs) : zz_S g l mm_O_faultIn 0 0 [.ref t] (K, R, I, L, z) (zz_is (K, R, I, L, z) (.int (zz_flt 0 false false xs))) zz_no := by
  refine z_start hf rfl (by decide +kernel) (Nat.le_of_ble_eq_true rfl) ?_
  dsimp only [zz_lv0]
  refine z_iconst ee_O_faultIn_0 (v := nI 0) (by decide) ?_
  refine z_istore_m ee_O_faultIn_1 (j := 1) rfl (by decide) ?_
  refine z_iconst ee_O_faultIn_2 (v := nI 0) (by decide) ?_
  refine z_istore_m ee_O_faultIn_3 (j := 2) rfl (by decide) ?_
  refine z_iconst ee_O_faultIn_4 (v := nI 0) (by decide) ?_
  refine z_istore_m ee_O_faultIn_5 (j := 3) rfl (by decide) ?_
  -- at 6
  exact zz_flt_loop hf hT hx xs 0 false false rfl (Nat.zero_le _)
theorem zz_unf_in (hf : l.stackTraces = false) (hU : zz_Tx g K R u m) (c : Int32) (hc : zz_ch c) (times : Nat) (ht : times < 100) {esc : Int32} {j : Nat} {I0 : Nat → Nat → Int32} {P : Option Value → zz_H → Prop}
    (fin : ∀ I', zz_tx I' u m (zz_repc m c times xs) → zz_fr u (u + 2) I0 I' → Zz g l mm_O_unfold 0 0 P zz_no 0 0 86 [some (.ref t), some (.ref u), some (.int (nI times)), some (.int esc), some (.int (nI j)), some (.int c)] [] (K, R, I', L, z)) :
    ∀ (k i : Nat) (out : List Int32) (I : Nat → Nat → Int32), i + k = times → zz_repc m c k out = zz_repc m c times xs → zz_tx I u m out → zz_fr u (u + 2) I0 I →
    Zz g l mm_O_unfold 0 0 P zz_no 0 0 68 [some (.ref t), some (.ref u), some (.int (nI times)), some (.int esc), some (.int (nI j)), some (.int c), some (.int (nI i))] [] (K, R, I, L, z) := by
  intro k
  have k1 := hU.1
  induction k with
  | zero =>
    intro i out I hi e hx hfr
    refine z_iload ee_O_unfold_68 rfl ?_
    refine z_iload_n ee_O_unfold_70 rfl ?_
    refine z_icmp_ge ee_O_unfold_71 (tgt := 86) (by decide) (fun c_71 => ?_) (fun c_71 => ?_)
    -- at 71
    · refine z_lvk (fin I ?_ hfr) ⟨rfl, rfl, rfl, rfl, rfl, rfl, trivial⟩
      rw [← e]; exact hx
    · simp (disch := omega) only [zi_lt, zi_le, zi_eq, zi_n, zi_0, zi_m1] at c_71
      omega
  | succ k ih =>
    intro i out I hi e hx hfr
    refine z_iload ee_O_unfold_68 rfl ?_
    refine z_iload_n ee_O_unfold_70 rfl ?_
    refine z_icmp_ge ee_O_unfold_71 (tgt := 86) (by decide) (fun c_71 => ?_) (fun c_71 => ?_)
    -- at 71
    · simp (disch := omega) only [zi_lt, zi_le, zi_eq, zi_n, zi_0, zi_m1] at c_71
      omega
    · refine z_aload_n ee_O_unfold_74 rfl ?_
      refine z_iload ee_O_unfold_75 rfl ?_
      -- at 77
      refine z_callV (As := [_]) ee_O_unfold_77 kk_O_unfold_36 rfl (by assumption) rfl rfl (Nat.le_of_ble_eq_true rfl) (by omega) (sp_T_add hf hU hx c hc) (fun E h1 hx => hx.elim) (fun v h1 hq => ?_)
      obtain ⟨I2, rfl, rfl, hx2, hfr2⟩ := hq
      refine z_iinc ee_O_unfold_80 rfl rfl (by decide) ?_
      refine z_goto ee_O_unfold_83 (tgt := 68) (by decide) ?_
      -- at 68
      rw [zz_iinc1]
      exact ih (i + 1) _ I2 (by omega) e hx2 (hfr.trans hfr2)
theorem zz_unf_loop (hf : l.stackTraces = false) (hT : zz_Tx g K R t n) (hU : zz_Tx g K R u m) (hd : t + 2 ≤ u ∨ u + 2 ≤ t) {I0 : Nat → Nat → Int32} (hx0 : zz_tx I0 t n xs) : ∀ (ys : List Int32) (i times : Nat) (esc : Bool) (out : List Int32) (I : Nat → Nat → Int32), xs.drop i = ys → i ≤ xs.length → times < 10 → zz_tx I u m out → zz_fr u (u + 2) I0 I →
    Zz g l mm_O_unfold 0 0 (fun v h' => ∃ I', h' = (K, R, I', L, z) ∧ v = none ∧ zz_tx I' u m (zz_unf m times esc ys out) ∧ zz_fr u (u + 2) I0 I') zz_no 0 0 11 [some (.ref t), some (.ref u), some (.int (nI times)), some (.int (zz_tf (esc = true))), some (.int (nI i))] [] (K, R, I, L, z) := by
  intro ys
  have k1 := hT.1
  have k6 := hT.2.2.2.2.2
  have kl := hx0.2.1
  induction ys with
  | nil =>
    intro i times esc out I hi hil ht hx hfr
    have hx1 := hx0.fr hfr hd
    have h1 := zz_drop_nil hi
    refine z_iload ee_O_unfold_11 rfl ?_
    refine z_aload_n ee_O_unfold_13 rfl ?_
    refine z_getI ee_O_unfold_14 ff_O_unfold_14 (by assumption) il_7_1 ?_
    refine z_icmp_ge ee_O_unfold_17 (tgt := 96) (by decide) (fun c_17 => ?_) (fun c_17 => ?_)
    -- at 17
    · refine z_vret ee_O_unfold_96 rfl (by omega) (by omega) ?_
      -- at 96
      exact ⟨_, rfl, rfl, hx, hfr⟩
    · rw [hx1.1] at c_17
      simp (disch := omega) only [zi_lt, zi_le, zi_eq, zi_n, zi_0, zi_m1] at c_17
      omega
  | cons c ys ih =>
    intro i times esc out I hi hil ht hx hfr
    have hx1 := hx0.fr hfr hd
    obtain ⟨h1, h2, h3⟩ := zz_drop_cons hi
    have back : ∀ (times' : Nat) (esc' : Bool) (out' : List Int32) (I' : Nat → Nat → Int32), times' < 10 → zz_tx I' u m out' → zz_fr u (u + 2) I0 I' → zz_unf m times esc (c :: ys) out = zz_unf m times' esc' ys out' → Zz g l mm_O_unfold 0 0 (fun v h' => ∃ I', h' = (K, R, I', L, z) ∧ v = none ∧ zz_tx I' u m (zz_unf m times esc (c :: ys) out) ∧ zz_fr u (u + 2) I0 I') zz_no 0 0 90 [some (.ref t), some (.ref u), some (.int (nI times')), some (.int (zz_tf (esc' = true))), some (.int (nI i))] [] (K, R, I', L, z) := by
      intro times' esc' out' I' ht' hx' hfr' e
      refine z_iinc ee_O_unfold_90 rfl rfl (by decide) ?_
      refine z_goto ee_O_unfold_93 (tgt := 11) (by decide) ?_
      -- at 11
      rw [zz_iinc1, e]
      exact ih (i + 1) times' esc' out' I' h3 h1 ht' hx' hfr'
    refine z_iload ee_O_unfold_11 rfl ?_
    refine z_aload_n ee_O_unfold_13 rfl ?_
    refine z_getI ee_O_unfold_14 ff_O_unfold_14 (by assumption) il_7_1 ?_
    refine z_icmp_ge ee_O_unfold_17 (tgt := 96) (by decide) (fun c_17 => ?_) (fun c_17 => ?_)
    -- at 17
    · rw [hx1.1] at c_17
      simp (disch := omega) only [zi_lt, zi_le, zi_eq, zi_n, zi_0, zi_m1] at c_17
      omega
    · refine z_aload_n ee_O_unfold_20 rfl ?_
      refine z_iload ee_O_unfold_21 rfl ?_
      -- at 23
      refine z_callV (As := [_]) ee_O_unfold_23 kk_O_unfold_24 rfl (by assumption) rfl rfl (Nat.le_of_ble_eq_true rfl) (by omega) (sp_T_at hf hT hx1 _) (fun E h1 hx => hx.elim) (fun v h1 hq => ?_)
      obtain ⟨rfl, rfl, hc⟩ := hq
      rw [zz_at0_n (by omega), h2] at hc ⊢
      have put : zz_unf m times esc (c :: ys) out = zz_unf m 1 false ys (zz_repc m c times out) → Zz g l mm_O_unfold 0 0 (fun v h' => ∃ I', h' = (K, R, I', L, z) ∧ v = none ∧ zz_tx I' u m (zz_unf m times esc (c :: ys) out) ∧ zz_fr u (u + 2) I0 I') zz_no 0 0 65 [some (.ref t), some (.ref u), some (.int (nI times)), some (.int (zz_tf (esc = true))), some (.int (nI i)), some (.int c)] [] (K, R, I, L, z) := by
        intro e
        refine z_iconst ee_O_unfold_65 (v := nI 0) (by decide) ?_
        refine z_istore ee_O_unfold_66 (by decide) ?_
        -- at 68
        refine zz_unf_in hf hU c hc times (by omega) (xs := out) (I0 := I0) (fun I' hx' hfr' => ?_) times 0 out I (by omega) rfl hx hfr
        refine z_iconst ee_O_unfold_86 (v := nI 1) (by decide) ?_
        refine z_istore_m ee_O_unfold_87 (j := 2) rfl (by decide) ?_
        refine z_iconst ee_O_unfold_88 (v := nI 0) (by decide) ?_
        refine z_istore_m ee_O_unfold_89 (j := 3) rfl (by decide) ?_
        -- at 90
        exact z_lvk (back 1 false _ I' (by omega) hx' hfr' e) ⟨rfl, rfl, rfl, rfl, rfl, trivial⟩
      refine z_istore ee_O_unfold_26 (by decide) ?_
      refine z_iload_n ee_O_unfold_28 rfl ?_
      refine z_if_ne ee_O_unfold_29 (tgt := 44) (by decide) (fun c_29 => ?_) (fun c_29 => ?_)
      -- at 29
      · rw [zz_tf_n0] at c_29
        subst c_29
        refine z_iload_n ee_O_unfold_44 rfl ?_
        refine z_if_ne ee_O_unfold_45 (tgt := 65) (by decide) (fun c_45 => ?_) (fun c_45 => ?_)
        -- at 45
        · exact put rfl
        · exact absurd c_45 (by decide)
      · rw [zz_tf_0] at c_29
        have he : esc = false := by simpa using c_29
        subst he
        refine z_iload ee_O_unfold_32 rfl ?_
        refine z_bipush ee_O_unfold_34 (v := nI 92) (by decide) ?_
        refine z_icmp_ne ee_O_unfold_36 (tgt := 44) (by decide) (fun c_36 => ?_) (fun c_36 => ?_)
        -- at 36
        · refine z_iload_n ee_O_unfold_44 rfl ?_
          refine z_if_ne ee_O_unfold_45 (tgt := 65) (by decide) (fun c_45 => ?_) (fun c_45 => ?_)
          -- at 45
          · exact absurd rfl c_45
          · refine z_iload ee_O_unfold_48 rfl ?_
            -- at 50
            refine z_callSN (As := [_]) ee_O_unfold_50 kk_O_unfold_40 rfl rfl (Nat.le_of_ble_eq_true rfl) (by omega) (sp_P_isDigit hf c) (fun E h1 hx => hx.elim) (fun v h1 hq => ?_)
            obtain ⟨rfl, rfl⟩ := hq
            refine z_if_eq ee_O_unfold_53 (tgt := 65) (by decide) (fun c_53 => ?_) (fun c_53 => ?_)
            -- at 53
            · rw [zz_tf_0] at c_53
              refine put ?_
              simp only [zz_unf]
              rw [if_neg c_36, if_neg c_53]
            · rw [zz_tf_n0] at c_53
              refine z_iload ee_O_unfold_56 rfl ?_
              refine z_bipush ee_O_unfold_58 (v := nI 48) (by decide) ?_
              refine z_isub ee_O_unfold_60 ?_
              refine z_istore_m ee_O_unfold_61 (j := 2) rfl (by decide) ?_
              refine z_goto ee_O_unfold_62 (tgt := 90) (by decide) ?_
              -- at 90
              have hcc := hc.le
              have c_54 : nI 48 ≤ c ∧ c ≤ nI 57 := c_53
              simp (disch := omega) only [zi_lt, zi_le, zi_eq, zi_n, zi_0, zi_m1] at c_54
              have e1 : c - nI 48 = nI (c.toInt - 48).toNat := by
                rw [zi_of hcc.1, pk_sub (by omega), zi_n (by omega)]
                congr 1
                omega
              rw [e1]
              refine z_lvk (back _ false out I (by omega) hx hfr ?_) ⟨rfl, rfl, rfl, rfl, rfl, trivial⟩
              simp only [zz_unf]
              rw [if_neg c_36, if_pos c_53]
        · refine z_iconst ee_O_unfold_39 (v := nI 1) (by decide) ?_
          refine z_istore_m ee_O_unfold_40 (j := 3) rfl (by decide) ?_
          refine z_goto ee_O_unfold_41 (tgt := 90) (by decide) ?_
          -- at 90
          refine z_lvk (back times true out I ht hx hfr ?_) ⟨rfl, rfl, rfl, rfl, rfl, trivial⟩
          simp only [zz_unf]
          rw [if_pos c_36]
theorem sp_O_unfold (hf : l.stackTraces = false) (hT : zz_Tx g K R t n) (hU : zz_Tx g K R u m) (hd : t + 2 ≤ u ∨ u + 2 ≤ t) (hx : zz_tx I t n xs) : zz_S g l mm_O_unfold 0 0 [.ref t, .ref u] (K, R, I, L, z) (fun v h' => ∃ I', h' = (K, R, I', L, z) ∧ v = none ∧ zz_tx I' u m (zz_unf m 1 false xs []) ∧ zz_fr u (u + 2) I I') zz_no := by
  have k1 := hU.1
  refine z_start hf rfl (by decide +kernel) (Nat.le_of_ble_eq_true rfl) ?_
  dsimp only [zz_lv0]
  refine z_aload_n ee_O_unfold_0 rfl ?_
  -- at 1
  refine z_callV (As := []) ee_O_unfold_1 kk_O_unfold_9 rfl (by assumption) rfl rfl (Nat.le_of_ble_eq_true rfl) (by omega) (sp_T_clear hf hU) (fun E h1 hx => hx.elim) (fun v h1 hq => ?_)
  obtain ⟨I2, rfl, rfl, hx2, hfr2⟩ := hq
  refine z_iconst ee_O_unfold_4 (v := nI 1) (by decide) ?_
  refine z_istore_m ee_O_unfold_5 (j := 2) rfl (by decide) ?_
  refine z_iconst ee_O_unfold_6 (v := nI 0) (by decide) ?_
  refine z_istore_m ee_O_unfold_7 (j := 3) rfl (by decide) ?_
  refine z_iconst ee_O_unfold_8 (v := nI 0) (by decide) ?_
  refine z_istore ee_O_unfold_9 (by decide) ?_
  -- at 11
  exact zz_unf_loop hf hT hU hd hx xs 0 1 false [] I2 rfl (Nat.zero_le _) (by omega) hx2 hfr2
end Code2
end
section
/-! TELEGRAM: code, rots (8), pages, number, root, priority, checksum -/
abbrev zz_TG : Type := List Int32 × List Int32 × Nat × Int32 × Int32 × Int32 × Int32
abbrev tg_c (x : zz_TG) : List Int32 := x.1
abbrev tg_r (x : zz_TG) : List Int32 := x.2.1
abbrev tg_p (x : zz_TG) : Nat := x.2.2.1
abbrev tg_n (x : zz_TG) : Int32 := x.2.2.2.1
abbrev tg_o (x : zz_TG) : Int32 := x.2.2.2.2.1
abbrev tg_i (x : zz_TG) : Int32 := x.2.2.2.2.2.1
abbrev tg_k (x : zz_TG) : Int32 := x.2.2.2.2.2.2
/-- the rots of its pages -/
def tg_s (x : zz_TG) : List Int32 := (tg_r x).take (tg_p x)
def zz_Gx (g : zz_G) (K : Nat → Nat × Nat) (R : Nat → Nat → Option Nat) (t : Nat) : Prop := K t = zz_o 6 ∧ R t 0 = some (t + 1) ∧ zz_Tx g K R (t + 1) 96 ∧ R t 1 = some (t + 3) ∧ K (t + 3) = zz_a 0 8 ∧ zz_A g t ∧ zz_A g (t + 3)
def zz_gx (I : Nat → Nat → Int32) (t : Nat) (x : zz_TG) : Prop := zz_tx I (t + 1) 96 (tg_c x) ∧ (tg_r x).length = 8 ∧ (∀ j, j < 8 → I (t + 3) j = (tg_r x).getD j 0) ∧ I t 2 = nI (tg_p x) ∧ tg_p x ≤ 8 ∧ I t 3 = tg_n x ∧ I t 4 = tg_o x ∧ I t 5 = tg_i x ∧ I t 6 = tg_k x
theorem zz_gx.fr {I I' : Nat → Nat → Int32} {t lo hi : Nat} {x : zz_TG} (h : zz_gx I t x) (hf : zz_fr lo hi I I') (hd : t + 4 ≤ lo ∨ hi ≤ t) : zz_gx I' t x := by
  obtain ⟨h1, h2, h3, h4, h5, h6, h7, h8, h9⟩ := h
  have e : I' t = I t := hf _ (by omega)
  exact ⟨h1.fr hf (by omega), h2, fun j hj => by rw [hf _ (by omega)]; exact h3 j hj, by rw [e]; exact h4, h5, by rw [e]; exact h6, by rw [e]; exact h7, by rw [e]; exact h8, by rw [e]; exact h9⟩
theorem tg_s_len {I : Nat → Nat → Int32} {t : Nat} {x : zz_TG} (h : zz_gx I t x) : (tg_s x).length = tg_p x := by
  obtain ⟨h1, h2, h3, h4, h5, -⟩ := h
  unfold tg_s
  rw [List.length_take, h2]
  omega
theorem tg_s_at {I : Nat → Nat → Int32} {t : Nat} {x : zz_TG} (h : zz_gx I t x) {j : Nat} (hj : j < tg_p x) : I (t + 3) j = (tg_s x).getD j 0 := by
  have hl := tg_s_len h
  obtain ⟨h1, h2, h3, h4, h5, -⟩ := h
  rw [h3 j (by omega)]
  unfold tg_s
  exact (zz_getD_take (by unfold tg_s at hl; omega)).symm
/-- how many are rotten -/
def zz_cnt : List Int32 → Nat
  | [] => 0
  | r :: t => (if nI 20 ≤ r then 1 else 0) + zz_cnt t
theorem zz_cnt_le : ∀ l : List Int32, zz_cnt l ≤ l.length
  | [] => Nat.le_refl _
  | r :: t => by
    have := zz_cnt_le t
    simp only [zz_cnt, List.length_cons]
    split <;> omega
/-- the first rotten one -/
def zz_frp : Nat → List Int32 → Int32
  | _, [] => -1
  | i, r :: t => if nI 20 ≤ r then nI i else zz_frp (i + 1) t
def zz_gr : Int32 → List Int32 → Int32
  | m, [] => m
  | m, r :: t => zz_gr (if m < r then r else m) t
def zz_rotj (x : zz_TG) (i : Int32) : Int32 := if 0 ≤ i.toInt ∧ i.toInt < tg_p x then (tg_s x).getD i.toInt.toNat 0 else nI 0
def zz_pgs (n : Nat) : Nat := (n + 11) / 12
def zz_ahp (x y : zz_TG) : Bool := if tg_i x ≠ tg_i y then decide (tg_i y < tg_i x) else if tg_p x ≠ tg_p y then decide (tg_p x < tg_p y) else decide (tg_n x < tg_n y)
def zz_ahr (x y : zz_TG) : Bool := if zz_gr (nI 0) (tg_s x) ≠ zz_gr (nI 0) (tg_s y) then decide (zz_gr (nI 0) (tg_s y) < zz_gr (nI 0) (tg_s x)) else decide (tg_n x < tg_n y)
section Tele
variable {g : zz_G} {l : Launch} {K : Nat → Nat × Nat} {R : Nat → Nat → Option Nat} {I : Nat → Nat → Int32} {L : Nat → Nat → Int64} {z : Nat} {t u : Nat} {x y : zz_TG} {h : zz_H}
theorem sp_G_pagesFor (hf : l.stackTraces = false) (n : Nat) (hn : n < 2 ^ 20) : zz_S g l mm_G_pagesFor 0 0 [.int (nI n)] h (zz_is h (.int (nI (zz_pgs n)))) zz_no := by
  refine z_start hf rfl (by decide +kernel) (Nat.le_of_ble_eq_true rfl) ?_
  dsimp only [zz_lv0]
  refine z_iload_n ee_G_pagesFor_0 rfl ?_
  refine z_bipush ee_G_pagesFor_1 (v := nI 12) (by decide) ?_
  refine z_iadd ee_G_pagesFor_3 ?_
  refine z_iconst ee_G_pagesFor_4 (v := nI 1) (by decide) ?_
  refine z_isub ee_G_pagesFor_5 ?_
  refine z_bipush ee_G_pagesFor_6 (v := nI 12) (by decide) ?_
  -- at 8
  refine z_idiv ee_G_pagesFor_8 (by decide) ?_
  have e : (nI n + nI 12 - nI 1) / nI 12 = nI (zz_pgs n) := by
    rw [nI_add, pk_sub (by omega), pk_div (by omega) (by omega) (by omega)]
    unfold zz_pgs
    congr 1
  rw [e]
  refine z_iret ee_G_pagesFor_9 rfl (by omega) (by omega) ?_
  -- at 9
  exact ⟨rfl, rfl⟩
theorem sp_G_hasPage (hf : l.stackTraces = false) (hG : zz_Gx g K R t) (hx : zz_gx I t x) (i : Int32) : zz_S g l mm_G_hasPage 0 0 [.ref t, .int i] (K, R, I, L, z) (zz_is (K, R, I, L, z) (.int (zz_tf (0 ≤ i.toInt ∧ i.toInt < tg_p x)))) zz_no := by
  obtain ⟨k1, k2, k3, k4, k5, k6, k7⟩ := hG
  obtain ⟨h1, h2, h3, h4, h5, h6, h7, h8, h9⟩ := hx
  refine z_start hf rfl (by decide +kernel) (Nat.le_of_ble_eq_true rfl) ?_
  dsimp only [zz_lv0]
  refine z_iload_n ee_G_hasPage_0 rfl ?_
  refine z_if_lt ee_G_hasPage_1 (tgt := 25) (by decide) (fun c_1 => ?_) (fun c_1 => ?_)
  -- at 1
  · simp (disch := omega) only [zi_lt, zi_le, zi_eq, zi_n, zi_0, zi_m1] at c_1
    refine z_iconst ee_G_hasPage_25 (v := nI 0) (by decide) ?_
    refine z_zret ee_G_hasPage_26 (ty := .boolean) rfl (by decide) (by omega) (by omega) ?_
    -- at 26
    exact ⟨rfl, by rw [zz_tf_f (by omega)]⟩
  · simp (disch := omega) only [zi_lt, zi_le, zi_eq, zi_n, zi_0, zi_m1] at c_1
    refine z_iload_n ee_G_hasPage_4 rfl ?_
    refine z_aload_n ee_G_hasPage_5 rfl ?_
    refine z_getI ee_G_hasPage_6 ff_G_hasPage_24 (by assumption) il_6_2 ?_
    refine z_icmp_ge ee_G_hasPage_9 (tgt := 25) (by decide) (fun c_9 => ?_) (fun c_9 => ?_)
    -- at 9
    · rw [h4] at c_9
      simp (disch := omega) only [zi_lt, zi_le, zi_eq, zi_n, zi_0, zi_m1] at c_9
      refine z_iconst ee_G_hasPage_25 (v := nI 0) (by decide) ?_
      refine z_zret ee_G_hasPage_26 (ty := .boolean) rfl (by decide) (by omega) (by omega) ?_
      -- at 26
      exact ⟨rfl, by rw [zz_tf_f (by omega)]⟩
    · rw [h4] at c_9
      simp (disch := omega) only [zi_lt, zi_le, zi_eq, zi_n, zi_0, zi_m1] at c_9
      refine z_iload_n ee_G_hasPage_12 rfl ?_
      refine z_aload_n ee_G_hasPage_13 rfl ?_
      refine z_getR ee_G_hasPage_14 ff_G_hasPage_20 (by assumption) il_6_1 (by assumption) ?_
      refine z_alen ee_G_hasPage_17 (by assumption) ?_
      refine z_icmp_ge ee_G_hasPage_18 (tgt := 25) (by decide) (fun c_18 => ?_) (fun c_18 => ?_)
      -- at 18
      · simp (disch := omega) only [zi_lt, zi_le, zi_eq, zi_n, zi_0, zi_m1] at c_18
        omega
      · refine z_iconst ee_G_hasPage_21 (v := nI 1) (by decide) ?_
        refine z_goto ee_G_hasPage_22 (tgt := 26) (by decide) ?_
        refine z_zret ee_G_hasPage_26 (ty := .boolean) rfl (by decide) (by omega) (by omega) ?_
        -- at 26
        exact ⟨rfl, by rw [zz_tf_t (by omega)]⟩
theorem sp_G_rotAt (hf : l.stackTraces = false) (hG : zz_Gx g K R t) (hx : zz_gx I t x) (i : Int32) : zz_S g l mm_G_rotAt 0 0 [.ref t, .int i] (K, R, I, L, z) (zz_is (K, R, I, L, z) (.int (zz_rotj x i))) zz_no := by
  have hG' := hG
  obtain ⟨k1, k2, k3, k4, k5, k6, k7⟩ := hG
  have h5 := hx.2.2.2.2.1
  refine z_start hf rfl (by decide +kernel) (Nat.le_of_ble_eq_true rfl) ?_
  dsimp only [zz_lv0]
  refine z_aload_n ee_G_rotAt_0 rfl ?_
  refine z_iload_n ee_G_rotAt_1 rfl ?_
  -- at 2
  refine z_callV (As := [_]) ee_G_rotAt_2 kk_G_rotAt_51 rfl (by assumption) rfl rfl (Nat.le_of_ble_eq_true rfl) (by omega) (sp_G_hasPage hf hG' hx i) (fun E h1 hx => hx.elim) (fun v h1 hq => ?_)
  obtain ⟨rfl, rfl⟩ := hq
  refine z_if_eq ee_G_rotAt_5 (tgt := 17) (by decide) (fun c_5 => ?_) (fun c_5 => ?_)
  -- at 5
  · rw [zz_tf_0] at c_5
    refine z_iconst ee_G_rotAt_17 (v := nI 0) (by decide) ?_
    refine z_iret ee_G_rotAt_18 rfl (by omega) (by omega) ?_
    -- at 18
    exact ⟨rfl, by unfold zz_rotj; rw [if_neg c_5]⟩
  · rw [zz_tf_n0] at c_5
    refine z_aload_n ee_G_rotAt_8 rfl ?_
    refine z_getR ee_G_rotAt_9 ff_G_rotAt_20 (by assumption) il_6_1 (by assumption) ?_
    refine z_iload_n ee_G_rotAt_12 rfl ?_
    -- at 13
    refine z_iald ee_G_rotAt_13 (by assumption) (zi_of c_5.1) (by omega) (by omega) ?_
    refine z_goto ee_G_rotAt_14 (tgt := 18) (by decide) ?_
    refine z_iret ee_G_rotAt_18 rfl (by omega) (by omega) ?_
    -- at 18
    refine ⟨rfl, ?_⟩
    unfold zz_rotj
    rw [if_pos c_5, tg_s_at hx (by omega)]
theorem zz_cnt_loop (hf : l.stackTraces = false) (hG : zz_Gx g K R t) (hx : zz_gx I t x) : ∀ (ys : List Int32) (i s : Nat), (tg_s x).drop i = ys → i ≤ tg_p x → s ≤ i →
    Zz g l mm_G_countRottenPages 0 0 (zz_is (K, R, I, L, z) (.int (nI (s + zz_cnt ys)))) zz_no 0 0 4 [some (.ref t), some (.int (nI s)), some (.int (nI i))] [] (K, R, I, L, z) := by
  intro ys
  obtain ⟨k1, k2, k3, k4, k5, k6, k7⟩ := hG
  have hl := tg_s_len hx
  have h4 := hx.2.2.2.1
  have h5 := hx.2.2.2.2.1
  induction ys with
  | nil =>
    intro i s hi hil hs
    have h1 := zz_drop_nil hi
    refine z_iload_n ee_G_countRottenPages_4 rfl ?_
    refine z_aload_n ee_G_countRottenPages_5 rfl ?_
    refine z_getI ee_G_countRottenPages_6 ff_G_countRottenPages_24 (by assumption) il_6_2 ?_
    refine z_icmp_ge ee_G_countRottenPages_9 (tgt := 46) (by decide) (fun c_9 => ?_) (fun c_9 => ?_)
    -- at 9
    · refine z_iload_n ee_G_countRottenPages_46 rfl ?_
      refine z_iret ee_G_countRottenPages_47 rfl (by omega) (by omega) ?_
      -- at 47
      exact ⟨rfl, rfl⟩
    · rw [h4] at c_9
      simp (disch := omega) only [zi_lt, zi_le, zi_eq, zi_n, zi_0, zi_m1] at c_9
      omega
  | cons r ys ih =>
    intro i s hi hil hs
    obtain ⟨h1, h2, h3⟩ := zz_drop_cons hi
    refine z_iload_n ee_G_countRottenPages_4 rfl ?_
    refine z_aload_n ee_G_countRottenPages_5 rfl ?_
    refine z_getI ee_G_countRottenPages_6 ff_G_countRottenPages_24 (by assumption) il_6_2 ?_
    refine z_icmp_ge ee_G_countRottenPages_9 (tgt := 46) (by decide) (fun c_9 => ?_) (fun c_9 => ?_)
    -- at 9
    · rw [h4] at c_9
      simp (disch := omega) only [zi_lt, zi_le, zi_eq, zi_n, zi_0, zi_m1] at c_9
      omega
    · refine z_iload_n ee_G_countRottenPages_12 rfl ?_
      refine z_aload_n ee_G_countRottenPages_13 rfl ?_
      refine z_getR ee_G_countRottenPages_14 ff_G_countRottenPages_20 (by assumption) il_6_1 (by assumption) ?_
      refine z_alen ee_G_countRottenPages_17 (by assumption) ?_
      refine z_icmp_ge ee_G_countRottenPages_18 (tgt := 46) (by decide) (fun c_18 => ?_) (fun c_18 => ?_)
      -- at 18
      · simp (disch := omega) only [zi_lt, zi_le, zi_eq, zi_n, zi_0, zi_m1] at c_18
        omega
      · refine z_iload_n ee_G_countRottenPages_21 rfl ?_
        refine z_aload_n ee_G_countRottenPages_22 rfl ?_
        refine z_getR ee_G_countRottenPages_23 ff_G_countRottenPages_20 (by assumption) il_6_1 (by assumption) ?_
        refine z_iload_n ee_G_countRottenPages_26 rfl ?_
        -- at 27
        refine z_iald ee_G_countRottenPages_27 (by assumption) rfl (by omega) (by omega) ?_
        rw [tg_s_at hx (by omega), h2]
        refine z_bipush ee_G_countRottenPages_28 (v := nI 20) (by decide) ?_
        refine z_icmp_lt ee_G_countRottenPages_30 (tgt := 37) (by decide) (fun c_30 => ?_) (fun c_30 => ?_)
        -- at 30
        · refine z_iconst ee_G_countRottenPages_37 (v := nI 0) (by decide) ?_
          refine z_iadd ee_G_countRottenPages_38 ?_
          refine z_istore_m ee_G_countRottenPages_39 (j := 1) rfl (by decide) ?_
          refine z_iinc ee_G_countRottenPages_40 rfl rfl (by decide) ?_
          refine z_goto ee_G_countRottenPages_43 (tgt := 4) (by decide) ?_
          -- at 4
          rw [zz_iinc1, nI_add]
          have h9 := ih (i + 1) (s + 0) h3 (by omega) (by omega)
          simp only [zz_cnt]
          rw [if_neg (Int32.not_le.mpr c_30)]
          rw [show s + (0 + zz_cnt ys) = s + 0 + zz_cnt ys by omega]
          exact h9
        · refine z_iconst ee_G_countRottenPages_33 (v := nI 1) (by decide) ?_
          refine z_goto ee_G_countRottenPages_34 (tgt := 38) (by decide) ?_
          refine z_iadd ee_G_countRottenPages_38 ?_
          refine z_istore_m ee_G_countRottenPages_39 (j := 1) rfl (by decide) ?_
          refine z_iinc ee_G_countRottenPages_40 rfl rfl (by decide) ?_
          refine z_goto ee_G_countRottenPages_43 (tgt := 4) (by decide) ?_
          -- at 4
          rw [zz_iinc1, nI_add]
          have h9 := ih (i + 1) (s + 1) h3 (by omega) (by omega)
          simp only [zz_cnt]
          rw [if_pos (Int32.not_lt.mp c_30)]
          rw [show s + (1 + zz_cnt ys) = s + 1 + zz_cnt ys by omega]
          exact h9
theorem sp_G_countRottenPages (hf : l.stackTraces = false) (hG : zz_Gx g K R t) (hx : zz_gx I t x) : zz_S g l mm_G_countRottenPages 0 0 [.ref t] (K, R, I, L, z) (zz_is (K, R, I, L, z) (.int (nI (zz_cnt (tg_s x))))) zz_no := by
  refine z_start hf rfl (by decide +kernel) (Nat.le_of_ble_eq_true rfl) ?_
  dsimp only [zz_lv0]
  refine z_iconst ee_G_countRottenPages_0 (v := nI 0) (by decide) ?_
  refine z_istore_m ee_G_countRottenPages_1 (j := 1) rfl (by decide) ?_
  refine z_iconst ee_G_countRottenPages_2 (v := nI 0) (by decide) ?_
  refine z_istore_m ee_G_countRottenPages_3 (j := 2) rfl (by decide) ?_
  -- at 4
  have h9 := zz_cnt_loop (z := z) (L := L) hf hG hx (tg_s x) 0 0 rfl (Nat.zero_le _) (Nat.zero_le _)
  rw [Nat.zero_add] at h9
  exact h9
theorem zz_frp_loop (hf : l.stackTraces = false) (hG : zz_Gx g K R t) (hx : zz_gx I t x) : ∀ (ys : List Int32) (i : Nat), (tg_s x).drop i = ys → i ≤ tg_p x →
    Zz g l mm_G_findRottenPage 0 0 (zz_is (K, R, I, L, z) (.int (zz_frp i ys))) zz_no 0 0 2 [some (.ref t), some (.int (nI i))] [] (K, R, I, L, z) := by
  intro ys
  obtain ⟨k1, k2, k3, k4, k5, k6, k7⟩ := hG
  have hl := tg_s_len hx
  have h4 := hx.2.2.2.1
  have h5 := hx.2.2.2.2.1
  induction ys with
  | nil =>
    intro i hi hil
    have h1 := zz_drop_nil hi
    refine z_iload_n ee_G_findRottenPage_2 rfl ?_
    refine z_aload_n ee_G_findRottenPage_3 rfl ?_
    refine z_getI ee_G_findRottenPage_4 ff_G_findRottenPage_24 (by assumption) il_6_2 ?_
    refine z_icmp_ge ee_G_findRottenPage_7 (tgt := 38) (by decide) (fun c_7 => ?_) (fun c_7 => ?_)
    -- at 7
    · refine z_iconst ee_G_findRottenPage_38 (v := -1) (by decide) ?_
      refine z_iret ee_G_findRottenPage_39 rfl (by omega) (by omega) ?_
      -- at 39
      exact ⟨rfl, rfl⟩
    · rw [h4] at c_7
      simp (disch := omega) only [zi_lt, zi_le, zi_eq, zi_n, zi_0, zi_m1] at c_7
      omega
  | cons r ys ih =>
    intro i hi hil
    obtain ⟨h1, h2, h3⟩ := zz_drop_cons hi
    refine z_iload_n ee_G_findRottenPage_2 rfl ?_
    refine z_aload_n ee_G_findRottenPage_3 rfl ?_
    refine z_getI ee_G_findRottenPage_4 ff_G_findRottenPage_24 (by assumption) il_6_2 ?_
    refine z_icmp_ge ee_G_findRottenPage_7 (tgt := 38) (by decide) (fun c_7 => ?_) (fun c_7 => ?_)
    -- at 7
    · rw [h4] at c_7
      simp (disch := omega) only [zi_lt, zi_le, zi_eq, zi_n, zi_0, zi_m1] at c_7
      omega
    · refine z_iload_n ee_G_findRottenPage_10 rfl ?_
      refine z_aload_n ee_G_findRottenPage_11 rfl ?_
      refine z_getR ee_G_findRottenPage_12 ff_G_findRottenPage_20 (by assumption) il_6_1 (by assumption) ?_
      refine z_alen ee_G_findRottenPage_15 (by assumption) ?_
      refine z_icmp_ge ee_G_findRottenPage_16 (tgt := 38) (by decide) (fun c_16 => ?_) (fun c_16 => ?_)
      -- at 16
      · simp (disch := omega) only [zi_lt, zi_le, zi_eq, zi_n, zi_0, zi_m1] at c_16
        omega
      · refine z_aload_n ee_G_findRottenPage_19 rfl ?_
        refine z_getR ee_G_findRottenPage_20 ff_G_findRottenPage_20 (by assumption) il_6_1 (by assumption) ?_
        refine z_iload_n ee_G_findRottenPage_23 rfl ?_
        -- at 24
        refine z_iald ee_G_findRottenPage_24 (by assumption) rfl (by omega) (by omega) ?_
        rw [tg_s_at hx (by omega), h2]
        refine z_bipush ee_G_findRottenPage_25 (v := nI 20) (by decide) ?_
        refine z_icmp_lt ee_G_findRottenPage_27 (tgt := 32) (by decide) (fun c_27 => ?_) (fun c_27 => ?_)
        -- at 27
        · refine z_iinc ee_G_findRottenPage_32 rfl rfl (by decide) ?_
          refine z_goto ee_G_findRottenPage_35 (tgt := 2) (by decide) ?_
          -- at 2
          rw [zz_iinc1]
          have h9 := ih (i + 1) h3 (by omega)
          simp only [zz_frp]
          rw [if_neg (Int32.not_le.mpr c_27)]
          exact h9
        · refine z_iload_n ee_G_findRottenPage_30 rfl ?_
          refine z_iret ee_G_findRottenPage_31 rfl (by omega) (by omega) ?_
          -- at 31
          refine ⟨rfl, ?_⟩
          simp only [zz_frp]
          rw [if_pos (Int32.not_lt.mp c_27)]
theorem sp_G_findRottenPage (hf : l.stackTraces = false) (hG : zz_Gx g K R t) (hx : zz_gx I t x) : zz_S g l mm_G_findRottenPage 0 0 [.ref t] (K, R, I, L, z) (zz_is (K, R, I, L, z) (.int (zz_frp 0 (tg_s x)))) zz_no := by
  refine z_start hf rfl (by decide +kernel) (Nat.le_of_ble_eq_true rfl) ?_
  dsimp only [zz_lv0]
  refine z_iconst ee_G_findRottenPage_0 (v := nI 0) (by decide) ?_
  refine z_istore_m ee_G_findRottenPage_1 (j := 1) rfl (by decide) ?_
  -- at 2
  exact zz_frp_loop hf hG hx (tg_s x) 0 rfl (Nat.zero_le _)
theorem zz_gr_loop (hf : l.stackTraces = false) (hG : zz_Gx g K R t) (hx : zz_gx I t x) : ∀ (ys : List Int32) (i : Nat) (m : Int32), (tg_s x).drop i = ys → i ≤ tg_p x →
    Zz g l mm_G_greatestRot 0 0 (zz_is (K, R, I, L, z) (.int (zz_gr m ys))) zz_no 0 0 4 [some (.ref t), some (.int m), some (.int (nI i))] [] (K, R, I, L, z) := by
  intro ys
  obtain ⟨k1, k2, k3, k4, k5, k6, k7⟩ := hG
  have hl := tg_s_len hx
  have h4 := hx.2.2.2.1
  have h5 := hx.2.2.2.2.1
  induction ys with
  | nil =>
    intro i m hi hil
    have h1 := zz_drop_nil hi
    refine z_iload_n ee_G_greatestRot_4 rfl ?_
    refine z_aload_n ee_G_greatestRot_5 rfl ?_
    refine z_getI ee_G_greatestRot_6 ff_G_greatestRot_24 (by assumption) il_6_2 ?_
    refine z_icmp_ge ee_G_greatestRot_9 (tgt := 38) (by decide) (fun c_9 => ?_) (fun c_9 => ?_)
    -- at 9
    · refine z_iload_n ee_G_greatestRot_38 rfl ?_
      refine z_iret ee_G_greatestRot_39 rfl (by omega) (by omega) ?_
      -- at 39
      exact ⟨rfl, rfl⟩
    · rw [h4] at c_9
      simp (disch := omega) only [zi_lt, zi_le, zi_eq, zi_n, zi_0, zi_m1] at c_9
      omega
  | cons r ys ih =>
    intro i m hi hil
    obtain ⟨h1, h2, h3⟩ := zz_drop_cons hi
    refine z_iload_n ee_G_greatestRot_4 rfl ?_
    refine z_aload_n ee_G_greatestRot_5 rfl ?_
    refine z_getI ee_G_greatestRot_6 ff_G_greatestRot_24 (by assumption) il_6_2 ?_
    refine z_icmp_ge ee_G_greatestRot_9 (tgt := 38) (by decide) (fun c_9 => ?_) (fun c_9 => ?_)
    -- at 9
    · rw [h4] at c_9
      simp (disch := omega) only [zi_lt, zi_le, zi_eq, zi_n, zi_0, zi_m1] at c_9
      omega
    · refine z_iload_n ee_G_greatestRot_12 rfl ?_
      refine z_aload_n ee_G_greatestRot_13 rfl ?_
      refine z_getR ee_G_greatestRot_14 ff_G_greatestRot_20 (by assumption) il_6_1 (by assumption) ?_
      refine z_alen ee_G_greatestRot_17 (by assumption) ?_
      refine z_icmp_ge ee_G_greatestRot_18 (tgt := 38) (by decide) (fun c_18 => ?_) (fun c_18 => ?_)
      -- at 18
      · simp (disch := omega) only [zi_lt, zi_le, zi_eq, zi_n, zi_0, zi_m1] at c_18
        omega
      · refine z_iload_n ee_G_greatestRot_21 rfl ?_
        refine z_aload_n ee_G_greatestRot_22 rfl ?_
        refine z_getR ee_G_greatestRot_23 ff_G_greatestRot_20 (by assumption) il_6_1 (by assumption) ?_
        refine z_iload_n ee_G_greatestRot_26 rfl ?_
        -- at 27
        refine z_iald ee_G_greatestRot_27 (by assumption) rfl (by omega) (by omega) ?_
        rw [tg_s_at hx (by omega), h2]
        refine z_callS (As := [_, _]) ee_G_greatestRot_28 kk_G_greatestRot_65 rfl rfl (Nat.le_of_ble_eq_true rfl) (by omega) (sp_JM_max hf _ _) (fun E h1 hx => hx.elim) (fun v h1 hq => ?_)
        obtain ⟨rfl, rfl⟩ := hq
        refine z_istore_m ee_G_greatestRot_31 (j := 1) rfl (by decide) ?_
        refine z_iinc ee_G_greatestRot_32 rfl rfl (by decide) ?_
        refine z_goto ee_G_greatestRot_35 (tgt := 4) (by decide) ?_
        -- at 4
        rw [zz_iinc1]
        exact ih (i + 1) _ h3 (by omega)
theorem sp_G_greatestRot (hf : l.stackTraces = false) (hG : zz_Gx g K R t) (hx : zz_gx I t x) : zz_S g l mm_G_greatestRot 0 0 [.ref t] (K, R, I, L, z) (zz_is (K, R, I, L, z) (.int (zz_gr (nI 0) (tg_s x)))) zz_no := by
  refine z_start hf rfl (by decide +kernel) (Nat.le_of_ble_eq_true rfl) ?_
  dsimp only [zz_lv0]
  refine z_iconst ee_G_greatestRot_0 (v := nI 0) (by decide) ?_
  refine z_istore_m ee_G_greatestRot_1 (j := 1) rfl (by decide) ?_
  refine z_iconst ee_G_greatestRot_2 (v := nI 0) (by decide) ?_
  refine z_istore_m ee_G_greatestRot_3 (j := 2) rfl (by decide) ?_
  -- at 4
  exact zz_gr_loop hf hG hx (tg_s x) 0 (nI 0) rfl (Nat.zero_le _)
theorem sp_G_isAheadByPriority (hf : l.stackTraces = false) (hG : zz_Gx g K R t) (hx : zz_gx I t x) (hU : zz_Gx g K R u) (hy : zz_gx I u y) : zz_S g l mm_G_isAheadByPriority 0 0 [.ref t, .ref u] (K, R, I, L, z) (zz_is (K, R, I, L, z) (.int (zz_tf (zz_ahp x y = true)))) zz_no := by
  obtain ⟨k1, -⟩ := hG
  obtain ⟨u1, -⟩ := hU
  obtain ⟨-, -, -, h4, h5, h6, h7, h8, h9⟩ := hx
  obtain ⟨-, -, -, y4, y5, y6, y7, y8, y9⟩ := hy
  unfold zz_ahp
  refine z_start hf rfl (by decide +kernel) (Nat.le_of_ble_eq_true rfl) ?_
  dsimp only [zz_lv0]
  refine z_aload_n ee_G_isAheadByPriority_0 rfl ?_
  refine z_getI ee_G_isAheadByPriority_1 ff_G_isAheadByPriority_34 (by assumption) il_6_5 ?_
  refine z_aload_n ee_G_isAheadByPriority_4 rfl ?_
  refine z_getI ee_G_isAheadByPriority_5 ff_G_isAheadByPriority_34 (by assumption) il_6_5 ?_
  refine z_icmp_eq ee_G_isAheadByPriority_8 (tgt := 28) (by decide) (fun c_8 => ?_) (fun c_8 => ?_)
  -- at 8
  · rw [h8, y8] at c_8
    rw [if_neg (fun q => q c_8)]
    refine z_aload_n ee_G_isAheadByPriority_28 rfl ?_
    refine z_getI ee_G_isAheadByPriority_29 ff_G_isAheadByPriority_24 (by assumption) il_6_2 ?_
    refine z_aload_n ee_G_isAheadByPriority_32 rfl ?_
    refine z_getI ee_G_isAheadByPriority_33 ff_G_isAheadByPriority_24 (by assumption) il_6_2 ?_
    refine z_icmp_eq ee_G_isAheadByPriority_36 (tgt := 56) (by decide) (fun c_36 => ?_) (fun c_36 => ?_)
    -- at 36
    · rw [h4, y4] at c_36
      have e := (nI_eq (by omega) (by omega)).mp c_36
      rw [if_neg (fun q => q e)]
      refine z_aload_n ee_G_isAheadByPriority_56 rfl ?_
      refine z_getI ee_G_isAheadByPriority_57 ff_G_isAheadByPriority_28 (by assumption) il_6_3 ?_
      refine z_aload_n ee_G_isAheadByPriority_60 rfl ?_
      refine z_getI ee_G_isAheadByPriority_61 ff_G_isAheadByPriority_28 (by assumption) il_6_3 ?_
      refine z_icmp_ge ee_G_isAheadByPriority_64 (tgt := 71) (by decide) (fun c_64 => ?_) (fun c_64 => ?_)
      -- at 64
      · rw [h6, y6] at c_64
        refine z_iconst ee_G_isAheadByPriority_71 (v := nI 0) (by decide) ?_
        refine z_zret ee_G_isAheadByPriority_72 (ty := .boolean) rfl (by decide) (by omega) (by omega) ?_
        -- at 72
        exact ⟨rfl, by rw [zz_tf_f (by simp [Int32.not_lt.mpr c_64])]⟩
      · rw [h6, y6] at c_64
        refine z_iconst ee_G_isAheadByPriority_67 (v := nI 1) (by decide) ?_
        refine z_goto ee_G_isAheadByPriority_68 (tgt := 72) (by decide) ?_
        refine z_zret ee_G_isAheadByPriority_72 (ty := .boolean) rfl (by decide) (by omega) (by omega) ?_
        -- at 72
        exact ⟨rfl, by rw [zz_tf_t (by simp [Int32.not_le.mp c_64])]⟩
    · rw [h4, y4] at c_36
      rw [if_pos (fun q => c_36 (by rw [q]))]
      refine z_aload_n ee_G_isAheadByPriority_39 rfl ?_
      refine z_getI ee_G_isAheadByPriority_40 ff_G_isAheadByPriority_24 (by assumption) il_6_2 ?_
      refine z_aload_n ee_G_isAheadByPriority_43 rfl ?_
      refine z_getI ee_G_isAheadByPriority_44 ff_G_isAheadByPriority_24 (by assumption) il_6_2 ?_
      refine z_icmp_ge ee_G_isAheadByPriority_47 (tgt := 54) (by decide) (fun c_47 => ?_) (fun c_47 => ?_)
      -- at 47
      · rw [h4, y4] at c_47
        simp (disch := omega) only [zi_lt, zi_le, zi_eq, zi_n, zi_0, zi_m1] at c_47
        refine z_iconst ee_G_isAheadByPriority_54 (v := nI 0) (by decide) ?_
        refine z_zret ee_G_isAheadByPriority_55 (ty := .boolean) rfl (by decide) (by omega) (by omega) ?_
        -- at 55
        exact ⟨rfl, by rw [zz_tf_f (by simp; omega)]⟩
      · rw [h4, y4] at c_47
        simp (disch := omega) only [zi_lt, zi_le, zi_eq, zi_n, zi_0, zi_m1] at c_47
        refine z_iconst ee_G_isAheadByPriority_50 (v := nI 1) (by decide) ?_
        refine z_goto ee_G_isAheadByPriority_51 (tgt := 55) (by decide) ?_
        refine z_zret ee_G_isAheadByPriority_55 (ty := .boolean) rfl (by decide) (by omega) (by omega) ?_
        -- at 55
        exact ⟨rfl, by rw [zz_tf_t (by simp; omega)]⟩
  · rw [h8, y8] at c_8
    rw [if_pos c_8]
    refine z_aload_n ee_G_isAheadByPriority_11 rfl ?_
    refine z_getI ee_G_isAheadByPriority_12 ff_G_isAheadByPriority_34 (by assumption) il_6_5 ?_
    refine z_aload_n ee_G_isAheadByPriority_15 rfl ?_
    refine z_getI ee_G_isAheadByPriority_16 ff_G_isAheadByPriority_34 (by assumption) il_6_5 ?_
    refine z_icmp_le ee_G_isAheadByPriority_19 (tgt := 26) (by decide) (fun c_19 => ?_) (fun c_19 => ?_)
    -- at 19
    · rw [h8, y8] at c_19
      refine z_iconst ee_G_isAheadByPriority_26 (v := nI 0) (by decide) ?_
      refine z_zret ee_G_isAheadByPriority_27 (ty := .boolean) rfl (by decide) (by omega) (by omega) ?_
      -- at 27
      exact ⟨rfl, by rw [zz_tf_f (by simp [Int32.not_lt.mpr c_19])]⟩
    · rw [h8, y8] at c_19
      refine z_iconst ee_G_isAheadByPriority_22 (v := nI 1) (by decide) ?_
      refine z_goto ee_G_isAheadByPriority_23 (tgt := 27) (by decide) ?_
      refine z_zret ee_G_isAheadByPriority_27 (ty := .boolean) rfl (by decide) (by omega) (by omega) ?_
      -- at 27
      exact ⟨rfl, by rw [zz_tf_t (by simp [Int32.not_le.mp c_19])]⟩
theorem sp_G_isAheadByRot (hf : l.stackTraces = false) (hG : zz_Gx g K R t) (hx : zz_gx I t x) (hU : zz_Gx g K R u) (hy : zz_gx I u y) : zz_S g l mm_G_isAheadByRot 0 0 [.ref t, .ref u] (K, R, I, L, z) (zz_is (K, R, I, L, z) (.int (zz_tf (zz_ahr x y = true)))) zz_no := by
  have k1 := hG.1
  have u1 := hU.1
  have h6 := hx.2.2.2.2.2.1
  have y6 := hy.2.2.2.2.2.1
  unfold zz_ahr
  refine z_start hf rfl (by decide +kernel) (Nat.le_of_ble_eq_true rfl) ?_
  dsimp only [zz_lv0]
  refine z_aload_n ee_G_isAheadByRot_0 rfl ?_
  -- at 1
  refine z_callV (As := []) ee_G_isAheadByRot_1 kk_G_isAheadByRot_68 rfl (by assumption) rfl rfl (Nat.le_of_ble_eq_true rfl) (by omega) (sp_G_greatestRot hf hG hx) (fun E h1 hx => hx.elim) (fun v h1 hq => ?_)
  obtain ⟨rfl, rfl⟩ := hq
  refine z_aload_n ee_G_isAheadByRot_4 rfl ?_
  -- at 5
  refine z_callV (As := []) ee_G_isAheadByRot_5 kk_G_isAheadByRot_68 rfl (by assumption) rfl rfl (Nat.le_of_ble_eq_true rfl) (by omega) (sp_G_greatestRot hf hU hy) (fun E h1 hx => hx.elim) (fun v h1 hq => ?_)
  obtain ⟨rfl, rfl⟩ := hq
  refine z_icmp_eq ee_G_isAheadByRot_8 (tgt := 28) (by decide) (fun c_8 => ?_) (fun c_8 => ?_)
  -- at 8
  · rw [if_neg (fun q => q c_8)]
    refine z_aload_n ee_G_isAheadByRot_28 rfl ?_
    refine z_getI ee_G_isAheadByRot_29 ff_G_isAheadByRot_28 (by assumption) il_6_3 ?_
    refine z_aload_n ee_G_isAheadByRot_32 rfl ?_
    refine z_getI ee_G_isAheadByRot_33 ff_G_isAheadByRot_28 (by assumption) il_6_3 ?_
    refine z_icmp_ge ee_G_isAheadByRot_36 (tgt := 43) (by decide) (fun c_36 => ?_) (fun c_36 => ?_)
    -- at 36
    · rw [h6, y6] at c_36
      refine z_iconst ee_G_isAheadByRot_43 (v := nI 0) (by decide) ?_
      refine z_zret ee_G_isAheadByRot_44 (ty := .boolean) rfl (by decide) (by omega) (by omega) ?_
      -- at 44
      exact ⟨rfl, by rw [zz_tf_f (by simp [Int32.not_lt.mpr c_36])]⟩
    · rw [h6, y6] at c_36
      refine z_iconst ee_G_isAheadByRot_39 (v := nI 1) (by decide) ?_
      refine z_goto ee_G_isAheadByRot_40 (tgt := 44) (by decide) ?_
      refine z_zret ee_G_isAheadByRot_44 (ty := .boolean) rfl (by decide) (by omega) (by omega) ?_
      -- at 44
      exact ⟨rfl, by rw [zz_tf_t (by simp [Int32.not_le.mp c_36])]⟩
  · rw [if_pos c_8]
    refine z_aload_n ee_G_isAheadByRot_11 rfl ?_
    -- at 12
    refine z_callV (As := []) ee_G_isAheadByRot_12 kk_G_isAheadByRot_68 rfl (by assumption) rfl rfl (Nat.le_of_ble_eq_true rfl) (by omega) (sp_G_greatestRot hf hG hx) (fun E h1 hx => hx.elim) (fun v h1 hq => ?_)
    obtain ⟨rfl, rfl⟩ := hq
    refine z_aload_n ee_G_isAheadByRot_15 rfl ?_
    -- at 16
    refine z_callV (As := []) ee_G_isAheadByRot_16 kk_G_isAheadByRot_68 rfl (by assumption) rfl rfl (Nat.le_of_ble_eq_true rfl) (by omega) (sp_G_greatestRot hf hU hy) (fun E h1 hx => hx.elim) (fun v h1 hq => ?_)
    obtain ⟨rfl, rfl⟩ := hq
    refine z_icmp_le ee_G_isAheadByRot_19 (tgt := 26) (by decide) (fun c_19 => ?_) (fun c_19 => ?_)
    -- at 19
    · refine z_iconst ee_G_isAheadByRot_26 (v := nI 0) (by decide) ?_
      refine z_zret ee_G_isAheadByRot_27 (ty := .boolean) rfl (by decide) (by omega) (by omega) ?_
      -- at 27
      exact ⟨rfl, by rw [zz_tf_f (by simp [Int32.not_lt.mpr c_19])]⟩
    · refine z_iconst ee_G_isAheadByRot_22 (v := nI 1) (by decide) ?_
      refine z_goto ee_G_isAheadByRot_23 (tgt := 27) (by decide) ?_
      refine z_zret ee_G_isAheadByRot_27 (ty := .boolean) rfl (by decide) (by omega) (by omega) ?_
      -- at 27
      exact ⟨rfl, by rw [zz_tf_t (by simp [Int32.not_le.mp c_19])]⟩
end Tele
end
