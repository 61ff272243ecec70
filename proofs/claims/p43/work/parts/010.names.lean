/-! ===== BEGIN words of one list among another's, by their places ===== -/
theorem goodIn_r {big : List Cond} (ws : List Cond) (ps : List Nat) (hp : ws = ps.filterMap (fun i => big[i]?)) (h : ws.all goodWord = true) : GoodIn big ws := by
  intro w hw
  have h1 := List.all_eq_true.mp h w hw
  rw [hp] at hw
  obtain ⟨i, -, hi⟩ := List.mem_filterMap.mp hw
  have hm : w ∈ big := by first | exact List.mem_of_getElem? hi | exact List.getElem?_mem hi
  exact ⟨hm, good_of_word h1⟩
theorem goodIn_app {big a b : List Cond} (ha : GoodIn big a) (hb : GoodIn big b) : GoodIn big (a ++ b) := fun w h => (List.mem_append.mp h).elim (ha w) (hb w)
theorem goodIn_ca {big a b : List Cond} {c : Cond} (ha : GoodIn big (c :: a)) (hb : GoodIn big b) : GoodIn big (c :: (a ++ b)) := fun w h => (List.mem_cons.mp h).elim (fun e => ha w (List.mem_cons.mpr (Or.inl e))) (fun h => (List.mem_append.mp h).elim (fun h => ha w (List.mem_cons.mpr (Or.inr h))) (hb w))
theorem goodIn_sub {big ws : List Cond} (hm : ∀ w ∈ ws, w ∈ big) (h : ws.all goodWord = true) : GoodIn big ws := fun w hw => ⟨hm w hw, good_of_word (List.all_eq_true.mp h w hw)⟩
/-! ===== END ===== -/

/-! ===== BEGIN exceptions that leave a method, and their catching by the caller (launches without stack traces) ===== -/
section VXA
/-! The laws vx_back, vx_callV, vx_callS, vx_callSW, vx_throw0, vx_throwS follow proofs of the library, with one case more: JvmDerived/Free/Laws.lean (Back.of_free), Shelf42/LK1.lean (callV, callS), Shelf/KitTraced.lean (throwNew0V, throwNewS). -/
/-- where a method has thrown q: the class by its name, the cell, what was written, the world -/
def vx_T (XC : String → State → State → Prop) (st : State) (q : Addr) (t : State) (mc ms : Nat) (free : Addr → Prop) : Prop :=
  ∃ (E : String) (ce : Cell) (L : List Loc), XC E st t ∧ t.heap[q]? = some ce ∧ ce.vm = .none ∧ st.vm.findClass E = some ce.cls ∧ st.WarmedH t.vm ∧ st.sameButNew ({ t with vm := st.vm } : State) L mc ms ∧ ∀ z ∈ L, free z.base
def vx_Q (Qc : Array Value → State → Outcome → State → Prop) (XC : String → State → State → Prop) (mc ms : Nat) (free : Addr → Prop) : Array Value → State → Outcome → State → Prop := fun a st o t =>
  (Qc a st o t ∧ ∃ L, FrameEnd st o t L mc ms ∧ ∀ q ∈ L, free q.base) ∨ ∃ q, o = .threw q ∧ vx_T XC st q t mc ms free
/-- a callee that returns or throws -/
def vx_Met (l : Launch) (y : MethodName) (ws : List Cond) (rm : Room) (Pc : Array Value → State → Prop) (Qc : Array Value → State → Outcome → State → Prop) (XC : String → State → State → Prop) (mc ms : Nat) (free : Addr → Prop) : Prop :=
  MetFree l y (headSpec ws rm) Pc (fun _ _ _ _ _ => True) (vx_Q Qc XC mc ms free)
def vx_Post (XC : String → State → State → Prop) (mc ms : Nat) (free : Addr → Prop) : Pt → Array Value → Addr → Pt → Prop := fun A a q B =>
  ∃ (g : JFrame) (mk : MethodId) (t : State) (L : List Loc) (E : String) (ce : Cell), B.U.heap = t.heap ∧ B.U.vm = t.vm ∧ XC E (A.U.calling g mk a) t ∧ t.heap[q]? = some ce ∧ ce.vm = .none ∧ A.U.vm.findClass E = some ce.cls ∧ B.locs = A.locs ++ L ∧ (∀ z ∈ L, free z.base) ∧ B.cells = A.cells + mc ∧ B.slots = A.slots + ms
def vx_Back (l : Launch) (R : Room) (p : Program) (e : Env) (below : List Frame) (s : State) (sargs : Array Value) (y : MethodName) (len W9 : Nat)
    (Pre : Pt → Array Value → Prop) (Post : Pt → Array Value → Option Value → Pt → Prop) (PostX : Pt → Array Value → Addr → Pt → Prop) : Prop :=
  ∀ (m : MethodId) (meth : Method) (c : Code) (A : Pt) (g : JFrame) (ig : Instr) (mk : MethodId) (a : Array Value),
    Stand p l e R s m sargs below meth c A.U A.locs A.cells A.slots → g.method = m → g.locals.size = c.maxLocals → decode c.code g.pc = .ok (ig, len) →
    2 * g.monitorRoom + (g.stack.map fun v => v.category).sum ≤ W9 → A.U.methodNamed? y = some mk → Pre A a →
    (∃ (v : Option Value) (B : Pt), Stand p l e R s m sargs below meth c B.U B.locs B.cells B.slots ∧ Post A a v B ∧
      Steps p.tables e below (doInvoke e (A.U.setTop g) [] mk a).1 (B.U.setTop { g with pc := g.pc + len, stack := v.toList ++ g.stack })) ∨
    (∃ (q : Addr) (B : Pt), Stand p l e R s m sargs below meth c B.U B.locs B.cells B.slots ∧ PostX A a q B ∧
      Steps p.tables e below (doInvoke e (A.U.setTop g) [] mk a).1 ((B.U.setTop g).pushFrame (.throwing q)))
section Payer
variable {l : Launch} {R : Room} {p : Program} {e : Env} {below : List Frame} {s : State} {sargs : Array Value} {y : MethodName} {len W9 : Nat}
theorem vx_back {ws : List Cond} {rm : Room} {Pc : Array Value → State → Prop} {Qc : Array Value → State → Outcome → State → Prop} {XC : String → State → State → Prop} {mc ms : Nat} {free : Addr → Prop} {bytes : ByteArray} {maxL : Nat} {ret : Option FieldType}
    (hM : vx_Met l y ws rm Pc Qc XC mc ms free) (hblind : FrameBlind Pc) (hrc : rm.cells = mc) (hrs : rm.slots = ms)
    (hframes : rm.frames + 1 ≤ R.frames) (hlocals : W9 + (maxL + 11) + rm.locals ≤ R.locals)
    (hws : ∀ w ∈ ws, ∀ a' U, s.WarmedH U.vm → w.before a' U = true) (hcode : Cond.code y bytes maxL ret ∈ ws) (hinit : ∀ a' U, s.WarmedH U.vm → (Cond.initialized y.cls).before a' U = true) :
    vx_Back l R p e below s sargs y len W9 (PreOf R mc ms Pc) (PostOf Qc mc ms free) (vx_Post XC mc ms free) := by
  intro m meth c A g ig mk a X hg hsize hdg hW hn hp
  have h1 : (headSpec ws rm).pre.before a A.U = true := atoms_intro fun w hw => hws w hw _ _ X.warmed
  have h2 : (Cond.code y bytes maxL ret).before a A.U = true := hws _ hcode _ _ X.warmed
  have h3 : (Cond.initialized y.cls).before a A.U = true := hinit _ _ X.warmed
  have h4 : A.cells + (headSpec ws rm).room.cells ≤ R.cells := by rw [show (headSpec ws rm).room.cells = mc from hrc]; exact hp.1
  have h5 : A.slots + (headSpec ws rm).room.slots ≤ R.slots := by rw [show (headSpec ws rm).room.slots = ms from hrs]; exact hp.2.1
  have hPc : Pc a (A.U.calling g mk a) := hblind _ _ _ _ hp.2.2
  obtain ⟨U, Ls, c0, s0⟩ := A
  dsimp only [Pt.U, Pt.locs, Pt.cells, Pt.slots] at h1 h2 h3 h4 h5 X hn hPc ⊢
  obtain ⟨methY, cY, hmY, hcY, -, hlY, -, -, -, -⟩ := Cond.code_spec hn h2
  obtain ⟨kY, hkY, -⟩ := className_of_methodNamed hn
  have hinitY : kY.init = .initialized := Cond.initialized_spec (findClass_of_methodNamed hn) hkY h3
  have h : At U g.method c below := by rw [hg]; exact X.here
  have hlocals9 : W9 + (maxL + 11) + (headSpec ws rm).room.locals ≤ R.locals := hlocals
  have happ : (headSpec ws rm).appliesLoose y e.platform (U.calling g mk a) = true :=
    Spec.appliesLoose_calling (g := g) h hdg hn hkY hinitY
      (X.room_calling (g := g) (R' := (headSpec ws rm).room) hsize hmY hcY hframes (by rw [hlY]; omega) h4 h5) h1
  obtain ⟨mid, hmid⟩ := h.above
  have hfr : (U.setTop g).frames = (.java g :: mid) ++ below := by rw [State.frames_setTop' g h.top, hmid]; rfl
  obtain ⟨o, s₂, hsteps, -, hend, hq⟩ := Steps.callFree hM p X.admits X.cas X.clock (acts := []) hfr happ hPc trivial
  have hq' : vx_Q Qc XC mc ms free a (U.calling g mk a) o s₂ := hq
  rw [State.frames_setTop' g h.top] at hend
  obtain ⟨g₀, hg0⟩ := Option.isSome_iff_exists.mp h.top
  obtain ⟨r, hr⟩ := State.topJava?_eq_some.mp hg0
  have hr' : (({ U with heap := s₂.heap, slotsUsed := s₂.slotsUsed } : State).setVm s₂.vm).frames = .java g₀ :: r := hr
  rcases hq' with ⟨hqc, L, hfe, hL⟩ | ⟨q, rfl, E, ce, L, hx, hce, hcv, hcl, hW₂, hsm, hL⟩
  · obtain ⟨⟨v, rfl⟩, hW₂, e2, q2, q3, q4, q5, q6⟩ := id hfe
    have e3 : s₂ = ({ (U.calling g mk a).setFrames s₂.frames with heap := s₂.heap, slotsUsed := s₂.slotsUsed } : State).setVm s₂.vm := by
      have : s₂ = ({ s₂ with vm := (U.calling g mk a).vm } : State).setVm s₂.vm := rfl
      rw [e2] at this
      exact this
    obtain ⟨c₂, i₂, len₂, hc₂, hd₂, hf₂⟩ := hend
    have hW' : U.WarmedH s₂.vm := hW₂
    have hcc : c₂ = c := by
      have h1 : s₂.code? g.method = U.code? g.method := by
        rw [State.code?_eq, State.code?_eq, hW'.alike.method?]
      exact Option.some.inj (hc₂.symm.trans (h1.trans h.code))
    subst hcc
    have hlen : len₂ = len := by rw [hdg] at hd₂; cases hd₂; rfl
    subst hlen
    have hs₂ : s₂ = (({ U with heap := s₂.heap, slotsUsed := s₂.slotsUsed } : State).setVm s₂.vm).setTop { g with pc := g.pc + len₂, stack := v.toList ++ g.stack } := by
      refine e3.trans ?_
      rw [hf₂, State.calling_eq h.top, State.setFrames_setFrames, State.setTop_of_frames _ hr', hr]
      rfl
    have hsame : U.sameButNew ({ U with heap := s₂.heap, slotsUsed := s₂.slotsUsed } : State) L mc ms := by
      refine ⟨?_, q2, q3, q4, q5, q6⟩
      obtain ⟨t, ht, -⟩ := State.frames_cons hr
      show ({ U with heap := s₂.heap, slotsUsed := s₂.slotsUsed } : State) = { U.setFrames U.frames with heap := s₂.heap, slotsUsed := s₂.slotsUsed }
      rw [State.setFrames_self ht]
    subst hg
    refine Or.inl ⟨v, ⟨(({ U with heap := s₂.heap, slotsUsed := s₂.slotsUsed } : State).setVm s₂.vm), Ls ++ L, c0 + mc, s0 + ms⟩,
      ⟨X.admits, X.cas, X.clock, X.frames, X.room, X.hears, X.method, X.code, (X.here.setHeapUsed s₂.heap s₂.slotsUsed).setVm hW'.alike, X.tail, State.WarmedH.trans X.warmed hW', X.limits, X.bytes, X.same.trans (hsame.setVm s.vm)⟩,
      ⟨g, mk, s₂, L, rfl, rfl, hqc, rfl, hL, rfl, rfl⟩, ?_⟩
    show Steps p.tables e below _ ((({ U with heap := s₂.heap, slotsUsed := s₂.slotsUsed } : State).setVm s₂.vm).setTop { g with pc := g.pc + len₂, stack := v.toList ++ g.stack })
    rw [← hs₂]
    exact hsteps
  · obtain ⟨e2, q2, q3, q4, q5, q6⟩ := id hsm
    have e3 : s₂ = ({ (U.calling g mk a).setFrames s₂.frames with heap := s₂.heap, slotsUsed := s₂.slotsUsed } : State).setVm s₂.vm := by
      have : s₂ = ({ s₂ with vm := (U.calling g mk a).vm } : State).setVm s₂.vm := rfl
      rw [e2] at this
      exact this
    have hf₂ : s₂.frames = .throwing q :: .java g :: U.frames.tail := hend
    have hW' : U.WarmedH s₂.vm := hW₂
    have hs₂ : s₂ = ((({ U with heap := s₂.heap, slotsUsed := s₂.slotsUsed } : State).setVm s₂.vm).setTop g).pushFrame (.throwing q) := by
      refine e3.trans ?_
      rw [hf₂, State.calling_eq h.top, State.setFrames_setFrames, State.pushFrame, State.frames_setTop _ hr', State.setTop_of_frames _ hr', State.setFrames_setFrames, hr]
      rfl
    have hsame : U.sameButNew ({ U with heap := s₂.heap, slotsUsed := s₂.slotsUsed } : State) L mc ms := by
      refine ⟨?_, q2, q3, q4, q5, q6⟩
      obtain ⟨t, ht, -⟩ := State.frames_cons hr
      show ({ U with heap := s₂.heap, slotsUsed := s₂.slotsUsed } : State) = { U.setFrames U.frames with heap := s₂.heap, slotsUsed := s₂.slotsUsed }
      rw [State.setFrames_self ht]
    subst hg
    refine Or.inr ⟨q, ⟨(({ U with heap := s₂.heap, slotsUsed := s₂.slotsUsed } : State).setVm s₂.vm), Ls ++ L, c0 + mc, s0 + ms⟩,
      ⟨X.admits, X.cas, X.clock, X.frames, X.room, X.hears, X.method, X.code, (X.here.setHeapUsed s₂.heap s₂.slotsUsed).setVm hW'.alike, X.tail, State.WarmedH.trans X.warmed hW', X.limits, X.bytes, X.same.trans (hsame.setVm s.vm)⟩,
      ⟨g, mk, s₂, L, E, ce, rfl, rfl, hx, hce, hcv, hcl, rfl, hL, rfl, rfl⟩, ?_⟩
    show Steps p.tables e below _ (((({ U with heap := s₂.heap, slotsUsed := s₂.slotsUsed } : State).setVm s₂.vm).setTop g).pushFrame (.throwing q))
    rw [← hs₂]
    exact hsteps
end Payer
section Calls
variable {p : Program} {l : Launch} {e : Env} {R : Room} {s : State} {m : MethodId} {args : Array Value} {below : List Frame} {meth : Method} {c : Code} {T : State} {locs : List Loc} {cells slots : Nat}
theorem vx_callV (X : Stand p l e R s m args below meth c T locs cells slots) (hexec : p.tables.exec = Jvm.exec) {own C : String} {index : Nat} {y : MethodName} {bytes : ByteArray} {maxL : Nat} {ret : Option FieldType}
    (hown : s.vm.findClass own = some m.cls) (hlink : (Cond.methodLink own index y).before args s = true) (hinst : (Cond.instanceMethod y).before args s = true) (hsel : (Cond.selects C y y).before args s = true)
    (hcode : (Cond.code y bytes maxL ret).before args s = true) (hy : y.cls ≠ "java/lang/invoke/MethodHandle" ∧ y.cls ≠ "java/lang/invoke/VarHandle")
    {W9 : Nat} {Pre : Pt → Array Value → Prop} {Post : Pt → Array Value → Option Value → Pt → Prop} {PostX : Pt → Array Value → Addr → Pt → Prop} (hK : vx_Back l R p e below s args y 3 W9 Pre Post PostX)
    {b : Addr} {cellB : Cell} (hcell : T.heap[b]? = some cellB) (hobj : cellB.vm.isStatics = false) (hcls : s.vm.findClass C = some cellB.cls)
    {g : JFrame} (hg : g.method = m) (hsize : g.locals.size = c.maxLocals) {argsL rest : List Value} (hlen : ∀ sig, parseMethodDescriptor y.desc = some sig → argsL.length = sig.parameters.length)
    (hstack : g.stack = argsL.reverse ++ .ref b :: rest) (hW : 2 * g.monitorRoom + (rest.map fun v => v.category).sum ≤ W9) (hdg : decode c.code g.pc = .ok (.invokevirtual index, 3))
    (hpre : ∀ vm₁, s.WarmedH vm₁ → Pre ⟨T.setVm vm₁, locs, cells, slots⟩ (Value.ref b :: argsL).toArray) :
    (∃ (v : Option Value) (vm₁ : Vm) (B : Pt), s.WarmedH vm₁ ∧ Stand p l e R s m args below meth c B.U B.locs B.cells B.slots ∧ Post ⟨T.setVm vm₁, locs, cells, slots⟩ (Value.ref b :: argsL).toArray v B ∧
      ∀ target, Steps p.tables e below (B.U.setTop { g with pc := g.pc + 3, stack := v.toList ++ rest }) target → Steps p.tables e below (T.setTop g) target) ∨
    (∃ (q : Addr) (vm₁ : Vm) (B : Pt), s.WarmedH vm₁ ∧ Stand p l e R s m args below meth c B.U B.locs B.cells B.slots ∧ PostX ⟨T.setVm vm₁, locs, cells, slots⟩ (Value.ref b :: argsL).toArray q B ∧
      Steps p.tables e below (T.setTop g) ((B.U.setTop { g with stack := rest }).pushFrame (.throwing q))) := by
  obtain ⟨mk, methM, hnamed, hmethM, hstM, habM⟩ := Cond.instanceMethod_spec hinst
  obtain ⟨methM', cM, hmethM', -, -, -, -, -, -, hsigM⟩ := Cond.code_spec hnamed hcode
  cases hmethM.symm.trans hmethM'
  obtain ⟨c2, r2, m2, q1, q2, q3, q4, kP, hkP, hkPi⟩ := Cond.selects_spec hsel
  cases hcls.symm.trans q1
  cases (State.methodFound?_of_named hnamed hy).symm.trans q2
  cases hnamed.symm.trans q3
  have hselP : selectMethod e.platform s.vm cellB.cls mk = .method mk := by rw [Launch.admits_selectMethod X.admits]; exact q4
  obtain ⟨vm₁, X₁, hstep₁⟩ := X.invokevirtual hexec hown hlink hnamed hmethM hstM hkP hkPi hy (a := b) (cell := cellB) hcell
    (fun z h => by rw [h] at hobj; cases hobj) hselP hmethM habM hkP hkPi (g := g) hg (argsL := argsL) (rest := rest) (hlen _ hsigM) hstack hdg
  rcases hK m meth c ⟨T.setVm vm₁, locs, cells, slots⟩ { g with stack := rest } (.invokevirtual index) mk (Value.ref b :: argsL).toArray X₁ hg hsize hdg hW (X₁.named hnamed) (hpre vm₁ X₁.warmed) with ⟨v, B, X', hpost, hsteps⟩ | ⟨q, B, X', hpost, hsteps⟩
  · exact Or.inl ⟨v, vm₁, B, X₁.warmed, X', hpost, fun target h => hstep₁ _ fun acts => by rw [doInvoke_state]; exact hsteps.trans h⟩
  · exact Or.inr ⟨q, vm₁, B, X₁.warmed, X', hpost, hstep₁ _ fun acts => by rw [doInvoke_state]; exact hsteps⟩
theorem vx_callS (X : Stand p l e R s m args below meth c T locs cells slots) (hexec : p.tables.exec = Jvm.exec) {own : String} {index : Nat} {y : MethodName} {bytes : ByteArray} {maxL : Nat} {ret : Option FieldType}
    (hown : s.vm.findClass own = some m.cls) (hlink : (Cond.methodLink own index y).before args s = true) (hstat : (Cond.static y).before args s = true) (hinit : (Cond.initialized y.cls).before args s = true)
    (hcode : (Cond.code y bytes maxL ret).before args s = true) (hy : y.cls ≠ "java/lang/invoke/MethodHandle" ∧ y.cls ≠ "java/lang/invoke/VarHandle")
    {W9 : Nat} {Pre : Pt → Array Value → Prop} {Post : Pt → Array Value → Option Value → Pt → Prop} {PostX : Pt → Array Value → Addr → Pt → Prop} (hK : vx_Back l R p e below s args y 3 W9 Pre Post PostX)
    {g : JFrame} (hg : g.method = m) (hsize : g.locals.size = c.maxLocals) {argsL rest : List Value} (hlen : ∀ sig, parseMethodDescriptor y.desc = some sig → argsL.length = sig.parameters.length)
    (hstack : g.stack = argsL.reverse ++ rest) (hW : 2 * g.monitorRoom + (rest.map fun v => v.category).sum ≤ W9) (hdg : decode c.code g.pc = .ok (.invokestatic index, 3))
    (hpre : ∀ vm₁, s.WarmedH vm₁ → Pre ⟨T.setVm vm₁, locs, cells, slots⟩ argsL.toArray) :
    (∃ (v : Option Value) (vm₁ : Vm) (B : Pt), s.WarmedH vm₁ ∧ Stand p l e R s m args below meth c B.U B.locs B.cells B.slots ∧ Post ⟨T.setVm vm₁, locs, cells, slots⟩ argsL.toArray v B ∧
      ∀ target, Steps p.tables e below (B.U.setTop { g with pc := g.pc + 3, stack := v.toList ++ rest }) target → Steps p.tables e below (T.setTop g) target) ∨
    (∃ (q : Addr) (vm₁ : Vm) (B : Pt), s.WarmedH vm₁ ∧ Stand p l e R s m args below meth c B.U B.locs B.cells B.slots ∧ PostX ⟨T.setVm vm₁, locs, cells, slots⟩ argsL.toArray q B ∧
      Steps p.tables e below (T.setTop g) ((B.U.setTop { g with stack := rest }).pushFrame (.throwing q))) := by
  obtain ⟨mk, hnamed⟩ := Cond.code_named hcode
  obtain ⟨methM, cM, hmethM, -, -, -, -, -, -, hsigM⟩ := Cond.code_spec hnamed hcode
  have hstatic : methM.isStatic = true := Cond.static_spec hnamed hmethM hstat
  obtain ⟨kP, hkP, -⟩ := className_of_methodNamed hnamed
  have hinitP : kP.init = .initialized := Cond.initialized_spec (findClass_of_methodNamed hnamed) hkP hinit
  obtain ⟨vm₁, X₁, hstep₁⟩ := X.invokestatic hexec hown hlink hnamed hmethM hstatic hkP hinitP hy (g := g) hg (argsL := argsL) (rest := rest) (hlen _ hsigM) hstack hdg
  rcases hK m meth c ⟨T.setVm vm₁, locs, cells, slots⟩ { g with stack := rest } (.invokestatic index) mk argsL.toArray X₁ hg hsize hdg hW (X₁.named hnamed) (hpre vm₁ X₁.warmed) with ⟨v, B, X', hpost, hsteps⟩ | ⟨q, B, X', hpost, hsteps⟩
  · exact Or.inl ⟨v, vm₁, B, X₁.warmed, X', hpost, fun target h => hstep₁ _ fun acts => by rw [doInvoke_state]; exact hsteps.trans h⟩
  · exact Or.inr ⟨q, vm₁, B, X₁.warmed, X', hpost, hstep₁ _ fun acts => by rw [doInvoke_state]; exact hsteps⟩
end Calls
theorem vx_cls {s : State} {T : State} {vm₁ : Vm} {E : String} {k : ClassId} (hW : s.WarmedH vm₁) (h : (T.setVm vm₁).vm.findClass E = some k) : s.vm.findClass E = some k := by
  have h1 : vm₁.findClass E = some k := h
  rw [hW.alike.findClass] at h1
  exact h1
/-- the method's frame g, with q thrown over it -/
def vx_W (p : Program) (l : Launch) (e : Env) (R : Room) (s : State) (m : MethodId) (args : Array Value) (below : List Frame) (meth : Method) (c : Code) (H : Heap) (locs : List Loc) (cells slots : Nat) (Q : State → Prop) (g : JFrame) (q : Addr) : Prop :=
  ∀ T : State, T.heap = H → Stand p l e R s m args below meth c T locs cells slots → ∃ t, Steps p.tables e below ((T.setTop g).pushFrame (.throwing q)) t ∧ Q t
def vx_Run (p : Program) (l : Launch) (e : Env) (R : Room) (s : State) (m : MethodId) (args : Array Value) (below : List Frame) (meth : Method) (c : Code) (H : Heap) (locs : List Loc) (cells slots mc ms : Nat) (g : JFrame) (rest : List Value) (Qa : State → Outcome → State → Prop) (XC : String → State → State → Prop) (free : Addr → Prop) : Prop :=
  ∀ T : State, T.heap = H → Stand p l e R s m args below meth c T locs cells slots →
    (∃ (v : Option Value) (st₀ t T' : State) (L : List Loc), st₀.heap = H ∧ Stand p l e R s m args below meth c T' (locs ++ L) (cells + mc) (slots + ms) ∧ (∀ q ∈ L, free q.base) ∧ T'.heap = t.heap ∧ T'.vm = t.vm ∧ Qa st₀ (.returned v) t ∧
      Goes p e below T g T' { g with pc := g.pc + 3, stack := v.toList ++ rest }) ∨
    (∃ (q : Addr) (st₀ t T' : State) (L : List Loc) (E : String) (ce : Cell), st₀.heap = H ∧ Stand p l e R s m args below meth c T' (locs ++ L) (cells + mc) (slots + ms) ∧ (∀ z ∈ L, free z.base) ∧ T'.heap = t.heap ∧ T'.vm = t.vm ∧ XC E st₀ t ∧ t.heap[q]? = some ce ∧ ce.vm = .none ∧ s.vm.findClass E = some ce.cls ∧
      Steps p.tables e below (T.setTop g) ((T'.setTop { g with stack := rest }).pushFrame (.throwing q)))
def vx_X {S : Type} (px : S → Prop) (B : String → S → State → Prop) (A : Nat → Prop) : String → State → State → Prop := fun E st t => ∃ u : S, px u ∧ B E u t ∧ va_F A st t
section Runs
variable {p : Program} {l : Launch} {e : Env} {R : Room} {s : State} {m : MethodId} {args : Array Value} {below : List Frame} {meth : Method} {c : Code} {H : Heap} {locs : List Loc} {cells slots : Nat}
variable {y : MethodName} {bytes cc : ByteArray} {maxL nL mc ms n index : Nat} {ret : Option FieldType} {ws : List Cond} {rm : Room} {Pc : Array Value → State → Prop} {Qc : Array Value → State → Outcome → State → Prop} {XC : String → State → State → Prop} {free : Addr → Prop} {Ts : List Cond} {own C : String} {b : Addr} {As rest : List Value} {g : JFrame}
theorem vx_callBack (cb : CallB R s args own index y bytes maxL ret ws rm mc ms n) (hM : vx_Met l y ws rm Pc Qc XC mc ms free) (hbl : FrameBlind Pc) : vx_Back l R p e below s args y 3 8 (PreOf R mc ms Pc) (PostOf Qc mc ms free) (vx_Post XC mc ms free) := by
  obtain ⟨hrc, hrs, hfr, hlo, hws, hcw, -, hini, -⟩ := cb
  exact vx_back (bytes := bytes) (maxL := maxL) (ret := ret) hM hbl hrc hrs hfr hlo hws hcw (fun a' U hW => word_at hW (Or.inl (by first | rfl | simp [Cond.onTables, Cond.keeps, Cond.steady])) hini)
theorem vx_runV (S : CallFix p m c cc nL s args Ts own) (hM : vx_Met l y ws rm Pc Qc XC mc ms free) (cw : CallW R s args own C index y bytes maxL ret ws rm mc ms n) (hp : PreV s H C b Pc As)
    (hg : g.method = m) (hn : As.length = n) (hsize : g.locals.size = nL) (hstack : g.stack = As.reverse ++ .ref b :: rest) (hW : 2 * g.monitorRoom + (rest.map fun v => v.category).sum ≤ 8) (hdg : decode cc g.pc = .ok (.invokevirtual index, 3)) (hf : cells + mc ≤ R.cells ∧ slots + ms ≤ R.slots) :
    vx_Run p l e R s m args below meth c H locs cells slots mc ms g rest (Qc (Value.ref b :: As).toArray) XC free := by
  have hK : vx_Back l R p e below s args y 3 8 (PreOf R mc ms Pc) (PostOf Qc mc ms free) (vx_Post XC mc ms free) := vx_callBack cw.1 hM hp.1
  obtain ⟨⟨-, -, -, -, -, -, hcode, -, hy, hlen, hl⟩, hin, hse⟩ := cw
  obtain ⟨hx, hb, hml, ho, -⟩ := S
  obtain ⟨-, ⟨cellB, hcB, hoB, hclB⟩, hPc⟩ := hp
  intro T hT X
  rcases vx_callV X hx (C := C) (bytes := bytes) (maxL := maxL) (ret := ret) ho hl hin hse hcode hy hK (by rw [hT]; exact hcB) hoB hclB hg (hsize.trans hml.symm) (argsL := As) (rest := rest) (fun sig h => hn.trans (hlen sig h)) hstack hW (by rw [hb]; exact hdg)
    (fun vm₁ hW₁ => ⟨hf.1, hf.2, hPc (T.setVm vm₁) hT hW₁⟩) with ⟨v, vm₁, ⟨U', l2, c2, s2⟩, hW₁, X', ⟨g', mk, t, L, e1, e2, hq, h1, hL, h2, h3⟩, st⟩ | ⟨q, vm₁, ⟨U', l2, c2, s2⟩, hW₁, X', ⟨g', mk, t, L, E, ce, e1, e2, hq, hce, hcv, hcl, h1, hL, h2, h3⟩, st⟩
  · dsimp only [Pt.U, Pt.locs, Pt.cells, Pt.slots] at X' e1 e2 h1 h2 h3 st
    subst h1; subst h2; subst h3
    exact Or.inl ⟨v, (T.setVm vm₁).calling g' mk (Value.ref b :: As).toArray, t, U', L, hT, X', hL, e1, e2, hq, st⟩
  · dsimp only [Pt.U, Pt.locs, Pt.cells, Pt.slots] at X' e1 e2 h1 h2 h3 st hcl
    subst h1; subst h2; subst h3
    exact Or.inr ⟨q, (T.setVm vm₁).calling g' mk (Value.ref b :: As).toArray, t, U', L, E, ce, hT, X', hL, e1, e2, hq, hce, hcv, vx_cls hW₁ hcl, st⟩
theorem vx_runS (S : CallFix p m c cc nL s args Ts own) (hM : vx_Met l y ws rm Pc Qc XC mc ms free) (cw : CallB R s args own index y bytes maxL ret ws rm mc ms n ∧ (Cond.static y).before args s = true) (hp : PreS s H Pc As)
    (hg : g.method = m) (hn : As.length = n) (hsize : g.locals.size = nL) (hstack : g.stack = As.reverse ++ rest) (hW : 2 * g.monitorRoom + (rest.map fun v => v.category).sum ≤ 8) (hdg : decode cc g.pc = .ok (.invokestatic index, 3)) (hf : cells + mc ≤ R.cells ∧ slots + ms ≤ R.slots) :
    vx_Run p l e R s m args below meth c H locs cells slots mc ms g rest (Qc As.toArray) XC free := by
  have hK : vx_Back l R p e below s args y 3 8 (PreOf R mc ms Pc) (PostOf Qc mc ms free) (vx_Post XC mc ms free) := vx_callBack cw.1 hM hp.1
  obtain ⟨⟨-, -, -, -, -, -, hcode, hini, hy, hlen, hl⟩, hstt⟩ := cw
  obtain ⟨hx, hb, hml, ho, -⟩ := S
  intro T hT X
  rcases vx_callS X hx (bytes := bytes) (maxL := maxL) (ret := ret) ho hl hstt hini hcode hy hK hg (hsize.trans hml.symm) (argsL := As) (rest := rest) (fun sig h => hn.trans (hlen sig h)) hstack hW (by rw [hb]; exact hdg)
    (fun vm₁ hW₁ => ⟨hf.1, hf.2, hp.2 (T.setVm vm₁) hT hW₁⟩) with ⟨v, vm₁, ⟨U', l2, c2, s2⟩, hW₁, X', ⟨g', mk, t, L, e1, e2, hq, h1, hL, h2, h3⟩, st⟩ | ⟨q, vm₁, ⟨U', l2, c2, s2⟩, hW₁, X', ⟨g', mk, t, L, E, ce, e1, e2, hq, hce, hcv, hcl, h1, hL, h2, h3⟩, st⟩
  · dsimp only [Pt.U, Pt.locs, Pt.cells, Pt.slots] at X' e1 e2 h1 h2 h3 st
    subst h1; subst h2; subst h3
    exact Or.inl ⟨v, (T.setVm vm₁).calling g' mk As.toArray, t, U', L, hT, X', hL, e1, e2, hq, st⟩
  · dsimp only [Pt.U, Pt.locs, Pt.cells, Pt.slots] at X' e1 e2 h1 h2 h3 st hcl
    subst h1; subst h2; subst h3
    exact Or.inr ⟨q, (T.setVm vm₁).calling g' mk As.toArray, t, U', L, E, ce, hT, X', hL, e1, e2, hq, hce, hcv, vx_cls hW₁ hcl, st⟩
end Runs
section Rows
variable {p : Program} {l : Launch} {e : Env} {R : Room} {s : State} {m : MethodId} {args : Array Value} {below : List Frame} {meth : Method} {c : Code} {H : Heap} {locs : List Loc} {cells slots : Nat} {Q : State → Prop}
variable {mc ms : Nat} {free : Addr → Prop} {A0 A1 : Nat → Prop} {H0 : Heap} {a : Array Value} {pc : Nat} {ls : Array Slot} {st0 rest : List Value}
theorem vx_keep {st₀ t T' : State} {L : List Loc} (h0 : st₀.heap = H) (e1 : T'.heap = t.heap) (hS : va_S A0 H0 H locs) (hA : ∀ q, q < H.size → A1 q → A0 q) (hf : ∀ q, free q → A0 q) (hL : ∀ q ∈ L, free q.base) (hF : va_F A1 st₀ t) :
    H.size ≤ T'.heap.size ∧ (∀ q : Nat, q < H.size → ¬ A1 q → T'.heap[q]? = H[q]?) ∧ va_S A0 H0 T'.heap (locs ++ L) := by
  obtain ⟨hz, hk⟩ := hF
  rw [h0] at hz hk
  exact ⟨by rw [e1]; exact hz, fun q h1 h2 => by rw [e1]; exact hk q h1 h2,
    ⟨Nat.le_trans hS.1 (by rw [e1]; exact hz), fun q h1 h2 => by rw [e1, hk q (Nat.lt_of_lt_of_le h1 hS.1) (fun z => h2 (hA q (Nat.lt_of_lt_of_le h1 hS.1) z))]; exact hS.2.1 q h1 h2, fun q hq => by
      rcases List.mem_append.mp hq with h | h
      · exact hS.2.2 q h
      · exact hf _ (hL q h)⟩⟩
theorem vx_calli {S SX : Type} {post : Int32 → S → Prop} {px : SX → Prop} {B : S → State → Prop} {BX : String → SX → State → Prop} {AX : Nat → Prop} (hr : vx_Run p l e R s m args below meth c H locs cells slots mc ms (F0 m pc ls st0) rest (va_Qi post B A1 a) (vx_X px BX AX) free) (hS : va_S A0 H0 H locs) (hA : ∀ q, q < H.size → A1 q → A0 q) (hf : ∀ q, free q → A0 q) (hAX : ∀ q, q < H.size → AX q → A0 q)
    (kx : ∀ (E : String) (ce : Cell) (q9 : Addr) (u : SX) (t : State) (H1 : Heap) (locs1 : List Loc), t.heap = H1 → s.vm.Alike t.vm → px u → BX E u t → H.size ≤ H1.size → (∀ q : Nat, q < H.size → ¬ AX q → H1[q]? = H[q]?) → va_S A0 H0 H1 locs1 → H1[q9]? = some ce → ce.vm = .none → s.vm.findClass E = some ce.cls → vx_W p l e R s m args below meth c H1 locs1 (cells + mc) (slots + ms) Q (F0 m pc ls rest) q9)
    (kk : ∀ (r : Int32) (u : S) (t : State) (H1 : Heap) (locs1 : List Loc), t.heap = H1 → s.vm.Alike t.vm → post r u → B u t → H.size ≤ H1.size → (∀ q : Nat, q < H.size → ¬ A1 q → H1[q]? = H[q]?) → va_S A0 H0 H1 locs1 → W p l e R s m args below meth c H1 locs1 (cells + mc) (slots + ms) Q (F0 m (pc + 3) ls (.int r :: rest))) : W p l e R s m args below meth c H locs cells slots Q (F0 m pc ls st0) := by
  intro T hT X
  rcases hr T hT X with ⟨v, st₀, t, T', L, h0, X', hL, e1, e2, ⟨⟨r, u, hv, hp, hb⟩, hF⟩, st⟩ | ⟨q, st₀, t, T', L, E, ce, h0, X', hL, e1, e2, ⟨u, hp, hb, hF⟩, hce, hcv, hcl, st⟩
  · cases hv
    obtain ⟨k1, k2, k3⟩ := vx_keep h0 e1 hS hA hf hL hF
    obtain ⟨t2, a1, b1⟩ := kk r u t T'.heap (locs ++ L) e1.symm (by rw [← e2]; exact X'.warmed.alike) hp hb k1 k2 k3 T' rfl X'
    exact ⟨t2, st t2 a1, b1⟩
  · obtain ⟨k1, k2, k3⟩ := vx_keep h0 e1 hS hAX hf hL hF
    obtain ⟨t2, a1, b1⟩ := kx E ce q u t T'.heap (locs ++ L) e1.symm (by rw [← e2]; exact X'.warmed.alike) hp hb k1 k2 k3 (by rw [e1]; exact hce) hcv hcl T' rfl X'
    exact ⟨t2, st.trans a1, b1⟩
theorem vx_calll {S SX : Type} {post : Int64 → S → Prop} {px : SX → Prop} {B : S → State → Prop} {BX : String → SX → State → Prop} {AX : Nat → Prop} (hr : vx_Run p l e R s m args below meth c H locs cells slots mc ms (F0 m pc ls st0) rest (va_Ql post B A1 a) (vx_X px BX AX) free) (hS : va_S A0 H0 H locs) (hA : ∀ q, q < H.size → A1 q → A0 q) (hf : ∀ q, free q → A0 q) (hAX : ∀ q, q < H.size → AX q → A0 q)
    (kx : ∀ (E : String) (ce : Cell) (q9 : Addr) (u : SX) (t : State) (H1 : Heap) (locs1 : List Loc), t.heap = H1 → s.vm.Alike t.vm → px u → BX E u t → H.size ≤ H1.size → (∀ q : Nat, q < H.size → ¬ AX q → H1[q]? = H[q]?) → va_S A0 H0 H1 locs1 → H1[q9]? = some ce → ce.vm = .none → s.vm.findClass E = some ce.cls → vx_W p l e R s m args below meth c H1 locs1 (cells + mc) (slots + ms) Q (F0 m pc ls rest) q9)
    (kk : ∀ (r : Int64) (u : S) (t : State) (H1 : Heap) (locs1 : List Loc), t.heap = H1 → s.vm.Alike t.vm → post r u → B u t → H.size ≤ H1.size → (∀ q : Nat, q < H.size → ¬ A1 q → H1[q]? = H[q]?) → va_S A0 H0 H1 locs1 → W p l e R s m args below meth c H1 locs1 (cells + mc) (slots + ms) Q (F0 m (pc + 3) ls (.long r :: rest))) : W p l e R s m args below meth c H locs cells slots Q (F0 m pc ls st0) := by
  intro T hT X
  rcases hr T hT X with ⟨v, st₀, t, T', L, h0, X', hL, e1, e2, ⟨⟨r, u, hv, hp, hb⟩, hF⟩, st⟩ | ⟨q, st₀, t, T', L, E, ce, h0, X', hL, e1, e2, ⟨u, hp, hb, hF⟩, hce, hcv, hcl, st⟩
  · cases hv
    obtain ⟨k1, k2, k3⟩ := vx_keep h0 e1 hS hA hf hL hF
    obtain ⟨t2, a1, b1⟩ := kk r u t T'.heap (locs ++ L) e1.symm (by rw [← e2]; exact X'.warmed.alike) hp hb k1 k2 k3 T' rfl X'
    exact ⟨t2, st t2 a1, b1⟩
  · obtain ⟨k1, k2, k3⟩ := vx_keep h0 e1 hS hAX hf hL hF
    obtain ⟨t2, a1, b1⟩ := kx E ce q u t T'.heap (locs ++ L) e1.symm (by rw [← e2]; exact X'.warmed.alike) hp hb k1 k2 k3 (by rw [e1]; exact hce) hcv hcl T' rfl X'
    exact ⟨t2, st.trans a1, b1⟩
theorem vx_callf {S SX : Type} {post : UInt32 → S → Prop} {px : SX → Prop} {B : S → State → Prop} {BX : String → SX → State → Prop} {AX : Nat → Prop} (hr : vx_Run p l e R s m args below meth c H locs cells slots mc ms (F0 m pc ls st0) rest (va_Qf post B A1 a) (vx_X px BX AX) free) (hS : va_S A0 H0 H locs) (hA : ∀ q, q < H.size → A1 q → A0 q) (hf : ∀ q, free q → A0 q) (hAX : ∀ q, q < H.size → AX q → A0 q)
    (kx : ∀ (E : String) (ce : Cell) (q9 : Addr) (u : SX) (t : State) (H1 : Heap) (locs1 : List Loc), t.heap = H1 → s.vm.Alike t.vm → px u → BX E u t → H.size ≤ H1.size → (∀ q : Nat, q < H.size → ¬ AX q → H1[q]? = H[q]?) → va_S A0 H0 H1 locs1 → H1[q9]? = some ce → ce.vm = .none → s.vm.findClass E = some ce.cls → vx_W p l e R s m args below meth c H1 locs1 (cells + mc) (slots + ms) Q (F0 m pc ls rest) q9)
    (kk : ∀ (r : UInt32) (u : S) (t : State) (H1 : Heap) (locs1 : List Loc), t.heap = H1 → s.vm.Alike t.vm → post r u → B u t → H.size ≤ H1.size → (∀ q : Nat, q < H.size → ¬ A1 q → H1[q]? = H[q]?) → va_S A0 H0 H1 locs1 → W p l e R s m args below meth c H1 locs1 (cells + mc) (slots + ms) Q (F0 m (pc + 3) ls (.float r :: rest))) : W p l e R s m args below meth c H locs cells slots Q (F0 m pc ls st0) := by
  intro T hT X
  rcases hr T hT X with ⟨v, st₀, t, T', L, h0, X', hL, e1, e2, ⟨⟨r, u, hv, hp, hb⟩, hF⟩, st⟩ | ⟨q, st₀, t, T', L, E, ce, h0, X', hL, e1, e2, ⟨u, hp, hb, hF⟩, hce, hcv, hcl, st⟩
  · cases hv
    obtain ⟨k1, k2, k3⟩ := vx_keep h0 e1 hS hA hf hL hF
    obtain ⟨t2, a1, b1⟩ := kk r u t T'.heap (locs ++ L) e1.symm (by rw [← e2]; exact X'.warmed.alike) hp hb k1 k2 k3 T' rfl X'
    exact ⟨t2, st t2 a1, b1⟩
  · obtain ⟨k1, k2, k3⟩ := vx_keep h0 e1 hS hAX hf hL hF
    obtain ⟨t2, a1, b1⟩ := kx E ce q u t T'.heap (locs ++ L) e1.symm (by rw [← e2]; exact X'.warmed.alike) hp hb k1 k2 k3 (by rw [e1]; exact hce) hcv hcl T' rfl X'
    exact ⟨t2, st.trans a1, b1⟩
theorem vx_calld {S SX : Type} {post : UInt64 → S → Prop} {px : SX → Prop} {B : S → State → Prop} {BX : String → SX → State → Prop} {AX : Nat → Prop} (hr : vx_Run p l e R s m args below meth c H locs cells slots mc ms (F0 m pc ls st0) rest (va_Qd post B A1 a) (vx_X px BX AX) free) (hS : va_S A0 H0 H locs) (hA : ∀ q, q < H.size → A1 q → A0 q) (hf : ∀ q, free q → A0 q) (hAX : ∀ q, q < H.size → AX q → A0 q)
    (kx : ∀ (E : String) (ce : Cell) (q9 : Addr) (u : SX) (t : State) (H1 : Heap) (locs1 : List Loc), t.heap = H1 → s.vm.Alike t.vm → px u → BX E u t → H.size ≤ H1.size → (∀ q : Nat, q < H.size → ¬ AX q → H1[q]? = H[q]?) → va_S A0 H0 H1 locs1 → H1[q9]? = some ce → ce.vm = .none → s.vm.findClass E = some ce.cls → vx_W p l e R s m args below meth c H1 locs1 (cells + mc) (slots + ms) Q (F0 m pc ls rest) q9)
    (kk : ∀ (r : UInt64) (u : S) (t : State) (H1 : Heap) (locs1 : List Loc), t.heap = H1 → s.vm.Alike t.vm → post r u → B u t → H.size ≤ H1.size → (∀ q : Nat, q < H.size → ¬ A1 q → H1[q]? = H[q]?) → va_S A0 H0 H1 locs1 → W p l e R s m args below meth c H1 locs1 (cells + mc) (slots + ms) Q (F0 m (pc + 3) ls (.double r :: rest))) : W p l e R s m args below meth c H locs cells slots Q (F0 m pc ls st0) := by
  intro T hT X
  rcases hr T hT X with ⟨v, st₀, t, T', L, h0, X', hL, e1, e2, ⟨⟨r, u, hv, hp, hb⟩, hF⟩, st⟩ | ⟨q, st₀, t, T', L, E, ce, h0, X', hL, e1, e2, ⟨u, hp, hb, hF⟩, hce, hcv, hcl, st⟩
  · cases hv
    obtain ⟨k1, k2, k3⟩ := vx_keep h0 e1 hS hA hf hL hF
    obtain ⟨t2, a1, b1⟩ := kk r u t T'.heap (locs ++ L) e1.symm (by rw [← e2]; exact X'.warmed.alike) hp hb k1 k2 k3 T' rfl X'
    exact ⟨t2, st t2 a1, b1⟩
  · obtain ⟨k1, k2, k3⟩ := vx_keep h0 e1 hS hAX hf hL hF
    obtain ⟨t2, a1, b1⟩ := kx E ce q u t T'.heap (locs ++ L) e1.symm (by rw [← e2]; exact X'.warmed.alike) hp hb k1 k2 k3 (by rw [e1]; exact hce) hcv hcl T' rfl X'
    exact ⟨t2, st.trans a1, b1⟩
theorem vx_callv {S SX : Type} {post : S → Prop} {px : SX → Prop} {B : S → State → Prop} {BX : String → SX → State → Prop} {AX : Nat → Prop} (hr : vx_Run p l e R s m args below meth c H locs cells slots mc ms (F0 m pc ls st0) rest (va_Qv post B A1 a) (vx_X px BX AX) free) (hS : va_S A0 H0 H locs) (hA : ∀ q, q < H.size → A1 q → A0 q) (hf : ∀ q, free q → A0 q) (hAX : ∀ q, q < H.size → AX q → A0 q)
    (kx : ∀ (E : String) (ce : Cell) (q9 : Addr) (u : SX) (t : State) (H1 : Heap) (locs1 : List Loc), t.heap = H1 → s.vm.Alike t.vm → px u → BX E u t → H.size ≤ H1.size → (∀ q : Nat, q < H.size → ¬ AX q → H1[q]? = H[q]?) → va_S A0 H0 H1 locs1 → H1[q9]? = some ce → ce.vm = .none → s.vm.findClass E = some ce.cls → vx_W p l e R s m args below meth c H1 locs1 (cells + mc) (slots + ms) Q (F0 m pc ls rest) q9)
    (kk : ∀ (u : S) (t : State) (H1 : Heap) (locs1 : List Loc), t.heap = H1 → s.vm.Alike t.vm → post u → B u t → H.size ≤ H1.size → (∀ q : Nat, q < H.size → ¬ A1 q → H1[q]? = H[q]?) → va_S A0 H0 H1 locs1 → W p l e R s m args below meth c H1 locs1 (cells + mc) (slots + ms) Q (F0 m (pc + 3) ls (rest))) : W p l e R s m args below meth c H locs cells slots Q (F0 m pc ls st0) := by
  intro T hT X
  rcases hr T hT X with ⟨v, st₀, t, T', L, h0, X', hL, e1, e2, ⟨⟨u, hv, hp, hb⟩, hF⟩, st⟩ | ⟨q, st₀, t, T', L, E, ce, h0, X', hL, e1, e2, ⟨u, hp, hb, hF⟩, hce, hcv, hcl, st⟩
  · cases hv
    obtain ⟨k1, k2, k3⟩ := vx_keep h0 e1 hS hA hf hL hF
    obtain ⟨t2, a1, b1⟩ := kk u t T'.heap (locs ++ L) e1.symm (by rw [← e2]; exact X'.warmed.alike) hp hb k1 k2 k3 T' rfl X'
    exact ⟨t2, st t2 a1, b1⟩
  · obtain ⟨k1, k2, k3⟩ := vx_keep h0 e1 hS hAX hf hL hF
    obtain ⟨t2, a1, b1⟩ := kx E ce q u t T'.heap (locs ++ L) e1.symm (by rw [← e2]; exact X'.warmed.alike) hp hb k1 k2 k3 (by rw [e1]; exact hce) hcv hcl T' rfl X'
    exact ⟨t2, st.trans a1, b1⟩
/-- caught by the row x of this method's table; the rows ahead don't take it -/
theorem vx_catch {own name : String} {E : String} {ce : Cell} {q : Addr} (hown : s.vm.findClass own = some m.cls) (pre : List ExceptionTableEntry) (x : ExceptionTableEntry) (suf : List ExceptionTableEntry) (hsplit : c.exceptionTable.toList = pre ++ x :: suf)
    (hpass : ∀ z ∈ pre, covers z pc = false ∨ (z.catchType ≠ 0 ∧ ∃ nm : String, (Cond.classLink own z.catchType nm).before args s = true ∧ va_Nc E nm s)) (hx : covers x pc = true) (h0 : x.catchType ≠ 0)
    (hlink : (Cond.classLink own x.catchType name).before args s = true) (hcast : (Cond.castable E name).before args s = true) (hcell : H[q]? = some ce) (hv : ce.vm = .none) (hcl : s.vm.findClass E = some ce.cls)
    (kk : W p l e R s m args below meth c H locs cells slots Q (F0 m x.handlerPc ls [.ref q])) : vx_W p l e R s m args below meth c H locs cells slots Q (F0 m pc ls rest) q := by
  intro T hT X
  have hpl : e.platform.magicAccessors = ({} : Platform).magicAccessors := by rw [X.admits.platform]
  obtain ⟨c3, c4, hc3, hc4, hasg⟩ := Cond.castable_spec hcast
  cases Option.some.inj (hc3.symm.trans hcl)
  obtain ⟨c5, hc5, hcl5⟩ := Cond.classLink_spec hown hlink e.platform hpl
  cases Option.some.inj (hc4.symm.trans hc5)
  obtain ⟨vm', X', st⟩ := X.thenCaughtThrough q (g := F0 m pc ls rest) rfl (Steps.refl _) (by rw [hT]; exact hcell) (by rw [hv]; rfl) (by obtain ⟨k9, h9, -⟩ := Vm.findClass_spec hcl; exact ⟨k9, h9⟩) pre x suf hsplit
    (fun z hz => by
      rcases hpass z hz with h | ⟨hz0, nm, hl1, hn1⟩
      · exact Or.inl h
      · obtain ⟨c6, hc6, hcl6⟩ := Cond.classLink_spec hown hl1 e.platform hpl
        obtain ⟨a8, b8, h1, h2, h3⟩ := hn1
        cases Option.some.inj (h1.symm.trans hcl)
        cases Option.some.inj (h2.symm.trans hc6)
        exact Or.inr ⟨hz0, _, hcl6, h3⟩) hx (Or.inr ⟨h0, c4, hcl5, hasg⟩)
  obtain ⟨t, a1, b1⟩ := kk (T.setVm vm') hT X'
  exact ⟨t, st.trans a1, b1⟩
end Rows
section Ends
variable {p : Program} {l : Launch} {e : Env} {R : Room} {s : State} {m : MethodId} {args : Array Value} {below : List Frame} {meth : Method} {c : Code} {H : Heap} {locs : List Loc} {cells slots : Nat} {Q : State → Prop}
variable {mc ms : Nat} {free : Addr → Prop} {A0 A1 : Nat → Prop} {H0 : Heap} {a : Array Value} {ls : Array Slot} {st0 rest : List Value}
variable {Qc : Array Value → State → Outcome → State → Prop} {XC : String → State → State → Prop}
/-- what a body that may throw owes at its end -/
def vx_MQ (below : List Frame) (Qc : Array Value → State → Outcome → State → Prop) (XC : String → State → State → Prop) (a : Array Value) (s : State) (mc ms : Nat) (free : Addr → Prop) : State → Prop := fun t =>
  ∃ o, t.status = .running ∧ Ended t below o ∧ vx_Q Qc XC mc ms free a s o t
theorem vx_ret {g : JFrame} {mc ms : Nat} (k : W p l e R s m args below meth c H locs cells slots (MQ below Qc args s mc ms free) g) : W p l e R s m args below meth c H locs cells slots (vx_MQ below Qc XC args s mc ms free) g := by
  intro T hT X
  obtain ⟨t, a1, o, b1, b2, b3, b4⟩ := k T hT X
  exact ⟨t, a1, o, b1, b2, Or.inl ⟨b3, b4⟩⟩
/-- not caught here: it goes on to the caller -/
theorem vx_widen {g : JFrame} {q : Addr} {k n : Nat} (h1 : cells ≤ k) (h2 : slots ≤ n) (kk : vx_W p l e R s m args below meth c H locs k n Q g q) : vx_W p l e R s m args below meth c H locs cells slots Q g q := fun T hT X => kk T hT (stand_widen X h1 h2)
theorem vx_out {pc : Nat} {E : String} {ce : Cell} {q : Addr} {mc ms : Nat} (hout : ∀ x ∈ c.exceptionTable.toList, covers x pc = false) (hlocks : meth.locks = false) (hcell : H[q]? = some ce) (hv : ce.vm = .none) (hcl : s.vm.findClass E = some ce.cls)
    (hx : ∀ t : State, t.heap = H → s.vm.Alike t.vm → XC E s t) (hf : ∀ z ∈ locs, free z.base) (hc : cells ≤ mc) (hs : slots ≤ ms) :
    vx_W p l e R s m args below meth c H locs cells slots (vx_MQ below Qc XC args s mc ms free) (F0 m pc ls rest) q := by
  intro T hT X
  obtain ⟨st1, hrun, hend, hW, hsm⟩ := X.leaveThrown q (g := F0 m pc ls rest) rfl rfl rfl hout hlocks
  have hcell9 : (T.setFrames (.throwing q :: below)).heap[q]? = some ce := by
    show T.heap[q]? = some ce
    rw [hT]; exact hcell
  exact ⟨_, st1, .threw q, hrun, hend, Or.inr ⟨q, rfl, E, ce, locs, hx _ hT hW.alike, hcell9, hv, hcl, hW, hsm.mono hc hs, hf⟩⟩
theorem vx_frame {U : State} {k n : Nat} (h : s.sameButNew ({ U with vm := s.vm } : State) locs k n) : s.heap.size ≤ U.heap.size ∧ ∀ q : Nat, q < s.heap.size → (∀ z ∈ locs, z.base ≠ q) → U.heap[q]? = s.heap[q]? := by
  obtain ⟨-, h2, -, -, -, h6⟩ := h
  refine ⟨h2, fun q hq hz => ?_⟩
  obtain ⟨c9, e1, e2, e3, e4⟩ := h6 q _ (Array.getElem?_eq_getElem hq)
  have hs : c9.slots = (s.heap[q]).slots := Array.ext_getElem? fun i => e4 i fun hm => hz _ hm rfl
  have h9 : c9 = s.heap[q] := by
    rw [hs] at e2
    exact e2
  have e5 : U.heap[q]? = some c9 := e1
  rw [e5, h9, Array.getElem?_eq_getElem hq]
/-- the words of a throw but the four that speak of the heap -/
def vx_no (w : Cond) : Bool := decide (w ≠ .isRef (.static Bundle.tN "UNASSIGNED_STACK" Bundle.steD)) && decide (w ≠ .isRef (.static Bundle.tN "SUPPRESSED_SENTINEL" Bundle.listD)) && decide (w ≠ .laysStatic Bundle.tN "UNASSIGNED_STACK" Bundle.steD) && decide (w ≠ .laysStatic Bundle.tN "SUPPRESSED_SENTINEL" Bundle.listD)
def vx_at0 (own : String) (ic : Nat) (X : String) (names : List String) : List Cond := (Bundle.ownAtoms0 own ic X names).filter vx_no
def vx_atS (own : String) (ic : Nat) (X : String) (names : List String) : List Cond := (Bundle.ownAtoms own ic X names).filter vx_no
/-- a word that the tables alone decide, or a good one -/
def vx_ot (w : Cond) : Bool := w.onTables || goodWord w
theorem vx_ot_at {args a' : Array Value} {s U : State} {w : Cond} (hW : s.WarmedH U.vm) (hvm : s.vm = U.vm) (hg : vx_ot w = true) (h : w.before args s = true) : w.before a' U = true := by
  simp only [vx_ot, Bool.or_eq_true] at hg
  rcases hg with hg | hg
  · exact va_tabs hg hvm h
  · exact word_at hW (good_of_word hg) h
/-- a list's words: the good ones out of the method's own list, the others by premises of their own -/
theorem vx_hat {args : Array Value} {s : State} {L B : List Cond} (h1 : ∀ w ∈ L.filter goodWord, w.before args s = true) (h2 : ∀ w ∈ L.filter (fun w => !goodWord w), w ∈ B) (h3 : ∀ w ∈ B, w.before args s = true) : ∀ w ∈ L, w.before args s = true := by
  intro w hw
  by_cases g : goodWord w = true
  · exact h1 w (List.mem_filter.mpr ⟨hw, g⟩)
  · refine h3 w (h2 w (List.mem_filter.mpr ⟨hw, ?_⟩))
    show (!goodWord w) = true
    cases hgw : goodWord w
    · rfl
    · exact absurd hgw g
theorem vx_c {args : Array Value} {s : State} {w : Cond} {B : List Cond} (h : w.before args s = true) (t : ∀ w ∈ B, w.before args s = true) : ∀ w' ∈ w :: B, w'.before args s = true := fun w' h' => (List.mem_cons.mp h').elim (fun e => by rw [e]; exact h) (t w')
theorem vx_n {args : Array Value} {s : State} : ∀ w ∈ ([] : List Cond), w.before args s = true := fun _ h => nomatch h
theorem vx_own {args : Array Value} {s : State} {L : List Cond} (h1 : ∀ w ∈ L.filter vx_no, w.before args s = true)
    (hU : (Cond.isRef (.static Bundle.tN "UNASSIGNED_STACK" Bundle.steD)).before args s = true) (hN : (Cond.isRef (.static Bundle.tN "SUPPRESSED_SENTINEL" Bundle.listD)).before args s = true)
    (lU : (Cond.laysStatic Bundle.tN "UNASSIGNED_STACK" Bundle.steD).before args s = true) (lN : (Cond.laysStatic Bundle.tN "SUPPRESSED_SENTINEL" Bundle.listD).before args s = true) : ∀ w ∈ L, w.before args s = true := by
  intro w hw
  by_cases e1 : w = .isRef (.static Bundle.tN "UNASSIGNED_STACK" Bundle.steD)
  · rw [e1]; exact hU
  · by_cases e2 : w = .isRef (.static Bundle.tN "SUPPRESSED_SENTINEL" Bundle.listD)
    · rw [e2]; exact hN
    · by_cases e3 : w = .laysStatic Bundle.tN "UNASSIGNED_STACK" Bundle.steD
      · rw [e3]; exact lU
      · by_cases e4 : w = .laysStatic Bundle.tN "SUPPRESSED_SENTINEL" Bundle.listD
        · rw [e4]; exact lN
        · exact h1 w (List.mem_filter.mpr ⟨hw, by unfold vx_no; rw [decide_eq_true e1, decide_eq_true e2, decide_eq_true e3, decide_eq_true e4]; rfl⟩)
/-- where a static field lies, its class's statics cell in H -/
def vx_L (C n d : String) (A : Nat → Prop) (U : State) (H : Heap) : Prop := ∃ (c : ClassId) (k : Class) (i : Nat) (f : Field) (a : Nat) (cell : Cell), U.vm.findClass C = some c ∧ U.fieldFound? C n d = some (c, k, i, f) ∧ f.isStatic = true ∧ k.statics = some a ∧ H[a]? = some cell ∧ cell.vm.isStatics = true ∧ cell.cls = c ∧ f.slot < cell.slots.size ∧ k.staticTypes[f.slot]? = some f.type ∧ ¬ A a
theorem vx_L.moved {C n d : String} {A : Nat → Prop} {u U : State} {H : Heap} (hvm : u.vm.Alike U.vm) (h : vx_L C n d A u H) : vx_L C n d A U H := by
  obtain ⟨c, k, i, f, a, cell, h1, h2, h3, h4, h5, h6, h7, h8, h9, h10⟩ := h
  obtain ⟨k', hi', he⟩ := State.fieldFound?_setVm hvm h2
  exact ⟨c, k', i, f, a, cell, by rw [hvm.findClass]; exact h1, hi', h3, by rw [he]; exact h4, h5, h6, h7, h8, by rw [he]; exact h9, h10⟩
theorem vx_L.kept {C n d : String} {A : Nat → Prop} {U : State} {H H1 : Heap} (h : vx_L C n d A U H) (hq : ∀ a : Nat, a < H.size → ¬ A a → H1[a]? = H[a]?) : vx_L C n d A U H1 := by
  obtain ⟨c, k, i, f, a, cell, h1, h2, h3, h4, h5, h6, h7, h8, h9, h10⟩ := h
  exact ⟨c, k, i, f, a, cell, h1, h2, h3, h4, by rw [hq a (Array.getElem?_eq_some_iff.mp h5).1 h10]; exact h5, h6, h7, h8, h9, h10⟩
theorem vx_L.narrow {C n d : String} {A B : Nat → Prop} {U : State} {H : Heap} (h : vx_L C n d A U H) (hAB : ∀ q, B q → A q) : vx_L C n d B U H := by
  obtain ⟨c, k, i, f, a, cell, h1, h2, h3, h4, h5, h6, h7, h8, h9, h10⟩ := h
  exact ⟨c, k, i, f, a, cell, h1, h2, h3, h4, h5, h6, h7, h8, h9, fun z => h10 (hAB _ z)⟩
theorem vx_L.word {C n d : String} {A : Nat → Prop} {s : State} {args : Array Value} (h : vx_L C n d A s s.heap) : (Cond.laysStatic C n d).before args s = true := by
  obtain ⟨c, k, i, f, a, cell, h1, h2, h3, h4, h5, h6, h7, h8, h9, -⟩ := h
  show (Cond.laysStatic C n d).holds args s none s [] = true
  exact Cond.laysStatic_of h1 h2 h3 h4 h5 h6 h7 h8 h9
/-- .. and what it holds: null or some reference -/
def vx_Zq (C n d : String) (A : Nat → Prop) (U : State) (H : Heap) : Prop := va_Zq C n d A U H ∧ vx_L C n d A U H
theorem vx_Zq.moved {C n d : String} {A : Nat → Prop} {u U : State} {H : Heap} (hvm : u.vm.Alike U.vm) (h : vx_Zq C n d A u H) : vx_Zq C n d A U H := ⟨va_Zq.moved hvm h.1, vx_L.moved hvm h.2⟩
theorem vx_Zq.kept {C n d : String} {A : Nat → Prop} {U : State} {H H1 : Heap} (h : vx_Zq C n d A U H) (hq : ∀ a : Nat, a < H.size → ¬ A a → H1[a]? = H[a]?) : vx_Zq C n d A U H1 := ⟨va_Zq.kept h.1 hq, vx_L.kept h.2 hq⟩
theorem vx_Zq.narrow {C n d : String} {A B : Nat → Prop} {U : State} {H : Heap} (h : vx_Zq C n d A U H) (hAB : ∀ q, B q → A q) : vx_Zq C n d B U H := ⟨va_Zq.narrow h.1 hAB, vx_L.narrow h.2 hAB⟩
theorem vx_Zqof {args : Array Value} {s : State} {C n d : String} {A : Nat → Prop} (hl : (Cond.laysStatic C n d).before args s = true) (hini : (Cond.initialized C).before args s = true) (h : (Cond.isRef (.static C n d)).before args s = true) (hA : ∀ a : Nat, a < s.heap.size → ¬ A a) : vx_Zq C n d A s s.heap := by
  refine ⟨va_Zqof hl hini h hA, ?_⟩
  obtain ⟨c, k, i, f, a, cell, h1, h2, h3, h4, h5, h6, h7, h8, h9⟩ := Cond.laysStatic_spec hl
  exact ⟨c, k, i, f, a, cell, h1, h2, h3, h4, h5, h6, h7, h8, h9, hA a (Array.getElem?_eq_some_iff.mp h5).1⟩
theorem vx_isRef {C n d : String} {v : Value} {A : Nat → Prop} {s : State} {args : Array Value} (h : va_Z C n d v A s s.heap) (hv : v.isRef = true) : (Cond.isRef (.static C n d)).before args s = true := by
  obtain ⟨cf, kf, fi, f, a, cell, h1, h2, h3, h4, h5, h6, h7, -⟩ := h
  have he : (Term.static C n d).eval args s none [] s = some v := by
    simp [Term.eval, State.fieldNamed?, h1, h2, h4, h5, h6, h7]
  simp only [Cond.before, Cond.holds, Cond.value, he]
  cases v <;> simp_all [Value.isRef]
theorem vx_isRefq {C n d : String} {A : Nat → Prop} {s : State} {args : Array Value} (h : va_Zq C n d A s s.heap) : (Cond.isRef (.static C n d)).before args s = true := by
  rcases h with h | ⟨t, h⟩
  · exact vx_isRef h rfl
  · exact vx_isRef h rfl
/-- the same frame, seen from here: as if the method were called anew in this heap -/
theorem vx_rebase {T : State} (X : Stand p l e R s m args below meth c T locs cells slots) {R' : Room} (hf : R'.frames ≤ R.frames) (hl : R'.locals ≤ R.locals) (hc : cells + R'.cells ≤ R.cells) (hs : slots + R'.slots ≤ R.slots) :
    Stand p l e R' ((T.setVm s.vm).setFrames (.invoking m args :: below)) m args below meth c T [] 0 0 := by
  have htop : (T.setVm s.vm).topJava?.isSome := X.here.top
  have hF : ((T.setVm s.vm).setFrames (.invoking m args :: below)).frames = .invoking m args :: below := State.frames_setFrames _ (State.cur_lt_of_top htop)
  obtain ⟨g₀, hg0⟩ := Option.isSome_iff_exists.mp htop
  obtain ⟨r, hr⟩ := State.topJava?_eq_some.mp hg0
  have hl9 : e.platform.stackLimits (T.setVm s.vm).me = e.platform.stackLimits s.me := X.limits
  have hb9 : (T.setVm s.vm).me.stackBytes = s.me.stackBytes := X.bytes
  refine ⟨X.admits, X.cas, X.clock, hF, ?_, X.hears, X.method, X.code, X.here, X.tail, X.warmed, ?_, ?_, ?_⟩
  · have h := X.room
    have hU : ((T.setVm s.vm).setFrames (.invoking m args :: below)).localsInUse = s.localsInUse := by
      rw [State.localsInUse_invoking hF (meth := meth) (c := c) X.method X.code, State.localsInUse_invoking X.frames X.method X.code]
    simp only [State.hasRoom, Bool.and_eq_true, decide_eq_true_eq] at h ⊢
    obtain ⟨⟨⟨⟨h1, h2, h3, h4, h5, h6⟩, h7⟩, h8⟩, h9⟩ := h
    rw [X.frames, List.length_cons] at h2 h3
    have q1 := X.heapSize
    have q2 := X.used
    simp only [hF, hU, List.length_cons, State.stackLimits_setFrames, State.stackBytes_setFrames, hl9, hb9]
    refine ⟨⟨⟨⟨by omega, by omega, by omega, by omega, by omega, h6⟩, ?_⟩, ?_⟩, X.book⟩
    · show T.heap.size + R'.cells ≤ e.platform.maxCells
      omega
    · show T.slotsUsed + R'.slots ≤ e.platform.maxSlots
      omega
  · rw [State.stackLimits_setFrames]; rfl
  · rw [State.stackBytes_setFrames]; rfl
  · refine ⟨?_, Nat.le_refl _, Nat.le_refl _, ?_, ?_, fun a c9 h9 => ⟨c9, h9, rfl, rfl, fun _ _ => rfl⟩⟩
    · obtain ⟨t, ht, -⟩ := State.frames_cons hr
      show T.setVm s.vm = { ((T.setVm s.vm).setFrames (.invoking m args :: below)).setFrames (T.setVm s.vm).frames with heap := T.heap, slotsUsed := T.slotsUsed }
      rw [State.setFrames_setFrames, State.setFrames_self ht]
      rfl
    · show T.slotsUsed = T.slotsUsed + ((T.heap.toList.drop T.heap.size).map (·.slots.size)).sum
      rw [List.drop_eq_nil_of_le (Nat.le_of_eq Array.length_toList)]
      rfl
    · show ((T.heap.toList.drop T.heap.size).map (·.slots.size)).sum ≤ 0
      rw [List.drop_eq_nil_of_le (Nat.le_of_eq Array.length_toList)]
      exact Nat.le_refl _
/-- 'throw new E()': new; dup; invokespecial; athrow -/
theorem vx_throw0 {cc : ByteArray} {pc : Nat} (hexec : p.tables.exec = Jvm.exec) (hb : c.code = cc) (hl : l.stackTraces = false) {own cls : String} {names : List String} {ik ic mc ms : Nat} {A : Nat → Prop}
    (hown : s.vm.findClass own = some m.cls) (hcls : Bundle.fit cls = true) (hnames : ∀ n ∈ names, Bundle.fit n = true)
    (hk : (Cond.classLink own ik cls).before args s = true) (hini : (Cond.initialized cls).before args s = true) (hat : ∀ w ∈ vx_at0 own ic cls names, w.before args s = true)
    (hgood : ∀ w ∈ Cond.classLink own ik cls :: Cond.initialized cls :: vx_at0 own ic cls names, vx_ot w = true)
    (hU : vx_Zq Bundle.tN "UNASSIGNED_STACK" Bundle.steD A s s.heap) (hN : vx_Zq Bundle.tN "SUPPRESSED_SENTINEL" Bundle.listD A s s.heap) (hS : va_S A s.heap H locs) (hsize : ls.size = c.maxLocals)
    (d0 : decode cc pc = .ok (.new ik, 3)) (d3 : decode cc (pc + 3) = .ok (.dup, 1)) (d4 : decode cc (pc + 4) = .ok (.invokespecial ic, 3)) (d7 : decode cc (pc + 7) = .ok (.athrow, 1))
    (hout : ∀ x ∈ c.exceptionTable.toList, covers x (pc + 7) = false)
    (hRframes : names.length + 3 < R.frames) (hRlocals : (rest.map fun v => v.category).sum + (13 * (names.length + 1) + 42) ≤ R.locals) (hRcells : cells + 1 ≤ R.cells) (hRslots : slots + 6 ≤ R.slots) (hlocks : meth.locks = false)
    (hx : ∀ t : State, s.vm.Alike t.vm → H.size ≤ t.heap.size → (∀ q : Nat, q < H.size → t.heap[q]? = H[q]?) → XC cls s t)
    (hf : ∀ z ∈ locs, free z.base) (hc : cells + 1 ≤ mc) (hs : slots + 6 ≤ ms) :
    W p l e R s m args below meth c H locs cells slots (vx_MQ below Qc XC args s mc ms free) (F0 m pc ls rest) := by
  intro T hT X
  have htr : e.platform.stackTraces = false := (show e.platform.stackTraces = l.stackTraces by rw [X.admits.platform]).trans hl
  have Y := vx_rebase X (R' := { frames := R.frames, locals := R.locals, cells := 1, slots := 6 }) (Nat.le_refl _) (Nat.le_refl _) hRcells hRslots
  obtain ⟨s', hA⟩ : ∃ z, z = (T.setVm s.vm).setFrames (.invoking m args :: below) := ⟨_, rfl⟩
  rw [← hA] at Y
  have hvm : s'.vm = s.vm := by rw [hA]; rfl
  have hhp : s'.heap = H := by rw [hA]; exact hT
  have hW0 : s.WarmedH s'.vm := by rw [hvm]; exact State.WarmedH.refl s
  have hat' : ∀ w ∈ vx_at0 own ic cls names, w.before args s' = true := fun w hw => vx_ot_at hW0 hvm.symm (hgood w (List.mem_cons_of_mem _ (List.mem_cons_of_mem _ hw))) (hat w hw)
  have hk' : (Cond.classLink own ik cls).before args s' = true := vx_ot_at hW0 hvm.symm (hgood _ List.mem_cons_self) hk
  have hini' : (Cond.initialized cls).before args s' = true := vx_ot_at hW0 hvm.symm (hgood _ (List.mem_cons_of_mem _ List.mem_cons_self)) hini
  have hU' : vx_Zq Bundle.tN "UNASSIGNED_STACK" Bundle.steD A s' s'.heap := by rw [hhp]; exact vx_Zq.moved hW0.alike (hU.kept hS.2.1)
  have hN' : vx_Zq Bundle.tN "SUPPRESSED_SENTINEL" Bundle.listD A s' s'.heap := by rw [hhp]; exact vx_Zq.moved hW0.alike (hN.kept hS.2.1)
  have h : ∀ w ∈ Bundle.ownAtoms0 own ic cls names, w.before args s' = true := vx_own hat' (vx_isRefq hU'.1) (vx_isRefq hN'.1) hU'.2.word hN'.2.word
  have hown' : s'.vm.findClass own = some m.cls := by rw [hvm]; exact hown
  have hins : (Cond.instantiable cls 6).before args s' = true := h _ (by simp [Bundle.ownAtoms0])
  obtain ⟨vm₁, cX, kX, hfX, hkX, -, -, X₁, st1⟩ := Y.newCold hexec (own := own) (C := cls) (index := ik) (n := 6) hown' hk' hins hini'
    (g := F0 m pc ls rest) rfl (by rw [hb]; exact d0) (Nat.le_refl _) (Nat.le_refl _)
  generalize hT1 : (T.setVm vm₁).pushCell { cls := cX, slots := kX.instanceTypes.map defaultValue, vm := .none } = T1 at X₁ st1
  have hcat : (Value.ref T.heap.size).category = 1 := rfl
  have hcellA : T1.heap[T.heap.size]? = some (freshCell cX kX) := by rw [← hT1]; exact State.heap_pushCell_size _ _
  have d3' : decode c.code (pc + 3) = .ok (.dup, 1) := by rw [hb]; exact d3
  obtain ⟨U, hsteps, hrun, hend, hW, hsame, ce, hce, hO⟩ := X₁.ctorThrow0 hexec htr (own := own) (cls := cls) (names := names) (ic := ic) hown' hcls hnames h (fun x hx => nomatch hx) hfX hkX hcellA (by rw [hhp, hT]; exact Nat.le_refl _)
    (g := { method := m, pc := pc + 4, locals := ls, stack := .ref T.heap.size :: .ref T.heap.size :: rest, locked := none }) rfl hsize rfl rfl (rest := rest) rfl
    (by rw [hb]; exact d4) (by rw [hb]; exact d7) hout hRframes (by simp only [List.map_cons, List.sum_cons, hcat]; omega) hlocks
  obtain ⟨f1, f2⟩ := vx_frame hsame
  rw [hhp] at f1 f2
  have hWs : s.WarmedH U.vm := State.WarmedH.trans hW0 hW
  have hcl : s.vm.findClass cls = some ce.cls := by
    have h9 := hO.cls
    rw [hvm] at h9
    exact h9
  have hall : s.sameButNew ({ U with vm := s.vm } : State) locs mc ms := by
    subst hA
    obtain ⟨e1, e2⟩ := hsame
    rw [State.setFrames_setFrames] at e1
    have h2 : (T.setVm s.vm).sameButNew ({ U with vm := s.vm } : State) [] (0 + 1) (0 + 6) := ⟨e1, e2⟩
    have h3 := X.same.trans h2
    rw [List.append_nil] at h3
    exact h3.mono hc hs
  refine ⟨U, ?_, .threw T.heap.size, hrun, hend, Or.inr ⟨T.heap.size, rfl, cls, ce, locs, hx U hWs.alike f1 (fun q hq => f2 q hq (fun z hz => nomatch hz)), hce, hO.vm, hcl, hWs, hall, hf⟩⟩
  refine st1 _ ?_
  show Steps p.tables e below (T1.setTop { method := m, pc := pc + 3, locals := ls, stack := .ref T.heap.size :: rest, locked := none }) _
  jvm_step X₁.here [X₁.here.top, hexec, d3', Value.category]
  exact hsteps
/-- 'throw new E("text")': new; dup; ldc; invokespecial; athrow -/
theorem vx_throwS {cc : ByteArray} {pc : Nat} (hexec : p.tables.exec = Jvm.exec) (hb : c.code = cc) (hl : l.stackTraces = false) {own cls text : String} {names : List String} {ik is ic mc ms sa : Nat} {A : Nat → Prop}
    (hown : s.vm.findClass own = some m.cls) (hcls : Bundle.fit cls = true) (hnames : ∀ n ∈ names, Bundle.fit n = true)
    (hk : (Cond.classLink own ik cls).before args s = true) (hini : (Cond.initialized cls).before args s = true) (hstr : vk_R own is text sa s) (hat : ∀ w ∈ vx_atS own ic cls names, w.before args s = true)
    (hgood : ∀ w ∈ Cond.classLink own ik cls :: Cond.initialized cls :: vx_atS own ic cls names, vx_ot w = true)
    (hU : vx_Zq Bundle.tN "UNASSIGNED_STACK" Bundle.steD A s s.heap) (hN : vx_Zq Bundle.tN "SUPPRESSED_SENTINEL" Bundle.listD A s s.heap) (hS : va_S A s.heap H locs) (hsize : ls.size = c.maxLocals)
    (d0 : decode cc pc = .ok (.new ik, 3)) (d3 : decode cc (pc + 3) = .ok (.dup, 1)) (d4 : decode cc (pc + 4) = .ok (.ldc is, 2)) (d6 : decode cc (pc + 6) = .ok (.invokespecial ic, 3)) (d9 : decode cc (pc + 9) = .ok (.athrow, 1))
    (hout : ∀ x ∈ c.exceptionTable.toList, covers x (pc + 9) = false)
    (hRframes : names.length + 3 < R.frames) (hRlocals : (rest.map fun v => v.category).sum + (13 * (names.length + 1) + 43) ≤ R.locals) (hRcells : cells + 1 ≤ R.cells) (hRslots : slots + 6 ≤ R.slots) (hlocks : meth.locks = false)
    (hx : ∀ t : State, s.vm.Alike t.vm → H.size ≤ t.heap.size → (∀ q : Nat, q < H.size → t.heap[q]? = H[q]?) → XC cls s t)
    (hf : ∀ z ∈ locs, free z.base) (hc : cells + 1 ≤ mc) (hs : slots + 6 ≤ ms) :
    W p l e R s m args below meth c H locs cells slots (vx_MQ below Qc XC args s mc ms free) (F0 m pc ls rest) := by
  intro T hT X
  have htr : e.platform.stackTraces = false := (show e.platform.stackTraces = l.stackTraces by rw [X.admits.platform]).trans hl
  have Y := vx_rebase X (R' := { frames := R.frames, locals := R.locals, cells := 1, slots := 6 }) (Nat.le_refl _) (Nat.le_refl _) hRcells hRslots
  obtain ⟨s', hA⟩ : ∃ z, z = (T.setVm s.vm).setFrames (.invoking m args :: below) := ⟨_, rfl⟩
  rw [← hA] at Y
  have hvm : s'.vm = s.vm := by rw [hA]; rfl
  have hhp : s'.heap = H := by rw [hA]; exact hT
  have hW0 : s.WarmedH s'.vm := by rw [hvm]; exact State.WarmedH.refl s
  have hat' : ∀ w ∈ vx_atS own ic cls names, w.before args s' = true := fun w hw => vx_ot_at hW0 hvm.symm (hgood w (List.mem_cons_of_mem _ (List.mem_cons_of_mem _ hw))) (hat w hw)
  have hk' : (Cond.classLink own ik cls).before args s' = true := vx_ot_at hW0 hvm.symm (hgood _ List.mem_cons_self) hk
  have hini' : (Cond.initialized cls).before args s' = true := vx_ot_at hW0 hvm.symm (hgood _ (List.mem_cons_of_mem _ List.mem_cons_self)) hini
  have hU' : vx_Zq Bundle.tN "UNASSIGNED_STACK" Bundle.steD A s' s'.heap := by rw [hhp]; exact vx_Zq.moved hW0.alike (hU.kept hS.2.1)
  have hN' : vx_Zq Bundle.tN "SUPPRESSED_SENTINEL" Bundle.listD A s' s'.heap := by rw [hhp]; exact vx_Zq.moved hW0.alike (hN.kept hS.2.1)
  have h : ∀ w ∈ Bundle.ownAtoms own ic cls names, w.before args s' = true := vx_own hat' (vx_isRefq hU'.1) (vx_isRefq hN'.1) hU'.2.word hN'.2.word
  have hown' : s'.vm.findClass own = some m.cls := by rw [hvm]; exact hown
  have hins : (Cond.instantiable cls 6).before args s' = true := h _ (by simp [Bundle.ownAtoms])
  obtain ⟨vm₁, cX, kX, hfX, hkX, -, -, X₁, st1⟩ := Y.newCold hexec (own := own) (C := cls) (index := ik) (n := 6) hown' hk' hins hini'
    (g := F0 m pc ls rest) rfl (by rw [hb]; exact d0) (Nat.le_refl _) (Nat.le_refl _)
  generalize hT1 : (T.setVm vm₁).pushCell { cls := cX, slots := kX.instanceTypes.map defaultValue, vm := .none } = T1 at X₁ st1
  have hcat : (Value.ref T.heap.size).category = 1 := rfl
  have hcellA : T1.heap[T.heap.size]? = some (freshCell cX kX) := by rw [← hT1]; exact State.heap_pushCell_size _ _
  have d3' : decode c.code (pc + 3) = .ok (.dup, 1) := by rw [hb]; exact d3
  have d4' : decode c.code (pc + 4) = .ok (.ldc is, 2) := by rw [hb]; exact d4
  have hstr' : vk_R own is text sa s' := vk_R.warm hW0 hstr
  obtain ⟨U, hsteps, hrun, hend, hW, hsame, ce, hce, hO⟩ := X₁.ctorThrowS hexec htr (own := own) (cls := cls) (names := names) (ic := ic) hown' hcls hnames h (fun x hx => nomatch hx) hfX hkX hcellA (by rw [hhp, hT]; exact Nat.le_refl _) (msg := .ref sa) rfl
    (g := { method := m, pc := pc + 6, locals := ls, stack := .ref sa :: .ref T.heap.size :: .ref T.heap.size :: rest, locked := none }) rfl hsize rfl rfl (rest := rest) rfl
    (by rw [hb]; exact d6) (by rw [hb]; exact d9) hout hRframes (by simp only [List.map_cons, List.sum_cons, hcat]; omega) hlocks
  obtain ⟨f1, f2⟩ := vx_frame hsame
  rw [hhp] at f1 f2
  have hWs : s.WarmedH U.vm := State.WarmedH.trans hW0 hW
  have hcl : s.vm.findClass cls = some ce.cls := by
    have h9 := hO.cls
    rw [hvm] at h9
    exact h9
  have hall : s.sameButNew ({ U with vm := s.vm } : State) locs mc ms := by
    subst hA
    obtain ⟨e1, e2⟩ := hsame
    rw [State.setFrames_setFrames] at e1
    have h2 : (T.setVm s.vm).sameButNew ({ U with vm := s.vm } : State) [] (0 + 1) (0 + 6) := ⟨e1, e2⟩
    have h3 := X.same.trans h2
    rw [List.append_nil] at h3
    exact h3.mono hc hs
  refine ⟨U, ?_, .threw T.heap.size, hrun, hend, Or.inr ⟨T.heap.size, rfl, cls, ce, locs, hx U hWs.alike f1 (fun q hq => f2 q hq (fun z hz => nomatch hz)), hce, hO.vm, hcl, hWs, hall, hf⟩⟩
  refine st1 _ ?_
  show Steps p.tables e below (T1.setTop { method := m, pc := pc + 3, locals := ls, stack := .ref T.heap.size :: rest, locked := none }) _
  jvm_step X₁.here [X₁.here.top, hexec, d3', Value.category]
  exact X₁.ldcString hexec (own := own) (text := text) (index := is) (a := sa) hown' hstr'.1 hstr'.2
    (g := { method := m, pc := pc + 4, locals := ls, stack := .ref T.heap.size :: .ref T.heap.size :: rest, locked := none }) rfl d4' _ hsteps
/-- 'throw new E("text")', the text by a wide index -/
theorem vx_throwSW {cc : ByteArray} {pc : Nat} (hexec : p.tables.exec = Jvm.exec) (hb : c.code = cc) (hl : l.stackTraces = false) {own cls text : String} {names : List String} {ik is ic mc ms sa : Nat} {A : Nat → Prop}
    (hown : s.vm.findClass own = some m.cls) (hcls : Bundle.fit cls = true) (hnames : ∀ n ∈ names, Bundle.fit n = true)
    (hk : (Cond.classLink own ik cls).before args s = true) (hini : (Cond.initialized cls).before args s = true) (hstr : vk_R own is text sa s) (hat : ∀ w ∈ vx_atS own ic cls names, w.before args s = true)
    (hgood : ∀ w ∈ Cond.classLink own ik cls :: Cond.initialized cls :: vx_atS own ic cls names, vx_ot w = true)
    (hU : vx_Zq Bundle.tN "UNASSIGNED_STACK" Bundle.steD A s s.heap) (hN : vx_Zq Bundle.tN "SUPPRESSED_SENTINEL" Bundle.listD A s s.heap) (hS : va_S A s.heap H locs) (hsize : ls.size = c.maxLocals)
    (d0 : decode cc pc = .ok (.new ik, 3)) (d3 : decode cc (pc + 3) = .ok (.dup, 1)) (d4 : decode cc (pc + 4) = .ok (.ldc_w is, 3)) (d7 : decode cc (pc + 7) = .ok (.invokespecial ic, 3)) (d10 : decode cc (pc + 10) = .ok (.athrow, 1))
    (hout : ∀ x ∈ c.exceptionTable.toList, covers x (pc + 10) = false)
    (hRframes : names.length + 3 < R.frames) (hRlocals : (rest.map fun v => v.category).sum + (13 * (names.length + 1) + 43) ≤ R.locals) (hRcells : cells + 1 ≤ R.cells) (hRslots : slots + 6 ≤ R.slots) (hlocks : meth.locks = false)
    (hx : ∀ t : State, s.vm.Alike t.vm → H.size ≤ t.heap.size → (∀ q : Nat, q < H.size → t.heap[q]? = H[q]?) → XC cls s t)
    (hf : ∀ z ∈ locs, free z.base) (hc : cells + 1 ≤ mc) (hs : slots + 6 ≤ ms) :
    W p l e R s m args below meth c H locs cells slots (vx_MQ below Qc XC args s mc ms free) (F0 m pc ls rest) := by
  intro T hT X
  have htr : e.platform.stackTraces = false := (show e.platform.stackTraces = l.stackTraces by rw [X.admits.platform]).trans hl
  have Y := vx_rebase X (R' := { frames := R.frames, locals := R.locals, cells := 1, slots := 6 }) (Nat.le_refl _) (Nat.le_refl _) hRcells hRslots
  obtain ⟨s', hA⟩ : ∃ z, z = (T.setVm s.vm).setFrames (.invoking m args :: below) := ⟨_, rfl⟩
  rw [← hA] at Y
  have hvm : s'.vm = s.vm := by rw [hA]; rfl
  have hhp : s'.heap = H := by rw [hA]; exact hT
  have hW0 : s.WarmedH s'.vm := by rw [hvm]; exact State.WarmedH.refl s
  have hat' : ∀ w ∈ vx_atS own ic cls names, w.before args s' = true := fun w hw => vx_ot_at hW0 hvm.symm (hgood w (List.mem_cons_of_mem _ (List.mem_cons_of_mem _ hw))) (hat w hw)
  have hk' : (Cond.classLink own ik cls).before args s' = true := vx_ot_at hW0 hvm.symm (hgood _ List.mem_cons_self) hk
  have hini' : (Cond.initialized cls).before args s' = true := vx_ot_at hW0 hvm.symm (hgood _ (List.mem_cons_of_mem _ List.mem_cons_self)) hini
  have hU' : vx_Zq Bundle.tN "UNASSIGNED_STACK" Bundle.steD A s' s'.heap := by rw [hhp]; exact vx_Zq.moved hW0.alike (hU.kept hS.2.1)
  have hN' : vx_Zq Bundle.tN "SUPPRESSED_SENTINEL" Bundle.listD A s' s'.heap := by rw [hhp]; exact vx_Zq.moved hW0.alike (hN.kept hS.2.1)
  have h : ∀ w ∈ Bundle.ownAtoms own ic cls names, w.before args s' = true := vx_own hat' (vx_isRefq hU'.1) (vx_isRefq hN'.1) hU'.2.word hN'.2.word
  have hown' : s'.vm.findClass own = some m.cls := by rw [hvm]; exact hown
  have hins : (Cond.instantiable cls 6).before args s' = true := h _ (by simp [Bundle.ownAtoms])
  obtain ⟨vm₁, cX, kX, hfX, hkX, -, -, X₁, st1⟩ := Y.newCold hexec (own := own) (C := cls) (index := ik) (n := 6) hown' hk' hins hini'
    (g := F0 m pc ls rest) rfl (by rw [hb]; exact d0) (Nat.le_refl _) (Nat.le_refl _)
  generalize hT1 : (T.setVm vm₁).pushCell { cls := cX, slots := kX.instanceTypes.map defaultValue, vm := .none } = T1 at X₁ st1
  have hcat : (Value.ref T.heap.size).category = 1 := rfl
  have hcellA : T1.heap[T.heap.size]? = some (freshCell cX kX) := by rw [← hT1]; exact State.heap_pushCell_size _ _
  have d3' : decode c.code (pc + 3) = .ok (.dup, 1) := by rw [hb]; exact d3
  have d4' : decode c.code (pc + 4) = .ok (.ldc_w is, 3) := by rw [hb]; exact d4
  have hstr' : vk_R own is text sa s' := vk_R.warm hW0 hstr
  obtain ⟨U, hsteps, hrun, hend, hW, hsame, ce, hce, hO⟩ := X₁.ctorThrowS hexec htr (own := own) (cls := cls) (names := names) (ic := ic) hown' hcls hnames h (fun x hx => nomatch hx) hfX hkX hcellA (by rw [hhp, hT]; exact Nat.le_refl _) (msg := .ref sa) rfl
    (g := { method := m, pc := pc + 7, locals := ls, stack := .ref sa :: .ref T.heap.size :: .ref T.heap.size :: rest, locked := none }) rfl hsize rfl rfl (rest := rest) rfl
    (by rw [hb]; exact d7) (by rw [hb]; exact d10) hout hRframes (by simp only [List.map_cons, List.sum_cons, hcat]; omega) hlocks
  obtain ⟨f1, f2⟩ := vx_frame hsame
  rw [hhp] at f1 f2
  have hWs : s.WarmedH U.vm := State.WarmedH.trans hW0 hW
  have hcl : s.vm.findClass cls = some ce.cls := by
    have h9 := hO.cls
    rw [hvm] at h9
    exact h9
  have hall : s.sameButNew ({ U with vm := s.vm } : State) locs mc ms := by
    subst hA
    obtain ⟨e1, e2⟩ := hsame
    rw [State.setFrames_setFrames] at e1
    have h2 : (T.setVm s.vm).sameButNew ({ U with vm := s.vm } : State) [] (0 + 1) (0 + 6) := ⟨e1, e2⟩
    have h3 := X.same.trans h2
    rw [List.append_nil] at h3
    exact h3.mono hc hs
  refine ⟨U, ?_, .threw T.heap.size, hrun, hend, Or.inr ⟨T.heap.size, rfl, cls, ce, locs, hx U hWs.alike f1 (fun q hq => f2 q hq (fun z hz => nomatch hz)), hce, hO.vm, hcl, hWs, hall, hf⟩⟩
  refine st1 _ ?_
  show Steps p.tables e below (T1.setTop { method := m, pc := pc + 3, locals := ls, stack := .ref T.heap.size :: rest, locked := none }) _
  jvm_step X₁.here [X₁.here.top, hexec, d3', Value.category]
  exact X₁.ldcStringW hexec (own := own) (text := text) (index := is) (a := sa) hown' hstr'.1 hstr'.2
    (g := { method := m, pc := pc + 4, locals := ls, stack := .ref T.heap.size :: .ref T.heap.size :: rest, locked := none }) rfl d4' _ hsteps
end Ends
section Bodies
variable {l : Launch}
theorem vx_ofW {y : MethodName} {ws ws' : List Cond} {rm : Room} {Pc : Array Value → State → Prop} {Qc : Array Value → State → Outcome → State → Prop} {XC : String → State → State → Prop} {mc ms : Nat} {free : Addr → Prop} {cc : ByteArray} {maxL : Nat} {ret : Option FieldType}
    (hy : plainName y.cls = true) (hw : ws = Cond.code y cc maxL ret :: ws')
    (body : ∀ p e s m args below meth c s₁, BodyLoose p l y (headSpec ws rm) cc maxL ret e s m args below meth c s₁ → c.maxLocals = maxL → (∀ x ∈ c.exceptionTable.toList, False) → Pc args s →
      W p l e (headSpec ws rm).room s m args below meth c s.heap [] 0 0 (vx_MQ below Qc XC args s mc ms free) (entryFrame m args maxL)) : vx_Met l y ws rm Pc Qc XC mc ms free := by
  refine MetFree.of_bodyS (code := cc) (maxLocals := maxL) (ret := ret) hy ?_ ?_
  · intro args s m h hn
    obtain ⟨meth, c, h1, h2, h3, h4, h5, h6, -, -⟩ := Cond.code_spec hn (atoms_spec (ws := ws) h _ (by rw [hw]; exact List.mem_cons_self))
    exact ⟨meth, c, h1, h2, h3, h4, h5, h6⟩
  · intro p e s m args below meth c s₁ B hml hP _
    have hh0 : s₁.heap = s.heap := by rw [B.state]; rfl
    have ht : ∀ x ∈ c.exceptionTable.toList, False := by
      obtain ⟨meth9, c9, h1, h2, -, -, -, -, h7, -⟩ := Cond.code_spec B.named (atoms_spec (ws := ws) B.pre _ (by rw [hw]; exact List.mem_cons_self))
      cases Option.some.inj (h1.symm.trans B.method)
      cases Option.some.inj (h2.symm.trans (Stand.of_body B).code)
      intro x hx
      rw [Array.isEmpty_iff.mp h7] at hx
      cases hx
    obtain ⟨t, a1, o, b1, b2, b3⟩ := body p e s m args below meth c s₁ B hml ht hP s₁ hh0 (Stand.of_body B)
    exact ⟨t, o, a1, b1, b2, b3⟩
/-- the table of a body with handlers -/
theorem vx_table {p : Program} {x y : MethodName} {S : Spec} {cc bytes : ByteArray} {maxL maxL' : Nat} {ret ret' : Option FieldType} {e : Env} {s s₁ : State} {m : MethodId} {args : Array Value} {below : List Frame} {meth : Method} {c : Code} {hh : List (Nat × Nat × Nat × Nat)}
    (B : BodyLoose p l y S cc maxL ret e s m args below meth c s₁) (h : (Cond.codeWith y bytes maxL' ret' hh).before args s = true) : c.exceptionTable.toList = tableOf hh := by
  obtain ⟨m9, meth9, c9, hn9, h1, h2, -, -, h6, -⟩ := Cond.codeWith_spec h
  cases Option.some.inj (hn9.symm.trans B.named)
  cases Option.some.inj (h1.symm.trans B.method)
  cases Option.some.inj (h2.symm.trans (Stand.of_body B).code)
  rw [← h6, table_eq]
end Bodies
end VXA
/-! ===== END ===== -/
/-! ===== BEGIN a static call of a method with an exception table ===== -/
section VXS
variable {p : Program} {l : Launch} {e : Env} {R : Room} {s : State} {m : MethodId} {args : Array Value} {below : List Frame} {meth : Method} {c : Code} {T : State} {H : Heap} {locs : List Loc} {cells slots : Nat}
abbrev vx_CSW (R : Room) (s : State) (args : Array Value) (own : String) (index : Nat) (y : MethodName) (bytes : ByteArray) (maxL : Nat) (ret : Option FieldType) (hh : List (Nat × Nat × Nat × Nat)) (ws : List Cond) (rm : Room) (mc ms n : Nat) : Prop :=
  (rm.cells = mc ∧ rm.slots = ms ∧ rm.frames + 1 ≤ R.frames ∧ 8 + (maxL + 11) + rm.locals ≤ R.locals ∧ (∀ w ∈ ws, ∀ (a' : Array Value) (U : State), s.WarmedH U.vm → w.before a' U = true) ∧ Cond.codeWith y bytes maxL ret hh ∈ ws) ∧
  (Cond.codeWith y bytes maxL ret hh).before args s = true ∧ (Cond.initialized y.cls).before args s = true ∧ (y.cls ≠ "java/lang/invoke/MethodHandle" ∧ y.cls ≠ "java/lang/invoke/VarHandle") ∧
  (∀ sig, parseMethodDescriptor y.desc = some sig → n = sig.parameters.length) ∧ (Cond.methodLink own index y).before args s = true ∧ (Cond.static y).before args s = true
theorem vx_cwSW {own : String} {index maxL mc ms : Nat} {y : MethodName} {bytes : ByteArray} {ret : Option FieldType} {hh : List (Nat × Nat × Nat × Nat)} {Ts ws ws' : List Cond} {rm : Room} (n : Nat) (ht : ∀ w ∈ Ts, w.before args s = true) (hT : GoodIn Ts (va_wsS own index y ws)) (hw : ws = Cond.codeWith y bytes maxL ret hh :: ws') (hrc : rm.cells = mc) (hrs : rm.slots = ms)
    (hd : y.cls ≠ "java/lang/invoke/MethodHandle" ∧ y.cls ≠ "java/lang/invoke/VarHandle" ∧ (parseMethodDescriptor y.desc).map (fun d => d.parameters.length) = some n) (hR : rm.frames + 1 ≤ R.frames ∧ 8 + (maxL + 11) + rm.locals ≤ R.locals) :
    vx_CSW R s args own index y bytes maxL ret hh ws rm mc ms n := by
  have ok : ∀ w ∈ va_wsS own index y ws, w.before args s = true := fun w h => ht w (hT w h).1
  have hG : GoodIn Ts ws := fun w h => hT w (by unfold va_wsS; exact List.mem_append_right _ h)
  have hc : Cond.codeWith y bytes maxL ret hh ∈ ws := by rw [hw]; exact List.mem_cons_self
  refine ⟨⟨hrc, hrs, hR.1, hR.2, pay_in ht hG, hc⟩, ht _ (hG _ hc).1, ok _ (by simp [va_wsS]), ⟨hd.1, hd.2.1⟩, fun sig h => ?_, ok _ (by simp [va_wsS]), ok _ (by simp [va_wsS])⟩
  have h2 := hd.2.2
  rw [h] at h2
  exact (Option.some.inj h2).symm
theorem vx_callSW (X : Stand p l e R s m args below meth c T locs cells slots) (hexec : p.tables.exec = Jvm.exec) {own : String} {index : Nat} {y : MethodName} {bytes : ByteArray} {maxL : Nat} {ret : Option FieldType} {hh : List (Nat × Nat × Nat × Nat)}
    (hown : s.vm.findClass own = some m.cls) (hlink : (Cond.methodLink own index y).before args s = true) (hstat : (Cond.static y).before args s = true) (hinit : (Cond.initialized y.cls).before args s = true)
    (hcode : (Cond.codeWith y bytes maxL ret hh).before args s = true) (hy : y.cls ≠ "java/lang/invoke/MethodHandle" ∧ y.cls ≠ "java/lang/invoke/VarHandle")
    {W9 : Nat} {Pre : Pt → Array Value → Prop} {Post : Pt → Array Value → Option Value → Pt → Prop} (hK : Back l R p e below s args y 3 W9 Pre Post)
    {g : JFrame} (hg : g.method = m) (hsize : g.locals.size = c.maxLocals) {argsL rest : List Value} (hlen : ∀ sig, parseMethodDescriptor y.desc = some sig → argsL.length = sig.parameters.length)
    (hstack : g.stack = argsL.reverse ++ rest) (hW : 2 * g.monitorRoom + (rest.map fun v => v.category).sum ≤ W9) (hdg : decode c.code g.pc = .ok (.invokestatic index, 3))
    (hpre : ∀ vm₁, s.WarmedH vm₁ → Pre ⟨T.setVm vm₁, locs, cells, slots⟩ argsL.toArray) :
    ∃ (v : Option Value) (vm₁ : Vm) (B : Pt), s.WarmedH vm₁ ∧ Stand p l e R s m args below meth c B.U B.locs B.cells B.slots ∧ Post ⟨T.setVm vm₁, locs, cells, slots⟩ argsL.toArray v B ∧
      ∀ target, Steps p.tables e below (B.U.setTop { g with pc := g.pc + 3, stack := v.toList ++ rest }) target → Steps p.tables e below (T.setTop g) target := by
  obtain ⟨mk, methM, cM, hnamed, hmethM, -, -, -, -, -, -, hsigM⟩ := Cond.codeWith_spec hcode
  have hstatic : methM.isStatic = true := Cond.static_spec hnamed hmethM hstat
  obtain ⟨kP, hkP, -⟩ := className_of_methodNamed hnamed
  have hinitP : kP.init = .initialized := Cond.initialized_spec (findClass_of_methodNamed hnamed) hkP hinit
  obtain ⟨vm₁, X₁, hstep₁⟩ := X.invokestatic hexec hown hlink hnamed hmethM hstatic hkP hinitP hy (g := g) hg (argsL := argsL) (rest := rest) (hlen _ hsigM) hstack hdg
  obtain ⟨v, B, X', hpost, hsteps⟩ := hK m meth c ⟨T.setVm vm₁, locs, cells, slots⟩ { g with stack := rest } (.invokestatic index) mk argsL.toArray X₁ hg hsize hdg hW (X₁.named hnamed) (hpre vm₁ X₁.warmed)
  exact ⟨v, vm₁, B, X₁.warmed, X', hpost, fun target h => hstep₁ _ fun acts => by rw [doInvoke_state]; exact hsteps.trans h⟩
theorem vx_runSW {y : MethodName} {bytes cc : ByteArray} {maxL nL mc ms n index : Nat} {ret : Option FieldType} {hh : List (Nat × Nat × Nat × Nat)} {ws : List Cond} {rm : Room} {Pc : Array Value → State → Prop} {Qc : Array Value → State → Outcome → State → Prop} {free : Addr → Prop} {Ts : List Cond} {own : String} {As rest : List Value} {g : JFrame}
    (S : CallFix p m c cc nL s args Ts own) (hM : Met l y ws rm Pc Qc mc ms free) (cw : vx_CSW R s args own index y bytes maxL ret hh ws rm mc ms n) (hp : PreS s H Pc As)
    (hg : g.method = m) (hn : As.length = n) (hsize : g.locals.size = nL) (hstack : g.stack = As.reverse ++ rest) (hW : 2 * g.monitorRoom + (rest.map fun v => v.category).sum ≤ 8) (hdg : decode cc g.pc = .ok (.invokestatic index, 3)) (hf : cells + mc ≤ R.cells ∧ slots + ms ≤ R.slots) :
    va_Run p l e R s m args below meth c H locs cells slots mc ms g rest (Qc As.toArray) (free) := by
  obtain ⟨⟨hrc, hrs, hfr, hlo, hws, hcw⟩, hcode, hini, hy, hlen, hl, hstt⟩ := cw
  have hK : Back l R p e below s args y 3 8 (PreOf R mc ms Pc) (PostOf Qc mc ms free) := va_backW (hh := hh) (bytes := bytes) (maxL := maxL) (ret := ret) hM hp.1 hrc hrs hfr hlo hws hcw (fun a' U hW => word_at hW (Or.inl (by first | rfl | simp [Cond.onTables, Cond.keeps, Cond.steady])) hini)
  obtain ⟨hx, hb, hml, ho, -⟩ := S
  intro T hT X
  obtain ⟨v, vm₁, ⟨U', l2, c2, s2⟩, hW₁, X', ⟨g', mk, t, L, e1, e2, hq, h1, hL, h2, h3⟩, st⟩ := vx_callSW X hx (hh := hh) (bytes := bytes) (maxL := maxL) (ret := ret) ho hl hstt hini hcode hy hK hg (hsize.trans hml.symm) (argsL := As) (rest := rest) (fun sig h => hn.trans (hlen sig h)) hstack hW (by rw [hb]; exact hdg)
    (fun vm₁ hW₁ => ⟨hf.1, hf.2, hp.2 (T.setVm vm₁) hT hW₁⟩)
  dsimp only [Pt.U, Pt.locs, Pt.cells, Pt.slots] at X' e1 e2 h1 h2 h3 st
  subst h1; subst h2; subst h3
  exact ⟨v, (T.setVm vm₁).calling g' mk As.toArray, t, U', L, hT, X', hL, e1, e2, hq, st⟩
/-- not caught here, past rows that name other classes: it goes on to the caller -/
theorem vx_outP {p : Program} {l : Launch} {e : Env} {R : Room} {s : State} {m : MethodId} {args : Array Value} {below : List Frame} {meth : Method} {c : Code} {H : Heap} {locs : List Loc} {cells slots : Nat} {free : Addr → Prop} {ls : Array Slot} {rest : List Value} {Qc : Array Value → State → Outcome → State → Prop} {XC : String → State → State → Prop}
    {pc : Nat} {own E : String} {ce : Cell} {q : Addr} {mc ms : Nat} (hown : s.vm.findClass own = some m.cls) (hlocks : meth.locks = false)
    (hpass : ∀ z ∈ c.exceptionTable.toList, covers z pc = false ∨ (z.catchType ≠ 0 ∧ ∃ nm : String, (Cond.classLink own z.catchType nm).before args s = true ∧ va_Nc E nm s)) (hcell : H[q]? = some ce) (hv : ce.vm = .none) (hcl : s.vm.findClass E = some ce.cls)
    (hx : ∀ t : State, t.heap = H → s.vm.Alike t.vm → XC E s t) (hf : ∀ z ∈ locs, free z.base) (hc : cells ≤ mc) (hs : slots ≤ ms) :
    vx_W p l e R s m args below meth c H locs cells slots (vx_MQ below Qc XC args s mc ms free) (F0 m pc ls rest) q := by
  intro T hT X
  have hpl : e.platform.magicAccessors = ({} : Platform).magicAccessors := by rw [X.admits.platform]
  obtain ⟨vm', hW', X', st⟩ := X.outThrough hlocks q (g := F0 m pc ls rest) rfl rfl rfl (cell := ce) (by rw [hT]; exact hcell) (by rw [hv]; rfl)
    (by obtain ⟨k9, h9, -⟩ := Vm.findClass_spec hcl; exact ⟨k9, h9⟩) (fun z hz => by
      rcases hpass z hz with h | ⟨hz0, nm, hl1, hn1⟩
      · exact Or.inl h
      · obtain ⟨c6, hc6, hcl6⟩ := Cond.classLink_spec hown hl1 e.platform hpl
        obtain ⟨a8, b8, h1, h2, h3⟩ := hn1
        cases Option.some.inj (h1.symm.trans hcl)
        cases Option.some.inj (h2.symm.trans hc6)
        exact Or.inr ⟨hz0, _, hcl6, h3⟩)
  obtain ⟨g₀, hfr⟩ := X'.frames_eq
  have hcell9 : ((T.setVm vm').setFrames (.throwing q :: below)).heap[q]? = some ce := by
    show T.heap[q]? = some ce
    rw [hT]; exact hcell
  have hend : Ended ((T.setVm vm').setFrames (.throwing q :: below)) below (.threw q) := State.frames_setFrames _ (State.cur_lt_of_frames hfr)
  refine ⟨(T.setVm vm').setFrames (.throwing q :: below), ?_, .threw q, X'.here.running, hend, Or.inr ⟨q, rfl, E, ce, locs, hx _ hT (X'.ends _).1.alike, hcell9, hv, hcl, (X'.ends _).1, (X'.ends _).2.mono hc hs, hf⟩⟩
  rw [X.pushThrowing_eq]
  exact st
/-- a thing of a world lies in the heap -/
theorem vx_lt {D : va_G} {cl : List vw_C} {ws : va_W} {H1 : Heap} (h : va_P D cl ws H1) {k : Nat} {q : Nat × va_E} (hk : ws[k]? = some q) : q.1 < H1.size := (h k q hk).lt
end VXS
/-! ===== END ===== -/
/-! ===== BEGIN methods with a table of their own: called by a name, returning or throwing ===== -/
section VXH
/-! vx_backW, vx_callVX, vx_callSX, vx_callVW, vx_runVW, vx_runVX, vx_runSX, vx_ofWH follow the same proofs as their sisters above (Free/Laws.lean, Shelf42/LK1.lean); vx_outP calls Shelf42/NT130.lean (outThrough). -/
section
variable {l : Launch} {R : Room} {p : Program} {e : Env} {below : List Frame} {s : State} {sargs : Array Value} {y : MethodName} {len W9 : Nat}
theorem vx_backW {ws : List Cond} {rm : Room} {Pc : Array Value → State → Prop} {Qc : Array Value → State → Outcome → State → Prop} {XC : String → State → State → Prop} {mc ms : Nat} {free : Addr → Prop} {bytes : ByteArray} {maxL : Nat} {ret : Option FieldType} {hh : List (Nat × Nat × Nat × Nat)}
    (hM : vx_Met l y ws rm Pc Qc XC mc ms free) (hblind : FrameBlind Pc) (hrc : rm.cells = mc) (hrs : rm.slots = ms)
    (hframes : rm.frames + 1 ≤ R.frames) (hlocals : W9 + (maxL + 11) + rm.locals ≤ R.locals)
    (hws : ∀ w ∈ ws, ∀ a' U, s.WarmedH U.vm → w.before a' U = true) (hcode : Cond.codeWith y bytes maxL ret hh ∈ ws) (hinit : ∀ a' U, s.WarmedH U.vm → (Cond.initialized y.cls).before a' U = true) :
    vx_Back l R p e below s sargs y len W9 (PreOf R mc ms Pc) (PostOf Qc mc ms free) (vx_Post XC mc ms free) := by
  intro m meth c A g ig mk a X hg hsize hdg hW hn hp
  have h1 : (headSpec ws rm).pre.before a A.U = true := atoms_intro fun w hw => hws w hw _ _ X.warmed
  have h2 : (Cond.codeWith y bytes maxL ret hh).before a A.U = true := hws _ hcode _ _ X.warmed
  have h3 : (Cond.initialized y.cls).before a A.U = true := hinit _ _ X.warmed
  have h4 : A.cells + (headSpec ws rm).room.cells ≤ R.cells := by rw [show (headSpec ws rm).room.cells = mc from hrc]; exact hp.1
  have h5 : A.slots + (headSpec ws rm).room.slots ≤ R.slots := by rw [show (headSpec ws rm).room.slots = ms from hrs]; exact hp.2.1
  have hPc : Pc a (A.U.calling g mk a) := hblind _ _ _ _ hp.2.2
  obtain ⟨U, Ls, c0, s0⟩ := A
  dsimp only [Pt.U, Pt.locs, Pt.cells, Pt.slots] at h1 h2 h3 h4 h5 X hn hPc ⊢
  obtain ⟨m9, methY, cY, hn9, hmY, hcY, -, hlY, -⟩ := Cond.codeWith_spec h2
  cases Option.some.inj (hn9.symm.trans hn)
  obtain ⟨kY, hkY, -⟩ := className_of_methodNamed hn
  have hinitY : kY.init = .initialized := Cond.initialized_spec (findClass_of_methodNamed hn) hkY h3
  have h : At U g.method c below := by rw [hg]; exact X.here
  have hlocals9 : W9 + (maxL + 11) + (headSpec ws rm).room.locals ≤ R.locals := hlocals
  have happ : (headSpec ws rm).appliesLoose y e.platform (U.calling g mk a) = true :=
    Spec.appliesLoose_calling (g := g) h hdg hn hkY hinitY
      (X.room_calling (g := g) (R' := (headSpec ws rm).room) hsize hmY hcY hframes (by rw [hlY]; omega) h4 h5) h1
  obtain ⟨mid, hmid⟩ := h.above
  have hfr : (U.setTop g).frames = (.java g :: mid) ++ below := by rw [State.frames_setTop' g h.top, hmid]; rfl
  obtain ⟨o, s₂, hsteps, -, hend, hq⟩ := Steps.callFree hM p X.admits X.cas X.clock (acts := []) hfr happ hPc trivial
  have hq' : vx_Q Qc XC mc ms free a (U.calling g mk a) o s₂ := hq
  rw [State.frames_setTop' g h.top] at hend
  obtain ⟨g₀, hg0⟩ := Option.isSome_iff_exists.mp h.top
  obtain ⟨r, hr⟩ := State.topJava?_eq_some.mp hg0
  have hr' : (({ U with heap := s₂.heap, slotsUsed := s₂.slotsUsed } : State).setVm s₂.vm).frames = .java g₀ :: r := hr
  rcases hq' with ⟨hqc, L, hfe, hL⟩ | ⟨q, rfl, E, ce, L, hx, hce, hcv, hcl, hW₂, hsm, hL⟩
  · obtain ⟨⟨v, rfl⟩, hW₂, e2, q2, q3, q4, q5, q6⟩ := id hfe
    have e3 : s₂ = ({ (U.calling g mk a).setFrames s₂.frames with heap := s₂.heap, slotsUsed := s₂.slotsUsed } : State).setVm s₂.vm := by
      have : s₂ = ({ s₂ with vm := (U.calling g mk a).vm } : State).setVm s₂.vm := rfl
      rw [e2] at this
      exact this
    obtain ⟨c₂, i₂, len₂, hc₂, hd₂, hf₂⟩ := hend
    have hW' : U.WarmedH s₂.vm := hW₂
    have hcc : c₂ = c := by
      have h1 : s₂.code? g.method = U.code? g.method := by
        rw [State.code?_eq, State.code?_eq, hW'.alike.method?]
      exact Option.some.inj (hc₂.symm.trans (h1.trans h.code))
    subst hcc
    have hlen : len₂ = len := by rw [hdg] at hd₂; cases hd₂; rfl
    subst hlen
    have hs₂ : s₂ = (({ U with heap := s₂.heap, slotsUsed := s₂.slotsUsed } : State).setVm s₂.vm).setTop { g with pc := g.pc + len₂, stack := v.toList ++ g.stack } := by
      refine e3.trans ?_
      rw [hf₂, State.calling_eq h.top, State.setFrames_setFrames, State.setTop_of_frames _ hr', hr]
      rfl
    have hsame : U.sameButNew ({ U with heap := s₂.heap, slotsUsed := s₂.slotsUsed } : State) L mc ms := by
      refine ⟨?_, q2, q3, q4, q5, q6⟩
      obtain ⟨t, ht, -⟩ := State.frames_cons hr
      show ({ U with heap := s₂.heap, slotsUsed := s₂.slotsUsed } : State) = { U.setFrames U.frames with heap := s₂.heap, slotsUsed := s₂.slotsUsed }
      rw [State.setFrames_self ht]
    subst hg
    refine Or.inl ⟨v, ⟨(({ U with heap := s₂.heap, slotsUsed := s₂.slotsUsed } : State).setVm s₂.vm), Ls ++ L, c0 + mc, s0 + ms⟩,
      ⟨X.admits, X.cas, X.clock, X.frames, X.room, X.hears, X.method, X.code, (X.here.setHeapUsed s₂.heap s₂.slotsUsed).setVm hW'.alike, X.tail, State.WarmedH.trans X.warmed hW', X.limits, X.bytes, X.same.trans (hsame.setVm s.vm)⟩,
      ⟨g, mk, s₂, L, rfl, rfl, hqc, rfl, hL, rfl, rfl⟩, ?_⟩
    show Steps p.tables e below _ ((({ U with heap := s₂.heap, slotsUsed := s₂.slotsUsed } : State).setVm s₂.vm).setTop { g with pc := g.pc + len₂, stack := v.toList ++ g.stack })
    rw [← hs₂]
    exact hsteps
  · obtain ⟨e2, q2, q3, q4, q5, q6⟩ := id hsm
    have e3 : s₂ = ({ (U.calling g mk a).setFrames s₂.frames with heap := s₂.heap, slotsUsed := s₂.slotsUsed } : State).setVm s₂.vm := by
      have : s₂ = ({ s₂ with vm := (U.calling g mk a).vm } : State).setVm s₂.vm := rfl
      rw [e2] at this
      exact this
    have hf₂ : s₂.frames = .throwing q :: .java g :: U.frames.tail := hend
    have hW' : U.WarmedH s₂.vm := hW₂
    have hs₂ : s₂ = ((({ U with heap := s₂.heap, slotsUsed := s₂.slotsUsed } : State).setVm s₂.vm).setTop g).pushFrame (.throwing q) := by
      refine e3.trans ?_
      rw [hf₂, State.calling_eq h.top, State.setFrames_setFrames, State.pushFrame, State.frames_setTop _ hr', State.setTop_of_frames _ hr', State.setFrames_setFrames, hr]
      rfl
    have hsame : U.sameButNew ({ U with heap := s₂.heap, slotsUsed := s₂.slotsUsed } : State) L mc ms := by
      refine ⟨?_, q2, q3, q4, q5, q6⟩
      obtain ⟨t, ht, -⟩ := State.frames_cons hr
      show ({ U with heap := s₂.heap, slotsUsed := s₂.slotsUsed } : State) = { U.setFrames U.frames with heap := s₂.heap, slotsUsed := s₂.slotsUsed }
      rw [State.setFrames_self ht]
    subst hg
    refine Or.inr ⟨q, ⟨(({ U with heap := s₂.heap, slotsUsed := s₂.slotsUsed } : State).setVm s₂.vm), Ls ++ L, c0 + mc, s0 + ms⟩,
      ⟨X.admits, X.cas, X.clock, X.frames, X.room, X.hears, X.method, X.code, (X.here.setHeapUsed s₂.heap s₂.slotsUsed).setVm hW'.alike, X.tail, State.WarmedH.trans X.warmed hW', X.limits, X.bytes, X.same.trans (hsame.setVm s.vm)⟩,
      ⟨g, mk, s₂, L, E, ce, rfl, rfl, hx, hce, hcv, hcl, rfl, hL, rfl, rfl⟩, ?_⟩
    show Steps p.tables e below _ (((({ U with heap := s₂.heap, slotsUsed := s₂.slotsUsed } : State).setVm s₂.vm).setTop g).pushFrame (.throwing q))
    rw [← hs₂]
    exact hsteps
end
variable {p : Program} {l : Launch} {e : Env} {R : Room} {s : State} {m : MethodId} {args : Array Value} {below : List Frame} {meth : Method} {c : Code} {T : State} {H : Heap} {locs : List Loc} {cells slots : Nat}
theorem vx_callVX (X : Stand p l e R s m args below meth c T locs cells slots) (hexec : p.tables.exec = Jvm.exec) {own C : String} {index : Nat} {y : MethodName} {bytes : ByteArray} {maxL : Nat} {ret : Option FieldType} {hh : List (Nat × Nat × Nat × Nat)}
    (hown : s.vm.findClass own = some m.cls) (hlink : (Cond.methodLink own index y).before args s = true) (hinst : (Cond.instanceMethod y).before args s = true) (hsel : (Cond.selects C y y).before args s = true)
    (hcode : (Cond.codeWith y bytes maxL ret hh).before args s = true) (hy : y.cls ≠ "java/lang/invoke/MethodHandle" ∧ y.cls ≠ "java/lang/invoke/VarHandle")
    {W9 : Nat} {Pre : Pt → Array Value → Prop} {Post : Pt → Array Value → Option Value → Pt → Prop} {PostX : Pt → Array Value → Addr → Pt → Prop} (hK : vx_Back l R p e below s args y 3 W9 Pre Post PostX)
    {b : Addr} {cellB : Cell} (hcell : T.heap[b]? = some cellB) (hobj : cellB.vm.isStatics = false) (hcls : s.vm.findClass C = some cellB.cls)
    {g : JFrame} (hg : g.method = m) (hsize : g.locals.size = c.maxLocals) {argsL rest : List Value} (hlen : ∀ sig, parseMethodDescriptor y.desc = some sig → argsL.length = sig.parameters.length)
    (hstack : g.stack = argsL.reverse ++ .ref b :: rest) (hW : 2 * g.monitorRoom + (rest.map fun v => v.category).sum ≤ W9) (hdg : decode c.code g.pc = .ok (.invokevirtual index, 3))
    (hpre : ∀ vm₁, s.WarmedH vm₁ → Pre ⟨T.setVm vm₁, locs, cells, slots⟩ (Value.ref b :: argsL).toArray) :
    (∃ (v : Option Value) (vm₁ : Vm) (B : Pt), s.WarmedH vm₁ ∧ Stand p l e R s m args below meth c B.U B.locs B.cells B.slots ∧ Post ⟨T.setVm vm₁, locs, cells, slots⟩ (Value.ref b :: argsL).toArray v B ∧
      ∀ target, Steps p.tables e below (B.U.setTop { g with pc := g.pc + 3, stack := v.toList ++ rest }) target → Steps p.tables e below (T.setTop g) target) ∨
    (∃ (q : Addr) (vm₁ : Vm) (B : Pt), s.WarmedH vm₁ ∧ Stand p l e R s m args below meth c B.U B.locs B.cells B.slots ∧ PostX ⟨T.setVm vm₁, locs, cells, slots⟩ (Value.ref b :: argsL).toArray q B ∧
      Steps p.tables e below (T.setTop g) ((B.U.setTop { g with stack := rest }).pushFrame (.throwing q))) := by
  obtain ⟨mk, methM, hnamed, hmethM, hstM, habM⟩ := Cond.instanceMethod_spec hinst
  obtain ⟨m8, methM', cM, hn8, hmethM', -, -, -, -, -, -, hsigM⟩ := Cond.codeWith_spec hcode
  cases Option.some.inj (hn8.symm.trans hnamed)
  cases hmethM.symm.trans hmethM'
  obtain ⟨c2, r2, m2, q1, q2, q3, q4, kP, hkP, hkPi⟩ := Cond.selects_spec hsel
  cases hcls.symm.trans q1
  cases (State.methodFound?_of_named hnamed hy).symm.trans q2
  cases hnamed.symm.trans q3
  have hselP : selectMethod e.platform s.vm cellB.cls mk = .method mk := by rw [Launch.admits_selectMethod X.admits]; exact q4
  obtain ⟨vm₁, X₁, hstep₁⟩ := X.invokevirtual hexec hown hlink hnamed hmethM hstM hkP hkPi hy (a := b) (cell := cellB) hcell
    (fun z h => by rw [h] at hobj; cases hobj) hselP hmethM habM hkP hkPi (g := g) hg (argsL := argsL) (rest := rest) (hlen _ hsigM) hstack hdg
  rcases hK m meth c ⟨T.setVm vm₁, locs, cells, slots⟩ { g with stack := rest } (.invokevirtual index) mk (Value.ref b :: argsL).toArray X₁ hg hsize hdg hW (X₁.named hnamed) (hpre vm₁ X₁.warmed) with ⟨v, B, X', hpost, hsteps⟩ | ⟨q, B, X', hpost, hsteps⟩
  · exact Or.inl ⟨v, vm₁, B, X₁.warmed, X', hpost, fun target h => hstep₁ _ fun acts => by rw [doInvoke_state]; exact hsteps.trans h⟩
  · exact Or.inr ⟨q, vm₁, B, X₁.warmed, X', hpost, hstep₁ _ fun acts => by rw [doInvoke_state]; exact hsteps⟩
theorem vx_callSX (X : Stand p l e R s m args below meth c T locs cells slots) (hexec : p.tables.exec = Jvm.exec) {own : String} {index : Nat} {y : MethodName} {bytes : ByteArray} {maxL : Nat} {ret : Option FieldType} {hh : List (Nat × Nat × Nat × Nat)}
    (hown : s.vm.findClass own = some m.cls) (hlink : (Cond.methodLink own index y).before args s = true) (hstat : (Cond.static y).before args s = true) (hinit : (Cond.initialized y.cls).before args s = true)
    (hcode : (Cond.codeWith y bytes maxL ret hh).before args s = true) (hy : y.cls ≠ "java/lang/invoke/MethodHandle" ∧ y.cls ≠ "java/lang/invoke/VarHandle")
    {W9 : Nat} {Pre : Pt → Array Value → Prop} {Post : Pt → Array Value → Option Value → Pt → Prop} {PostX : Pt → Array Value → Addr → Pt → Prop} (hK : vx_Back l R p e below s args y 3 W9 Pre Post PostX)
    {g : JFrame} (hg : g.method = m) (hsize : g.locals.size = c.maxLocals) {argsL rest : List Value} (hlen : ∀ sig, parseMethodDescriptor y.desc = some sig → argsL.length = sig.parameters.length)
    (hstack : g.stack = argsL.reverse ++ rest) (hW : 2 * g.monitorRoom + (rest.map fun v => v.category).sum ≤ W9) (hdg : decode c.code g.pc = .ok (.invokestatic index, 3))
    (hpre : ∀ vm₁, s.WarmedH vm₁ → Pre ⟨T.setVm vm₁, locs, cells, slots⟩ argsL.toArray) :
    (∃ (v : Option Value) (vm₁ : Vm) (B : Pt), s.WarmedH vm₁ ∧ Stand p l e R s m args below meth c B.U B.locs B.cells B.slots ∧ Post ⟨T.setVm vm₁, locs, cells, slots⟩ argsL.toArray v B ∧
      ∀ target, Steps p.tables e below (B.U.setTop { g with pc := g.pc + 3, stack := v.toList ++ rest }) target → Steps p.tables e below (T.setTop g) target) ∨
    (∃ (q : Addr) (vm₁ : Vm) (B : Pt), s.WarmedH vm₁ ∧ Stand p l e R s m args below meth c B.U B.locs B.cells B.slots ∧ PostX ⟨T.setVm vm₁, locs, cells, slots⟩ argsL.toArray q B ∧
      Steps p.tables e below (T.setTop g) ((B.U.setTop { g with stack := rest }).pushFrame (.throwing q))) := by
  obtain ⟨mk, methM, cM, hnamed, hmethM, -, -, -, -, -, -, hsigM⟩ := Cond.codeWith_spec hcode
  have hstatic : methM.isStatic = true := Cond.static_spec hnamed hmethM hstat
  obtain ⟨kP, hkP, -⟩ := className_of_methodNamed hnamed
  have hinitP : kP.init = .initialized := Cond.initialized_spec (findClass_of_methodNamed hnamed) hkP hinit
  obtain ⟨vm₁, X₁, hstep₁⟩ := X.invokestatic hexec hown hlink hnamed hmethM hstatic hkP hinitP hy (g := g) hg (argsL := argsL) (rest := rest) (hlen _ hsigM) hstack hdg
  rcases hK m meth c ⟨T.setVm vm₁, locs, cells, slots⟩ { g with stack := rest } (.invokestatic index) mk argsL.toArray X₁ hg hsize hdg hW (X₁.named hnamed) (hpre vm₁ X₁.warmed) with ⟨v, B, X', hpost, hsteps⟩ | ⟨q, B, X', hpost, hsteps⟩
  · exact Or.inl ⟨v, vm₁, B, X₁.warmed, X', hpost, fun target h => hstep₁ _ fun acts => by rw [doInvoke_state]; exact hsteps.trans h⟩
  · exact Or.inr ⟨q, vm₁, B, X₁.warmed, X', hpost, hstep₁ _ fun acts => by rw [doInvoke_state]; exact hsteps⟩
theorem vx_callVW (X : Stand p l e R s m args below meth c T locs cells slots) (hexec : p.tables.exec = Jvm.exec) {own C : String} {index : Nat} {y : MethodName} {bytes : ByteArray} {maxL : Nat} {ret : Option FieldType} {hh : List (Nat × Nat × Nat × Nat)}
    (hown : s.vm.findClass own = some m.cls) (hlink : (Cond.methodLink own index y).before args s = true) (hinst : (Cond.instanceMethod y).before args s = true) (hsel : (Cond.selects C y y).before args s = true)
    (hcode : (Cond.codeWith y bytes maxL ret hh).before args s = true) (hy : y.cls ≠ "java/lang/invoke/MethodHandle" ∧ y.cls ≠ "java/lang/invoke/VarHandle")
    {W9 : Nat} {Pre : Pt → Array Value → Prop} {Post : Pt → Array Value → Option Value → Pt → Prop} (hK : Back l R p e below s args y 3 W9 Pre Post)
    {b : Addr} {cellB : Cell} (hcell : T.heap[b]? = some cellB) (hobj : cellB.vm.isStatics = false) (hcls : s.vm.findClass C = some cellB.cls)
    {g : JFrame} (hg : g.method = m) (hsize : g.locals.size = c.maxLocals) {argsL rest : List Value} (hlen : ∀ sig, parseMethodDescriptor y.desc = some sig → argsL.length = sig.parameters.length)
    (hstack : g.stack = argsL.reverse ++ .ref b :: rest) (hW : 2 * g.monitorRoom + (rest.map fun v => v.category).sum ≤ W9) (hdg : decode c.code g.pc = .ok (.invokevirtual index, 3))
    (hpre : ∀ vm₁, s.WarmedH vm₁ → Pre ⟨T.setVm vm₁, locs, cells, slots⟩ (Value.ref b :: argsL).toArray) :
    ∃ (v : Option Value) (vm₁ : Vm) (B : Pt), s.WarmedH vm₁ ∧ Stand p l e R s m args below meth c B.U B.locs B.cells B.slots ∧ Post ⟨T.setVm vm₁, locs, cells, slots⟩ (Value.ref b :: argsL).toArray v B ∧
      ∀ target, Steps p.tables e below (B.U.setTop { g with pc := g.pc + 3, stack := v.toList ++ rest }) target → Steps p.tables e below (T.setTop g) target := by
  obtain ⟨mk, methM, hnamed, hmethM, hstM, habM⟩ := Cond.instanceMethod_spec hinst
  obtain ⟨m8, methM', cM, hn8, hmethM', -, -, -, -, -, -, hsigM⟩ := Cond.codeWith_spec hcode
  cases Option.some.inj (hn8.symm.trans hnamed)
  cases hmethM.symm.trans hmethM'
  obtain ⟨c2, r2, m2, q1, q2, q3, q4, kP, hkP, hkPi⟩ := Cond.selects_spec hsel
  cases hcls.symm.trans q1
  cases (State.methodFound?_of_named hnamed hy).symm.trans q2
  cases hnamed.symm.trans q3
  have hselP : selectMethod e.platform s.vm cellB.cls mk = .method mk := by rw [Launch.admits_selectMethod X.admits]; exact q4
  obtain ⟨vm₁, X₁, hstep₁⟩ := X.invokevirtual hexec hown hlink hnamed hmethM hstM hkP hkPi hy (a := b) (cell := cellB) hcell
    (fun z h => by rw [h] at hobj; cases hobj) hselP hmethM habM hkP hkPi (g := g) hg (argsL := argsL) (rest := rest) (hlen _ hsigM) hstack hdg
  obtain ⟨v, B, X', hpost, hsteps⟩ := hK m meth c ⟨T.setVm vm₁, locs, cells, slots⟩ { g with stack := rest } (.invokevirtual index) mk (Value.ref b :: argsL).toArray X₁ hg hsize hdg hW (X₁.named hnamed) (hpre vm₁ X₁.warmed)
  exact ⟨v, vm₁, B, X₁.warmed, X', hpost, fun target h => hstep₁ _ fun acts => by rw [doInvoke_state]; exact hsteps.trans h⟩
abbrev vx_CVW (R : Room) (s : State) (args : Array Value) (own C : String) (index : Nat) (y : MethodName) (bytes : ByteArray) (maxL : Nat) (ret : Option FieldType) (hh : List (Nat × Nat × Nat × Nat)) (ws : List Cond) (rm : Room) (mc ms n : Nat) : Prop :=
  (rm.cells = mc ∧ rm.slots = ms ∧ rm.frames + 1 ≤ R.frames ∧ 8 + (maxL + 11) + rm.locals ≤ R.locals ∧ (∀ w ∈ ws, ∀ (a' : Array Value) (U : State), s.WarmedH U.vm → w.before a' U = true) ∧ Cond.codeWith y bytes maxL ret hh ∈ ws) ∧
  (Cond.codeWith y bytes maxL ret hh).before args s = true ∧ (Cond.initialized y.cls).before args s = true ∧ (y.cls ≠ "java/lang/invoke/MethodHandle" ∧ y.cls ≠ "java/lang/invoke/VarHandle") ∧
  (∀ sig, parseMethodDescriptor y.desc = some sig → n = sig.parameters.length) ∧ (Cond.methodLink own index y).before args s = true ∧ (Cond.instanceMethod y).before args s = true ∧ (Cond.selects C y y).before args s = true
theorem vx_cwVW {own C : String} {index maxL mc ms : Nat} {y : MethodName} {bytes : ByteArray} {ret : Option FieldType} {hh : List (Nat × Nat × Nat × Nat)} {Ts ws ws' : List Cond} {rm : Room} (n : Nat) (ht : ∀ w ∈ Ts, w.before args s = true) (hT : GoodIn Ts (wsV own index C y ws)) (hw : ws = Cond.codeWith y bytes maxL ret hh :: ws') (hrc : rm.cells = mc) (hrs : rm.slots = ms)
    (hd : y.cls = C ∧ y.cls ≠ "java/lang/invoke/MethodHandle" ∧ y.cls ≠ "java/lang/invoke/VarHandle" ∧ (parseMethodDescriptor y.desc).map (fun d => d.parameters.length) = some n) (hR : rm.frames + 1 ≤ R.frames ∧ 8 + (maxL + 11) + rm.locals ≤ R.locals) :
    vx_CVW R s args own C index y bytes maxL ret hh ws rm mc ms n := by
  obtain ⟨hC, hd⟩ := hd
  subst hC
  have ok : ∀ w ∈ wsV own index y.cls y ws, w.before args s = true := fun w h => ht w (hT w h).1
  have hG : GoodIn Ts ws := fun w h => hT w (by unfold wsV; exact List.mem_append_right _ h)
  have hc : Cond.codeWith y bytes maxL ret hh ∈ ws := by rw [hw]; exact List.mem_cons_self
  refine ⟨⟨hrc, hrs, hR.1, hR.2, pay_in ht hG, hc⟩, ht _ (hG _ hc).1, ok _ (by simp [wsV]), ⟨hd.1, hd.2.1⟩, fun sig h => ?_, ok _ (by simp [wsV]), ok _ (by simp [wsV]), ok _ (by simp [wsV])⟩
  have h2 := hd.2.2
  rw [h] at h2
  exact (Option.some.inj h2).symm
theorem vx_runVW {y : MethodName} {bytes cc : ByteArray} {maxL nL mc ms n index : Nat} {ret : Option FieldType} {hh : List (Nat × Nat × Nat × Nat)} {ws : List Cond} {rm : Room} {Pc : Array Value → State → Prop} {Qc : Array Value → State → Outcome → State → Prop} {free : Addr → Prop} {Ts : List Cond} {own C : String} {b : Addr} {As rest : List Value} {g : JFrame}
    (S : CallFix p m c cc nL s args Ts own) (hM : Met l y ws rm Pc Qc mc ms free) (cw : vx_CVW R s args own C index y bytes maxL ret hh ws rm mc ms n) (hp : PreV s H C b Pc As)
    (hg : g.method = m) (hn : As.length = n) (hsize : g.locals.size = nL) (hstack : g.stack = As.reverse ++ .ref b :: rest) (hW : 2 * g.monitorRoom + (rest.map fun v => v.category).sum ≤ 8) (hdg : decode cc g.pc = .ok (.invokevirtual index, 3)) (hf : cells + mc ≤ R.cells ∧ slots + ms ≤ R.slots) :
    va_Run p l e R s m args below meth c H locs cells slots mc ms g rest (Qc (Value.ref b :: As).toArray) free := by
  obtain ⟨⟨hrc, hrs, hfr, hlo, hws, hcw⟩, hcode, hini, hy, hlen, hl, hin, hse⟩ := cw
  have hK : Back l R p e below s args y 3 8 (PreOf R mc ms Pc) (PostOf Qc mc ms free) := va_backW (hh := hh) (bytes := bytes) (maxL := maxL) (ret := ret) hM hp.1 hrc hrs hfr hlo hws hcw (fun a' U hW => word_at hW (Or.inl (by first | rfl | simp [Cond.onTables, Cond.keeps, Cond.steady])) hini)
  obtain ⟨hx, hb, hml, ho, -⟩ := S
  obtain ⟨-, ⟨cellB, hcB, hoB, hclB⟩, hPc⟩ := hp
  intro T hT X
  obtain ⟨v, vm₁, ⟨U', l2, c2, s2⟩, hW₁, X', ⟨g', mk, t, L, e1, e2, hq, h1, hL, h2, h3⟩, st⟩ := vx_callVW X hx (C := C) (hh := hh) (bytes := bytes) (maxL := maxL) (ret := ret) ho hl hin hse hcode hy hK (by rw [hT]; exact hcB) hoB hclB hg (hsize.trans hml.symm) (argsL := As) (rest := rest) (fun sig h => hn.trans (hlen sig h)) hstack hW (by rw [hb]; exact hdg)
    (fun vm₁ hW₁ => ⟨hf.1, hf.2, hPc (T.setVm vm₁) hT hW₁⟩)
  dsimp only [Pt.U, Pt.locs, Pt.cells, Pt.slots] at X' e1 e2 h1 h2 h3 st
  subst h1; subst h2; subst h3
  exact ⟨v, (T.setVm vm₁).calling g' mk (Value.ref b :: As).toArray, t, U', L, hT, X', hL, e1, e2, hq, st⟩
section
variable {y : MethodName} {bytes cc : ByteArray} {maxL nL mc ms n index : Nat} {ret : Option FieldType} {ws : List Cond} {rm : Room} {Pc : Array Value → State → Prop} {Qc : Array Value → State → Outcome → State → Prop} {XC : String → State → State → Prop} {free : Addr → Prop} {Ts : List Cond} {own C : String} {b : Addr} {As rest : List Value} {g : JFrame}
theorem vx_runVX {hh : List (Nat × Nat × Nat × Nat)} (S : CallFix p m c cc nL s args Ts own) (hM : vx_Met l y ws rm Pc Qc XC mc ms free) (cw : vx_CVW R s args own C index y bytes maxL ret hh ws rm mc ms n) (hp : PreV s H C b Pc As)
    (hg : g.method = m) (hn : As.length = n) (hsize : g.locals.size = nL) (hstack : g.stack = As.reverse ++ .ref b :: rest) (hW : 2 * g.monitorRoom + (rest.map fun v => v.category).sum ≤ 8) (hdg : decode cc g.pc = .ok (.invokevirtual index, 3)) (hf : cells + mc ≤ R.cells ∧ slots + ms ≤ R.slots) :
    vx_Run p l e R s m args below meth c H locs cells slots mc ms g rest (Qc (Value.ref b :: As).toArray) XC free := by
  obtain ⟨⟨hrc, hrs, hfr, hlo, hws, hcw⟩, hcode, hini, hy, hlen, hl, hin, hse⟩ := cw
  have hK : vx_Back l R p e below s args y 3 8 (PreOf R mc ms Pc) (PostOf Qc mc ms free) (vx_Post XC mc ms free) := vx_backW (hh := hh) (bytes := bytes) (maxL := maxL) (ret := ret) hM hp.1 hrc hrs hfr hlo hws hcw (fun a' U hW => word_at hW (Or.inl (by first | rfl | simp [Cond.onTables, Cond.keeps, Cond.steady])) hini)
  obtain ⟨hx, hb, hml, ho, -⟩ := S
  obtain ⟨-, ⟨cellB, hcB, hoB, hclB⟩, hPc⟩ := hp
  intro T hT X
  rcases vx_callVX X hx (C := C) (hh := hh) (bytes := bytes) (maxL := maxL) (ret := ret) ho hl hin hse hcode hy hK (by rw [hT]; exact hcB) hoB hclB hg (hsize.trans hml.symm) (argsL := As) (rest := rest) (fun sig h => hn.trans (hlen sig h)) hstack hW (by rw [hb]; exact hdg)
    (fun vm₁ hW₁ => ⟨hf.1, hf.2, hPc (T.setVm vm₁) hT hW₁⟩) with ⟨v, vm₁, ⟨U', l2, c2, s2⟩, hW₁, X', ⟨g', mk, t, L, e1, e2, hq, h1, hL, h2, h3⟩, st⟩ | ⟨q, vm₁, ⟨U', l2, c2, s2⟩, hW₁, X', ⟨g', mk, t, L, E, ce, e1, e2, hq, hce, hcv, hcl, h1, hL, h2, h3⟩, st⟩
  · dsimp only [Pt.U, Pt.locs, Pt.cells, Pt.slots] at X' e1 e2 h1 h2 h3 st
    subst h1; subst h2; subst h3
    exact Or.inl ⟨v, (T.setVm vm₁).calling g' mk (Value.ref b :: As).toArray, t, U', L, hT, X', hL, e1, e2, hq, st⟩
  · dsimp only [Pt.U, Pt.locs, Pt.cells, Pt.slots] at X' e1 e2 h1 h2 h3 st hcl
    subst h1; subst h2; subst h3
    exact Or.inr ⟨q, (T.setVm vm₁).calling g' mk (Value.ref b :: As).toArray, t, U', L, E, ce, hT, X', hL, e1, e2, hq, hce, hcv, vx_cls hW₁ hcl, st⟩
theorem vx_runSX {hh : List (Nat × Nat × Nat × Nat)} (S : CallFix p m c cc nL s args Ts own) (hM : vx_Met l y ws rm Pc Qc XC mc ms free) (cw : vx_CSW R s args own index y bytes maxL ret hh ws rm mc ms n) (hp : PreS s H Pc As)
    (hg : g.method = m) (hn : As.length = n) (hsize : g.locals.size = nL) (hstack : g.stack = As.reverse ++ rest) (hW : 2 * g.monitorRoom + (rest.map fun v => v.category).sum ≤ 8) (hdg : decode cc g.pc = .ok (.invokestatic index, 3)) (hf : cells + mc ≤ R.cells ∧ slots + ms ≤ R.slots) :
    vx_Run p l e R s m args below meth c H locs cells slots mc ms g rest (Qc As.toArray) XC free := by
  obtain ⟨⟨hrc, hrs, hfr, hlo, hws, hcw⟩, hcode, hini, hy, hlen, hl, hstt⟩ := cw
  have hK : vx_Back l R p e below s args y 3 8 (PreOf R mc ms Pc) (PostOf Qc mc ms free) (vx_Post XC mc ms free) := vx_backW (hh := hh) (bytes := bytes) (maxL := maxL) (ret := ret) hM hp.1 hrc hrs hfr hlo hws hcw (fun a' U hW => word_at hW (Or.inl (by first | rfl | simp [Cond.onTables, Cond.keeps, Cond.steady])) hini)
  obtain ⟨hx, hb, hml, ho, -⟩ := S
  intro T hT X
  rcases vx_callSX X hx (hh := hh) (bytes := bytes) (maxL := maxL) (ret := ret) ho hl hstt hini hcode hy hK hg (hsize.trans hml.symm) (argsL := As) (rest := rest) (fun sig h => hn.trans (hlen sig h)) hstack hW (by rw [hb]; exact hdg)
    (fun vm₁ hW₁ => ⟨hf.1, hf.2, hp.2 (T.setVm vm₁) hT hW₁⟩) with ⟨v, vm₁, ⟨U', l2, c2, s2⟩, hW₁, X', ⟨g', mk, t, L, e1, e2, hq, h1, hL, h2, h3⟩, st⟩ | ⟨q, vm₁, ⟨U', l2, c2, s2⟩, hW₁, X', ⟨g', mk, t, L, E, ce, e1, e2, hq, hce, hcv, hcl, h1, hL, h2, h3⟩, st⟩
  · dsimp only [Pt.U, Pt.locs, Pt.cells, Pt.slots] at X' e1 e2 h1 h2 h3 st
    subst h1; subst h2; subst h3
    exact Or.inl ⟨v, (T.setVm vm₁).calling g' mk As.toArray, t, U', L, hT, X', hL, e1, e2, hq, st⟩
  · dsimp only [Pt.U, Pt.locs, Pt.cells, Pt.slots] at X' e1 e2 h1 h2 h3 st hcl
    subst h1; subst h2; subst h3
    exact Or.inr ⟨q, (T.setVm vm₁).calling g' mk As.toArray, t, U', L, E, ce, hT, X', hL, e1, e2, hq, hce, hcv, vx_cls hW₁ hcl, st⟩
end
end VXH
theorem vx_ofWH {l : Launch} {y : MethodName} {ws ws' : List Cond} {rm : Room} {Pc : Array Value → State → Prop} {Qc : Array Value → State → Outcome → State → Prop} {XC : String → State → State → Prop} {mc ms : Nat} {free : Addr → Prop} {cc : ByteArray} {maxL : Nat} {ret : Option FieldType} {hh : List (Nat × Nat × Nat × Nat)}
    (hy : plainName y.cls = true) (hw : ws = Cond.codeWith y cc maxL ret hh :: ws')
    (body : ∀ p e s m args below meth c s₁, BodyLoose p l y (headSpec ws rm) cc maxL ret e s m args below meth c s₁ → c.maxLocals = maxL → Pc args s →
      W p l e (headSpec ws rm).room s m args below meth c s.heap [] 0 0 (vx_MQ below Qc XC args s mc ms free) (entryFrame m args maxL)) : vx_Met l y ws rm Pc Qc XC mc ms free := by
  refine MetFree.of_bodyS (code := cc) (maxLocals := maxL) (ret := ret) hy ?_ ?_
  · intro args s m h hn
    obtain ⟨m9, meth, c, hn9, h1, h2, h3, h4, -, h5, h6, -⟩ := Cond.codeWith_spec (atoms_spec (ws := ws) h _ (by rw [hw]; exact List.mem_cons_self))
    cases hn.symm.trans hn9
    exact ⟨meth, c, h1, h2, h3, h4, h5, h6⟩
  · intro p e s m args below meth c s₁ B hml hP _
    have hh0 : s₁.heap = s.heap := by rw [B.state]; rfl
    obtain ⟨t, a1, o, b1, b2, b3⟩ := body p e s m args below meth c s₁ B hml hP s₁ hh0 (Stand.of_body B)
    exact ⟨t, o, a1, b1, b2, b3⟩
/-! ===== END ===== -/

/-! ===== BEGIN printed: names, fields, word lists, decode rows ===== -/
def RX0 : String := "HouseBells$House"
def TX0 : u_T := fun k => match k with
  | 0 => ("HouseBells$House", "minute", "I", false)
  | 1 => ("HouseBells$House", "roomCount", "I", false)
  | 2 => ("HouseBells$House", "charge", "I", false)
  | 3 => ("HouseBells$House", "served", "I", false)
  | 4 => ("HouseBells$House", "inVain", "I", false)
  | 5 => ("HouseBells$House", "gaveUp", "I", false)
  | 6 => ("HouseBells$House", "unheard", "I", false)
  | 7 => ("HouseBells$House", "floor", "LHouseBells$Row;", true)
  | 8 => ("HouseBells$House", "patience", "LHouseBells$Row;", true)
  | 9 => ("HouseBells$House", "need", "LHouseBells$Row;", true)
  | 10 => ("HouseBells$House", "wire", "LHouseBells$Row;", true)
  | 11 => ("HouseBells$House", "cut", "LHouseBells$Row;", true)
  | 12 => ("HouseBells$House", "waited", "LHouseBells$Row;", true)
  | 13 => ("HouseBells$House", "line", "LHouseBells$Line;", true)
  | _ => ("HouseBells$House", "staff", "LHouseBells$Staff;", true)
def tyX0 : Nat → FieldType := fun k => match k with
  | 0 => .int
  | 1 => .int
  | 2 => .int
  | 3 => .int
  | 4 => .int
  | 5 => .int
  | 6 => .int
  | 7 => .object "HouseBells$Row"
  | 8 => .object "HouseBells$Row"
  | 9 => .object "HouseBells$Row"
  | 10 => .object "HouseBells$Row"
  | 11 => .object "HouseBells$Row"
  | 12 => .object "HouseBells$Row"
  | 13 => .object "HouseBells$Line"
  | _ => .object "HouseBells$Staff"
abbrev wsX00 : List Cond := u_ws RX0 TX0 15
theorem nmX0 : ∀ a, a < 15 → ∀ b, b < 15 → a ≠ b → (TX0 a).2.1 ≠ (TX0 b).2.1 := by decide +kernel
theorem tyX0_ok : ∀ k, k < 15 → parseFieldDescriptor (TX0 k).2.2.1 = some (tyX0 k) := by decide +kernel
abbrev cX0_init : ByteArray := prog_2_method_1_code
def yX0_init : MethodName := ⟨RX0, "<init>", "()V"⟩
abbrev cX0_copyFrom : ByteArray := prog_2_method_2_code
def yX0_copyFrom : MethodName := ⟨RX0, "copyFrom", "(LHouseBells$House;)V"⟩
abbrev cX0_openRoom : ByteArray := prog_2_method_3_code
def yX0_openRoom : MethodName := ⟨RX0, "openRoom", "(III)I"⟩
abbrev cX0_isWaiting : ByteArray := prog_2_method_4_code
def yX0_isWaiting : MethodName := ⟨RX0, "isWaiting", "(I)Z"⟩
abbrev cX0_isAnyoneWaiting : ByteArray := prog_2_method_5_code
def yX0_isAnyoneWaiting : MethodName := ⟨RX0, "isAnyoneWaiting", "()Z"⟩
abbrev cX0_isWireCut : ByteArray := prog_2_method_6_code
def yX0_isWireCut : MethodName := ⟨RX0, "isWireCut", "(I)Z"⟩
abbrev cX0_countCutWires : ByteArray := prog_2_method_7_code
def yX0_countCutWires : MethodName := ⟨RX0, "countCutWires", "()I"⟩
abbrev cX0_swapWires : ByteArray := prog_2_method_8_code
def yX0_swapWires : MethodName := ⟨RX0, "swapWires", "(II)V"⟩
abbrev cX0_isFirstOfItsCircle : ByteArray := prog_2_method_9_code
def yX0_isFirstOfItsCircle : MethodName := ⟨RX0, "isFirstOfItsCircle", "(I)Z"⟩
abbrev cX0_costFrom : ByteArray := prog_2_method_10_code
def yX0_costFrom : MethodName := ⟨RX0, "costFrom", "(I)I"⟩
abbrev cX0_pullBell : ByteArray := prog_2_method_11_code
def yX0_pullBell : MethodName := ⟨RX0, "pullBell", "(I)Z"⟩
abbrev cX0_letMinuteGoBy : ByteArray := prog_2_method_12_code
def yX0_letMinuteGoBy : MethodName := ⟨RX0, "letMinuteGoBy", "()I"⟩
abbrev cX0_letRoomsWait : ByteArray := prog_2_method_13_code
def yX0_letRoomsWait : MethodName := ⟨RX0, "letRoomsWait", "()V"⟩
abbrev cX0_isMultiple : ByteArray := prog_2_method_14_code
def yX0_isMultiple : MethodName := ⟨RX0, "isMultiple", "(II)Z"⟩
abbrev cX0_letServantsMove : ByteArray := prog_2_method_15_code
def yX0_letServantsMove : MethodName := ⟨RX0, "letServantsMove", "()V"⟩
abbrev cX0_arrive : ByteArray := prog_2_method_16_code
def yX0_arrive : MethodName := ⟨RX0, "arrive", "(II)V"⟩
abbrev cX0_sendIdleServants : ByteArray := prog_2_method_17_code
def yX0_sendIdleServants : MethodName := ⟨RX0, "sendIdleServants", "()V"⟩
def RX1 : String := "HouseBells$Line"
def TX1 : u_T := fun k => match k with
  | 0 => ("HouseBells$Line", "count", "I", false)
  | _ => ("HouseBells$Line", "drops", "[I", true)
def tyX1 : Nat → FieldType := fun k => match k with
  | 0 => .int
  | _ => .array .int
abbrev wsX10 : List Cond := u_ws RX1 TX1 2
theorem nmX1 : ∀ a, a < 2 → ∀ b, b < 2 → a ≠ b → (TX1 a).2.1 ≠ (TX1 b).2.1 := by decide +kernel
theorem tyX1_ok : ∀ k, k < 2 → parseFieldDescriptor (TX1 k).2.2.1 = some (tyX1 k) := by decide +kernel
abbrev cX1_init : ByteArray := prog_3_method_1_code
def yX1_init : MethodName := ⟨RX1, "<init>", "()V"⟩
abbrev cX1_copyFrom : ByteArray := prog_3_method_2_code
def yX1_copyFrom : MethodName := ⟨RX1, "copyFrom", "(LHouseBells$Line;)V"⟩
abbrev cX1_first : ByteArray := prog_3_method_3_code
def yX1_first : MethodName := ⟨RX1, "first", "()I"⟩
abbrev cX1_placeOf : ByteArray := prog_3_method_4_code
def yX1_placeOf : MethodName := ⟨RX1, "placeOf", "(I)I"⟩
abbrev cX1_append : ByteArray := prog_3_method_5_code
def yX1_append : MethodName := ⟨RX1, "append", "(I)V"⟩
abbrev cX1_remove : ByteArray := prog_3_method_6_code
def yX1_remove : MethodName := ⟨RX1, "remove", "(I)V"⟩
def RX2 : String := "HouseBells$Row"
def TX2 : u_T := fun k => match k with
  | _ => ("HouseBells$Row", "cells", "[I", true)
def tyX2 : Nat → FieldType := fun k => match k with
  | _ => .array .int
abbrev wsX20 : List Cond := u_ws RX2 TX2 1
theorem nmX2 : ∀ a, a < 1 → ∀ b, b < 1 → a ≠ b → (TX2 a).2.1 ≠ (TX2 b).2.1 := by decide +kernel
theorem tyX2_ok : ∀ k, k < 1 → parseFieldDescriptor (TX2 k).2.2.1 = some (tyX2 k) := by decide +kernel
abbrev cX2_init : ByteArray := prog_4_method_1_code
def yX2_init : MethodName := ⟨RX2, "<init>", "()V"⟩
abbrev cX2_get : ByteArray := prog_4_method_2_code
def yX2_get : MethodName := ⟨RX2, "get", "(I)I"⟩
abbrev cX2_set : ByteArray := prog_4_method_3_code
def yX2_set : MethodName := ⟨RX2, "set", "(II)V"⟩
abbrev cX2_copyFrom : ByteArray := prog_4_method_4_code
def yX2_copyFrom : MethodName := ⟨RX2, "copyFrom", "(LHouseBells$Row;)V"⟩
def RX3 : String := "HouseBells$Staff"
def TX3 : u_T := fun k => match k with
  | 0 => ("HouseBells$Staff", "count", "I", false)
  | 1 => ("HouseBells$Staff", "pace", "LHouseBells$Row;", true)
  | 2 => ("HouseBells$Staff", "floor", "LHouseBells$Row;", true)
  | 3 => ("HouseBells$Staff", "goal", "LHouseBells$Row;", true)
  | 4 => ("HouseBells$Staff", "guest", "LHouseBells$Row;", true)
  | _ => ("HouseBells$Staff", "left", "LHouseBells$Row;", true)
def tyX3 : Nat → FieldType := fun k => match k with
  | 0 => .int
  | 1 => .object "HouseBells$Row"
  | 2 => .object "HouseBells$Row"
  | 3 => .object "HouseBells$Row"
  | 4 => .object "HouseBells$Row"
  | _ => .object "HouseBells$Row"
abbrev wsX30 : List Cond := u_ws RX3 TX3 6
theorem nmX3 : ∀ a, a < 6 → ∀ b, b < 6 → a ≠ b → (TX3 a).2.1 ≠ (TX3 b).2.1 := by decide +kernel
theorem tyX3_ok : ∀ k, k < 6 → parseFieldDescriptor (TX3 k).2.2.1 = some (tyX3 k) := by decide +kernel
abbrev cX3_init : ByteArray := prog_5_method_1_code
def yX3_init : MethodName := ⟨RX3, "<init>", "()V"⟩
abbrev cX3_copyFrom : ByteArray := prog_5_method_2_code
def yX3_copyFrom : MethodName := ⟨RX3, "copyFrom", "(LHouseBells$Staff;)V"⟩
abbrev cX3_hire : ByteArray := prog_5_method_3_code
def yX3_hire : MethodName := ⟨RX3, "hire", "(I)I"⟩
abbrev cX3_rest : ByteArray := prog_5_method_4_code
def yX3_rest : MethodName := ⟨RX3, "rest", "(I)V"⟩
abbrev cX3_isIdle : ByteArray := prog_5_method_5_code
def yX3_isIdle : MethodName := ⟨RX3, "isIdle", "(I)Z"⟩
abbrev cX3_isServing : ByteArray := prog_5_method_6_code
def yX3_isServing : MethodName := ⟨RX3, "isServing", "(I)Z"⟩
abbrev cX3_wayToFloor : ByteArray := prog_5_method_7_code
def yX3_wayToFloor : MethodName := ⟨RX3, "wayToFloor", "(II)I"⟩
abbrev cX3_nearestTo : ByteArray := prog_5_method_8_code
def yX3_nearestTo : MethodName := ⟨RX3, "nearestTo", "(I)I"⟩
abbrev cX3_minutesOfWay : ByteArray := prog_5_method_9_code
def yX3_minutesOfWay : MethodName := ⟨RX3, "minutesOfWay", "(III)I"⟩
def RX4 : String := "HouseBells"
def TX4 : u_T := fun k => match k with
  | 0 => ("HouseBells", "house", "LHouseBells$House;", true)
  | _ => ("HouseBells", "trial", "LHouseBells$House;", true)
def tyX4 : Nat → FieldType := fun k => match k with
  | 0 => .object "HouseBells$House"
  | _ => .object "HouseBells$House"
abbrev wsX40 : List Cond := u_ws RX4 TX4 2
theorem nmX4 : ∀ a, a < 2 → ∀ b, b < 2 → a ≠ b → (TX4 a).2.1 ≠ (TX4 b).2.1 := by decide +kernel
theorem tyX4_ok : ∀ k, k < 2 → parseFieldDescriptor (TX4 k).2.2.1 = some (tyX4 k) := by decide +kernel
abbrev cX4_init : ByteArray := prog_1_method_1_code
def yX4_init : MethodName := ⟨RX4, "<init>", "()V"⟩
abbrev cX4_addRoom : ByteArray := prog_1_method_2_code
def yX4_addRoom : MethodName := ⟨RX4, "addRoom", "(III)I"⟩
abbrev cX4_addServant : ByteArray := prog_1_method_3_code
def yX4_addServant : MethodName := ⟨RX4, "addServant", "(I)I"⟩
abbrev cX4_ring : ByteArray := prog_1_method_4_code
def yX4_ring : MethodName := ⟨RX4, "ring", "(I)Z"⟩
abbrev cX4_cross : ByteArray := prog_1_method_5_code
def yX4_cross : MethodName := ⟨RX4, "cross", "(II)I"⟩
abbrev cX4_cut : ByteArray := prog_1_method_6_code
def yX4_cut : MethodName := ⟨RX4, "cut", "(I)I"⟩
abbrev cX4_mend : ByteArray := prog_1_method_7_code
def yX4_mend : MethodName := ⟨RX4, "mend", "(I)I"⟩
abbrev cX4_recharge : ByteArray := prog_1_method_8_code
def yX4_recharge : MethodName := ⟨RX4, "recharge", "(I)I"⟩
abbrev cX4_putUp : ByteArray := prog_1_method_9_code
def yX4_putUp : MethodName := ⟨RX4, "putUp", "(I)I"⟩
abbrev cX4_pass : ByteArray := prog_1_method_10_code
def yX4_pass : MethodName := ⟨RX4, "pass", "(I)I"⟩
abbrev cX4_minute : ByteArray := prog_1_method_11_code
def yX4_minute : MethodName := ⟨RX4, "minute", "()I"⟩
abbrev cX4_rooms : ByteArray := prog_1_method_12_code
def yX4_rooms : MethodName := ⟨RX4, "rooms", "()I"⟩
abbrev cX4_servants : ByteArray := prog_1_method_13_code
def yX4_servants : MethodName := ⟨RX4, "servants", "()I"⟩
abbrev cX4_charge : ByteArray := prog_1_method_14_code
def yX4_charge : MethodName := ⟨RX4, "charge", "()I"⟩
abbrev cX4_served : ByteArray := prog_1_method_15_code
def yX4_served : MethodName := ⟨RX4, "served", "()I"⟩
abbrev cX4_inVain : ByteArray := prog_1_method_16_code
def yX4_inVain : MethodName := ⟨RX4, "inVain", "()I"⟩
abbrev cX4_gaveUp : ByteArray := prog_1_method_17_code
def yX4_gaveUp : MethodName := ⟨RX4, "gaveUp", "()I"⟩
abbrev cX4_unheard : ByteArray := prog_1_method_18_code
def yX4_unheard : MethodName := ⟨RX4, "unheard", "()I"⟩
abbrev cX4_dropOf : ByteArray := prog_1_method_19_code
def yX4_dropOf : MethodName := ⟨RX4, "dropOf", "(I)I"⟩
abbrev cX4_roomOf : ByteArray := prog_1_method_20_code
def yX4_roomOf : MethodName := ⟨RX4, "roomOf", "(I)I"⟩
abbrev cX4_isCut : ByteArray := prog_1_method_21_code
def yX4_isCut : MethodName := ⟨RX4, "isCut", "(I)Z"⟩
abbrev cX4_waitedFor : ByteArray := prog_1_method_22_code
def yX4_waitedFor : MethodName := ⟨RX4, "waitedFor", "(I)I"⟩
abbrev cX4_longestWaiting : ByteArray := prog_1_method_23_code
def yX4_longestWaiting : MethodName := ⟨RX4, "longestWaiting", "()I"⟩
abbrev cX4_crossed : ByteArray := prog_1_method_24_code
def yX4_crossed : MethodName := ⟨RX4, "crossed", "()I"⟩
abbrev cX4_crossingsNeeded : ByteArray := prog_1_method_25_code
def yX4_crossingsNeeded : MethodName := ⟨RX4, "crossingsNeeded", "()I"⟩
abbrev cX4_fallen : ByteArray := prog_1_method_26_code
def yX4_fallen : MethodName := ⟨RX4, "fallen", "()I"⟩
abbrev cX4_hasFallen : ByteArray := prog_1_method_27_code
def yX4_hasFallen : MethodName := ⟨RX4, "hasFallen", "(I)Z"⟩
abbrev cX4_placeInLine : ByteArray := prog_1_method_28_code
def yX4_placeInLine : MethodName := ⟨RX4, "placeInLine", "(I)I"⟩
abbrev cX4_nextDrop : ByteArray := prog_1_method_29_code
def yX4_nextDrop : MethodName := ⟨RX4, "nextDrop", "()I"⟩
abbrev cX4_ringsLeft : ByteArray := prog_1_method_30_code
def yX4_ringsLeft : MethodName := ⟨RX4, "ringsLeft", "(I)I"⟩
abbrev cX4_floorOf : ByteArray := prog_1_method_31_code
def yX4_floorOf : MethodName := ⟨RX4, "floorOf", "(I)I"⟩
abbrev cX4_goesTo : ByteArray := prog_1_method_32_code
def yX4_goesTo : MethodName := ⟨RX4, "goesTo", "(I)I"⟩
abbrev cX4_serves : ByteArray := prog_1_method_33_code
def yX4_serves : MethodName := ⟨RX4, "serves", "(I)I"⟩
abbrev cX4_minutesLeft : ByteArray := prog_1_method_34_code
def yX4_minutesLeft : MethodName := ⟨RX4, "minutesLeft", "(I)I"⟩
abbrev cX4_wayTo : ByteArray := prog_1_method_35_code
def yX4_wayTo : MethodName := ⟨RX4, "wayTo", "(II)I"⟩
abbrev cX4_nearestIdle : ByteArray := prog_1_method_36_code
def yX4_nearestIdle : MethodName := ⟨RX4, "nearestIdle", "(I)I"⟩
abbrev cX4_minutesUntilServed : ByteArray := prog_1_method_37_code
def yX4_minutesUntilServed : MethodName := ⟨RX4, "minutesUntilServed", "(I)I"⟩
abbrev cX4_servedIn : ByteArray := prog_1_method_38_code
def yX4_servedIn : MethodName := ⟨RX4, "servedIn", "(I)I"⟩
abbrev cX4_bestToCross : ByteArray := prog_1_method_39_code
def yX4_bestToCross : MethodName := ⟨RX4, "bestToCross", "(I)I"⟩
abbrev cX4_meanWait : ByteArray := prog_1_method_40_code
def yX4_meanWait : MethodName := ⟨RX4, "meanWait", "()D"⟩
abbrev cX4_digest : ByteArray := prog_1_method_41_code
def yX4_digest : MethodName := ⟨RX4, "digest", "()J"⟩
abbrev cX4_requireRoom : ByteArray := prog_1_method_42_code
def yX4_requireRoom : MethodName := ⟨RX4, "requireRoom", "(I)V"⟩
abbrev cX4_requireServant : ByteArray := prog_1_method_43_code
def yX4_requireServant : MethodName := ⟨RX4, "requireServant", "(I)V"⟩
abbrev cX4_requireMinutes : ByteArray := prog_1_method_44_code
def yX4_requireMinutes : MethodName := ⟨RX4, "requireMinutes", "(I)V"⟩
abbrev cX4_isWithin : ByteArray := prog_1_method_45_code
def yX4_isWithin : MethodName := ⟨RX4, "isWithin", "(III)Z"⟩
abbrev cX4_serveInTrial : ByteArray := prog_1_method_46_code
def yX4_serveInTrial : MethodName := ⟨RX4, "serveInTrial", "(I)I"⟩
abbrev cX4_quotient : ByteArray := prog_1_method_47_code
def yX4_quotient : MethodName := ⟨RX4, "quotient", "(II)I"⟩
abbrev cX4_mix : ByteArray := prog_1_method_48_code
def yX4_mix : MethodName := ⟨RX4, "mix", "(JI)J"⟩
def RX5 : String := "HouseBellsLaw$Sim"
def TX5 : u_T := fun k => match k with
  | 0 => ("HouseBellsLaw$Sim", "rooms", "[[I", false)
  | 1 => ("HouseBellsLaw$Sim", "servants", "[[I", false)
  | 2 => ("HouseBellsLaw$Sim", "line", "[I", false)
  | 3 => ("HouseBellsLaw$Sim", "minute", "I", false)
  | 4 => ("HouseBellsLaw$Sim", "charge", "I", false)
  | 5 => ("HouseBellsLaw$Sim", "served", "I", false)
  | 6 => ("HouseBellsLaw$Sim", "inVain", "I", false)
  | 7 => ("HouseBellsLaw$Sim", "gaveUp", "I", false)
  | _ => ("HouseBellsLaw$Sim", "unheard", "I", false)
def tyX5 : Nat → FieldType := fun k => match k with
  | 0 => .array (.array .int)
  | 1 => .array (.array .int)
  | 2 => .array .int
  | 3 => .int
  | 4 => .int
  | 5 => .int
  | 6 => .int
  | 7 => .int
  | _ => .int
abbrev wsX50 : List Cond := u_ws RX5 TX5 9
theorem nmX5 : ∀ a, a < 9 → ∀ b, b < 9 → a ≠ b → (TX5 a).2.1 ≠ (TX5 b).2.1 := by decide +kernel
theorem tyX5_ok : ∀ k, k < 9 → parseFieldDescriptor (TX5 k).2.2.1 = some (tyX5 k) := by decide +kernel
abbrev cX5_init : ByteArray := prog_7_method_1_code
def yX5_init : MethodName := ⟨RX5, "<init>", "()V"⟩
abbrev cX5_with : ByteArray := prog_7_method_2_code
def yX5_with : MethodName := ⟨RX5, "with", "([[I[I)[[I"⟩
abbrev cX5_copy : ByteArray := prog_7_method_3_code
def yX5_copy : MethodName := ⟨RX5, "copy", "()LHouseBellsLaw$Sim;"⟩
abbrev cX5_place : ByteArray := prog_7_method_4_code
def yX5_place : MethodName := ⟨RX5, "place", "(I)I"⟩
abbrev cX5_up : ByteArray := prog_7_method_5_code
def yX5_up : MethodName := ⟨RX5, "up", "(I)V"⟩
abbrev cX5_rings : ByteArray := prog_7_method_6_code
def yX5_rings : MethodName := ⟨RX5, "rings", "(I)Z"⟩
abbrev cX5_ring : ByteArray := prog_7_method_7_code
def yX5_ring : MethodName := ⟨RX5, "ring", "(I)Z"⟩
abbrev cX5_way : ByteArray := prog_7_method_8_code
def yX5_way : MethodName := ⟨RX5, "way", "(II)I"⟩
abbrev cX5_isIdle : ByteArray := prog_7_method_9_code
def yX5_isIdle : MethodName := ⟨RX5, "isIdle", "(I)Z"⟩
abbrev cX5_nearest : ByteArray := prog_7_method_10_code
def yX5_nearest : MethodName := ⟨RX5, "nearest", "(I)I"⟩
abbrev cX5_pass : ByteArray := prog_7_method_11_code
def yX5_pass : MethodName := ⟨RX5, "pass", "()I"⟩
abbrev cX5_pass_ : ByteArray := prog_7_method_12_code
def yX5_pass_ : MethodName := ⟨RX5, "pass", "(I)I"⟩
abbrev cX5_cut : ByteArray := prog_7_method_14_code
def yX5_cut : MethodName := ⟨RX5, "cut", "()I"⟩
abbrev cX5_cross : ByteArray := prog_7_method_15_code
def yX5_cross : MethodName := ⟨RX5, "cross", "(II)V"⟩
abbrev cX5_crossings : ByteArray := prog_7_method_16_code
def yX5_crossings : MethodName := ⟨RX5, "crossings", "()I"⟩
abbrev cX5_isSame : ByteArray := prog_7_method_17_code
def yX5_isSame : MethodName := ⟨RX5, "isSame", "(LHouseBells;)Z"⟩
def RX6 : String := "HouseBellsModel"
def TX6 : u_T := fun k => match k with
  | _ => ("", "", "", false)
def tyX6 : Nat → FieldType := fun k => match k with
  | _ => .int
abbrev wsX60 : List Cond := u_ws RX6 TX6 0
theorem nmX6 : ∀ a, a < 0 → ∀ b, b < 0 → a ≠ b → (TX6 a).2.1 ≠ (TX6 b).2.1 := by decide +kernel
theorem tyX6_ok : ∀ k, k < 0 → parseFieldDescriptor (TX6 k).2.2.1 = some (tyX6 k) := by decide +kernel
def RJx8e188 : String := "java/lang/Cloneable"
def TJx8e188 : u_T := fun k => match k with
  | _ => ("", "", "", false)
def tyJx8e188 : Nat → FieldType := fun k => match k with
  | _ => .int
abbrev wsJx8e1880 : List Cond := u_ws RJx8e188 TJx8e188 0
theorem nmJx8e188 : ∀ a, a < 0 → ∀ b, b < 0 → a ≠ b → (TJx8e188 a).2.1 ≠ (TJx8e188 b).2.1 := by decide +kernel
theorem tyJx8e188_ok : ∀ k, k < 0 → parseFieldDescriptor (TJx8e188 k).2.2.1 = some (tyJx8e188 k) := by decide +kernel
def RJ9 : String := "java/lang/Math"
def TJ9 : u_T := fun k => match k with
  | _ => ("", "", "", false)
def tyJ9 : Nat → FieldType := fun k => match k with
  | _ => .int
abbrev wsJ90 : List Cond := u_ws RJ9 TJ9 0
theorem nmJ9 : ∀ a, a < 0 → ∀ b, b < 0 → a ≠ b → (TJ9 a).2.1 ≠ (TJ9 b).2.1 := by decide +kernel
theorem tyJ9_ok : ∀ k, k < 0 → parseFieldDescriptor (TJ9 k).2.2.1 = some (tyJ9 k) := by decide +kernel
abbrev cJ9_abs_0f7a4 : ByteArray := prog_14_method_59_code
def yJ9_abs_0f7a4 : MethodName := ⟨RJ9, "abs", "(I)I"⟩
abbrev cJ9_max_7cf53 : ByteArray := prog_14_method_65_code
def yJ9_max_7cf53 : MethodName := ⟨RJ9, "max", "(II)I"⟩
def RJ0 : String := "java/lang/String"
def TJ0 : u_T := fun k => match k with
  | _ => ("", "", "", false)
def tyJ0 : Nat → FieldType := fun k => match k with
  | _ => .int
abbrev wsJ00 : List Cond := u_ws RJ0 TJ0 0
theorem nmJ0 : ∀ a, a < 0 → ∀ b, b < 0 → a ≠ b → (TJ0 a).2.1 ≠ (TJ0 b).2.1 := by decide +kernel
theorem tyJ0_ok : ∀ k, k < 0 → parseFieldDescriptor (TJ0 k).2.2.1 = some (tyJ0 k) := by decide +kernel
def RL : String := "HouseBellsLaw"
abbrev cL_below : ByteArray := method_2_code
def yL_below : MethodName := ⟨RL, "below", "(II)I"⟩
abbrev cL_cell : ByteArray := method_3_code
def yL_cell : MethodName := ⟨RL, "cell", "([II)I"⟩
abbrev cL_act : ByteArray := method_4_code
def yL_act : MethodName := ⟨RL, "act", "(LHouseBells;LHouseBellsLaw$Sim;I)Z"⟩
abbrev cL_build : ByteArray := method_5_code
def yL_build : MethodName := ⟨RL, "build", "(LHouseBells;[I)LHouseBellsLaw$Sim;"⟩
abbrev cL_law : ByteArray := code
def yL_law : MethodName := ⟨RL, "law", "([I)Z"⟩
def wsX2_init : List Cond := .code yX2_init cX2_init 1 none :: ([.methodLink RX2 3 objectInit, .instanceMethod objectInit, .code objectInit ⟨#[0xb1]⟩ 1 none, .arrayClass .int, .fieldLink RX2 9 "HouseBells$Row" "cells" "[I"] ++ wsX20)
def wsX1_init : List Cond := .code yX1_init cX1_init 1 none :: ([.methodLink RX1 3 objectInit, .instanceMethod objectInit, .code objectInit ⟨#[0xb1]⟩ 1 none, .arrayClass .int, .fieldLink RX1 9 "HouseBells$Line" "drops" "[I"] ++ wsX10)
def wsX3_init : List Cond := .code yX3_init cX3_init 1 none :: ([.methodLink RX3 3 objectInit, .instanceMethod objectInit, .code objectInit ⟨#[0xb1]⟩ 1 none, .classLink RX3 9 RX2, .instantiable RX2 1, .initialized RX2, .fieldLink RX3 12 "HouseBells$Staff" "pace" "LHouseBells$Row;", .fieldLink RX3 18 "HouseBells$Staff" "floor" "LHouseBells$Row;", .fieldLink RX3 21 "HouseBells$Staff" "goal" "LHouseBells$Row;", .fieldLink RX3 24 "HouseBells$Staff" "guest" "LHouseBells$Row;", .fieldLink RX3 27 "HouseBells$Staff" "left" "LHouseBells$Row;", .methodLink RX3 11 yX2_init, .instanceMethod yX2_init, .code yX2_init cX2_init 1 none, .methodLink RX2 3 objectInit, .arrayClass .int, .fieldLink RX2 9 "HouseBells$Row" "cells" "[I"] ++ wsX20 ++ wsX30)
def wsX0_init_r1 : List Cond := [Cond.methodLink RX0 3 objectInit, Cond.instanceMethod objectInit, Cond.code objectInit ⟨#[0xb1]⟩ 1 none, Cond.fieldLink RX0 9 "HouseBells$House" "charge" "I", Cond.classLink RX0 15 RX2, Cond.instantiable RX2 1, Cond.initialized RX2, Cond.fieldLink RX0 18 "HouseBells$House" "floor" "LHouseBells$Row;", Cond.fieldLink RX0 22 "HouseBells$House" "patience" "LHouseBells$Row;", Cond.fieldLink RX0 25 "HouseBells$House" "need" "LHouseBells$Row;", Cond.fieldLink RX0 28 "HouseBells$House" "wire" "LHouseBells$Row;", Cond.fieldLink RX0 31 "HouseBells$House" "cut" "LHouseBells$Row;", Cond.fieldLink RX0 34 "HouseBells$House" "waited" "LHouseBells$Row;", Cond.classLink RX0 37 RX1, Cond.instantiable RX1 2, Cond.initialized RX1, Cond.fieldLink RX0 40 "HouseBells$House" "line" "LHouseBells$Line;", Cond.classLink RX0 44 RX3, Cond.instantiable RX3 6, Cond.initialized RX3, Cond.fieldLink RX0 47 "HouseBells$House" "staff" "LHouseBells$Staff;", Cond.methodLink RX0 17 yX2_init, Cond.instanceMethod yX2_init, Cond.code yX2_init cX2_init 1 none]
def wsX0_init_r2 : List Cond := [Cond.methodLink RX2 3 objectInit, Cond.arrayClass .int, Cond.fieldLink RX2 9 "HouseBells$Row" "cells" "[I", Cond.methodLink RX0 39 yX1_init, Cond.instanceMethod yX1_init, Cond.code yX1_init cX1_init 1 none, Cond.methodLink RX1 3 objectInit, Cond.fieldLink RX1 9 "HouseBells$Line" "drops" "[I", Cond.methodLink RX0 46 yX3_init, Cond.instanceMethod yX3_init, Cond.code yX3_init cX3_init 1 none, Cond.methodLink RX3 3 objectInit, Cond.classLink RX3 9 RX2, Cond.fieldLink RX3 12 "HouseBells$Staff" "pace" "LHouseBells$Row;", Cond.fieldLink RX3 18 "HouseBells$Staff" "floor" "LHouseBells$Row;", Cond.fieldLink RX3 21 "HouseBells$Staff" "goal" "LHouseBells$Row;", Cond.fieldLink RX3 24 "HouseBells$Staff" "guest" "LHouseBells$Row;", Cond.fieldLink RX3 27 "HouseBells$Staff" "left" "LHouseBells$Row;", Cond.methodLink RX3 11 yX2_init]
def wsX0_init : List Cond := .code yX0_init cX0_init 1 none :: ((wsX0_init_r1 ++ wsX0_init_r2) ++ wsX00 ++ wsX20 ++ wsX10 ++ wsX30)
def wsX2_copyFrom : List Cond := .code yX2_copyFrom cX2_copyFrom 3 none :: ([.fieldLink RX2 9 "HouseBells$Row" "cells" "[I"] ++ wsX20)
def wsX1_copyFrom : List Cond := .code yX1_copyFrom cX1_copyFrom 3 none :: ([.fieldLink RX1 15 "HouseBells$Line" "count" "I", .fieldLink RX1 9 "HouseBells$Line" "drops" "[I"] ++ wsX10)
def wsX3_copyFrom : List Cond := .code yX3_copyFrom cX3_copyFrom 2 none :: ([.fieldLink RX3 30 "HouseBells$Staff" "count" "I", .fieldLink RX3 12 "HouseBells$Staff" "pace" "LHouseBells$Row;", .fieldLink RX3 18 "HouseBells$Staff" "floor" "LHouseBells$Row;", .fieldLink RX3 21 "HouseBells$Staff" "goal" "LHouseBells$Row;", .fieldLink RX3 24 "HouseBells$Staff" "guest" "LHouseBells$Row;", .fieldLink RX3 27 "HouseBells$Staff" "left" "LHouseBells$Row;", .methodLink RX3 34 yX2_copyFrom, .instanceMethod yX2_copyFrom, .selects RX2 yX2_copyFrom yX2_copyFrom, .initialized RX2, .code yX2_copyFrom cX2_copyFrom 3 none, .fieldLink RX2 9 "HouseBells$Row" "cells" "[I"] ++ wsX30 ++ wsX20)
def wsX0_copyFrom_r1 : List Cond := [Cond.fieldLink RX0 51 "HouseBells$House" "minute" "I", Cond.fieldLink RX0 54 "HouseBells$House" "roomCount" "I", Cond.fieldLink RX0 9 "HouseBells$House" "charge" "I", Cond.fieldLink RX0 57 "HouseBells$House" "served" "I", Cond.fieldLink RX0 60 "HouseBells$House" "inVain" "I", Cond.fieldLink RX0 63 "HouseBells$House" "gaveUp" "I", Cond.fieldLink RX0 66 "HouseBells$House" "unheard" "I", Cond.fieldLink RX0 18 "HouseBells$House" "floor" "LHouseBells$Row;", Cond.fieldLink RX0 22 "HouseBells$House" "patience" "LHouseBells$Row;", Cond.fieldLink RX0 25 "HouseBells$House" "need" "LHouseBells$Row;", Cond.fieldLink RX0 28 "HouseBells$House" "wire" "LHouseBells$Row;", Cond.fieldLink RX0 31 "HouseBells$House" "cut" "LHouseBells$Row;", Cond.fieldLink RX0 34 "HouseBells$House" "waited" "LHouseBells$Row;", Cond.fieldLink RX0 40 "HouseBells$House" "line" "LHouseBells$Line;", Cond.fieldLink RX0 47 "HouseBells$House" "staff" "LHouseBells$Staff;", Cond.methodLink RX0 69 yX2_copyFrom, Cond.instanceMethod yX2_copyFrom, Cond.selects RX2 yX2_copyFrom yX2_copyFrom, Cond.initialized RX2, Cond.code yX2_copyFrom cX2_copyFrom 3 none, Cond.fieldLink RX2 9 "HouseBells$Row" "cells" "[I", Cond.methodLink RX0 73 yX1_copyFrom, Cond.instanceMethod yX1_copyFrom, Cond.selects RX1 yX1_copyFrom yX1_copyFrom]
def wsX0_copyFrom_r2 : List Cond := [Cond.initialized RX1, Cond.code yX1_copyFrom cX1_copyFrom 3 none, Cond.fieldLink RX1 15 "HouseBells$Line" "count" "I", Cond.fieldLink RX1 9 "HouseBells$Line" "drops" "[I", Cond.methodLink RX0 76 yX3_copyFrom, Cond.instanceMethod yX3_copyFrom, Cond.selects RX3 yX3_copyFrom yX3_copyFrom, Cond.initialized RX3, Cond.code yX3_copyFrom cX3_copyFrom 2 none, Cond.fieldLink RX3 30 "HouseBells$Staff" "count" "I", Cond.fieldLink RX3 12 "HouseBells$Staff" "pace" "LHouseBells$Row;", Cond.fieldLink RX3 18 "HouseBells$Staff" "floor" "LHouseBells$Row;", Cond.fieldLink RX3 21 "HouseBells$Staff" "goal" "LHouseBells$Row;", Cond.fieldLink RX3 24 "HouseBells$Staff" "guest" "LHouseBells$Row;", Cond.fieldLink RX3 27 "HouseBells$Staff" "left" "LHouseBells$Row;", Cond.methodLink RX3 34 yX2_copyFrom]
def wsX0_copyFrom : List Cond := .code yX0_copyFrom cX0_copyFrom 2 none :: ((wsX0_copyFrom_r1 ++ wsX0_copyFrom_r2) ++ wsX00 ++ wsX20 ++ wsX10 ++ wsX30)
def wsX2_set : List Cond := .code yX2_set cX2_set 3 none :: ([.fieldLink RX2 9 "HouseBells$Row" "cells" "[I"] ++ wsX20)
def wsX0_openRoom : List Cond := .code yX0_openRoom cX0_openRoom 5 (some .int) :: ([.fieldLink RX0 54 "HouseBells$House" "roomCount" "I", .fieldLink RX0 18 "HouseBells$House" "floor" "LHouseBells$Row;", .fieldLink RX0 22 "HouseBells$House" "patience" "LHouseBells$Row;", .fieldLink RX0 25 "HouseBells$House" "need" "LHouseBells$Row;", .fieldLink RX0 28 "HouseBells$House" "wire" "LHouseBells$Row;", .fieldLink RX0 31 "HouseBells$House" "cut" "LHouseBells$Row;", .fieldLink RX0 34 "HouseBells$House" "waited" "LHouseBells$Row;", .methodLink RX0 79 yX2_set, .instanceMethod yX2_set, .selects RX2 yX2_set yX2_set, .initialized RX2, .code yX2_set cX2_set 3 none, .fieldLink RX2 9 "HouseBells$Row" "cells" "[I"] ++ wsX00 ++ wsX20)
def wsX2_get : List Cond := .code yX2_get cX2_get 2 (some .int) :: ([.fieldLink RX2 9 "HouseBells$Row" "cells" "[I"] ++ wsX20)
def wsX0_isWaiting : List Cond := .code yX0_isWaiting cX0_isWaiting 2 (some .boolean) :: ([.fieldLink RX0 34 "HouseBells$House" "waited" "LHouseBells$Row;", .methodLink RX0 83 yX2_get, .instanceMethod yX2_get, .selects RX2 yX2_get yX2_get, .initialized RX2, .code yX2_get cX2_get 2 (some .int), .fieldLink RX2 9 "HouseBells$Row" "cells" "[I"] ++ wsX00 ++ wsX20)
def wsX0_isAnyoneWaiting : List Cond := .code yX0_isAnyoneWaiting cX0_isAnyoneWaiting 2 (some .boolean) :: ([.fieldLink RX0 54 "HouseBells$House" "roomCount" "I", .fieldLink RX0 34 "HouseBells$House" "waited" "LHouseBells$Row;", .methodLink RX0 83 yX2_get, .instanceMethod yX2_get, .selects RX2 yX2_get yX2_get, .initialized RX2, .code yX2_get cX2_get 2 (some .int), .fieldLink RX2 9 "HouseBells$Row" "cells" "[I"] ++ wsX00 ++ wsX20)
def wsX0_isWireCut : List Cond := .code yX0_isWireCut cX0_isWireCut 2 (some .boolean) :: ([.fieldLink RX0 31 "HouseBells$House" "cut" "LHouseBells$Row;", .methodLink RX0 83 yX2_get, .instanceMethod yX2_get, .selects RX2 yX2_get yX2_get, .initialized RX2, .code yX2_get cX2_get 2 (some .int), .fieldLink RX2 9 "HouseBells$Row" "cells" "[I"] ++ wsX00 ++ wsX20)
def wsX0_countCutWires : List Cond := .code yX0_countCutWires cX0_countCutWires 3 (some .int) :: ([.fieldLink RX0 54 "HouseBells$House" "roomCount" "I", .fieldLink RX0 31 "HouseBells$House" "cut" "LHouseBells$Row;", .methodLink RX0 83 yX2_get, .instanceMethod yX2_get, .selects RX2 yX2_get yX2_get, .initialized RX2, .code yX2_get cX2_get 2 (some .int), .fieldLink RX2 9 "HouseBells$Row" "cells" "[I"] ++ wsX00 ++ wsX20)
def wsX0_swapWires : List Cond := .code yX0_swapWires cX0_swapWires 4 none :: ([.fieldLink RX0 28 "HouseBells$House" "wire" "LHouseBells$Row;", .methodLink RX0 83 yX2_get, .instanceMethod yX2_get, .selects RX2 yX2_get yX2_get, .initialized RX2, .code yX2_get cX2_get 2 (some .int), .fieldLink RX2 9 "HouseBells$Row" "cells" "[I", .methodLink RX0 79 yX2_set, .instanceMethod yX2_set, .selects RX2 yX2_set yX2_set, .code yX2_set cX2_set 3 none] ++ wsX00 ++ wsX20)
def wsX0_isFirstOfItsCircle : List Cond := .code yX0_isFirstOfItsCircle cX0_isFirstOfItsCircle 4 (some .boolean) :: ([.fieldLink RX0 28 "HouseBells$House" "wire" "LHouseBells$Row;", .fieldLink RX0 54 "HouseBells$House" "roomCount" "I", .methodLink RX0 83 yX2_get, .instanceMethod yX2_get, .selects RX2 yX2_get yX2_get, .initialized RX2, .code yX2_get cX2_get 2 (some .int), .fieldLink RX2 9 "HouseBells$Row" "cells" "[I"] ++ wsX00 ++ wsX20)
def wsX0_costFrom : List Cond := .code yX0_costFrom cX0_costFrom 1 (some .int) :: ([])
def wsX1_placeOf : List Cond := .code yX1_placeOf cX1_placeOf 3 (some .int) :: ([.fieldLink RX1 15 "HouseBells$Line" "count" "I", .fieldLink RX1 9 "HouseBells$Line" "drops" "[I"] ++ wsX10)
def wsX1_append : List Cond := .code yX1_append cX1_append 2 none :: ([.fieldLink RX1 15 "HouseBells$Line" "count" "I", .fieldLink RX1 9 "HouseBells$Line" "drops" "[I"] ++ wsX10)
def wsX0_pullBell_r1 : List Cond := [Cond.fieldLink RX0 18 "HouseBells$House" "floor" "LHouseBells$Row;", Cond.fieldLink RX0 31 "HouseBells$House" "cut" "LHouseBells$Row;", Cond.fieldLink RX0 9 "HouseBells$House" "charge" "I", Cond.fieldLink RX0 66 "HouseBells$House" "unheard" "I", Cond.fieldLink RX0 28 "HouseBells$House" "wire" "LHouseBells$Row;", Cond.fieldLink RX0 40 "HouseBells$House" "line" "LHouseBells$Line;", Cond.methodLink RX0 83 yX2_get, Cond.instanceMethod yX2_get, Cond.selects RX2 yX2_get yX2_get, Cond.initialized RX2, Cond.code yX2_get cX2_get 2 (some .int), Cond.fieldLink RX2 9 "HouseBells$Row" "cells" "[I", Cond.methodLink RX0 87 yX0_costFrom, Cond.static yX0_costFrom, Cond.initialized RX0, Cond.code yX0_costFrom cX0_costFrom 1 (some .int), Cond.methodLink RX0 90 yX1_placeOf, Cond.instanceMethod yX1_placeOf, Cond.selects RX1 yX1_placeOf yX1_placeOf, Cond.initialized RX1, Cond.code yX1_placeOf cX1_placeOf 3 (some .int), Cond.fieldLink RX1 15 "HouseBells$Line" "count" "I", Cond.fieldLink RX1 9 "HouseBells$Line" "drops" "[I", Cond.methodLink RX0 93 yX1_append]
def wsX0_pullBell_r2 : List Cond := [Cond.instanceMethod yX1_append, Cond.selects RX1 yX1_append yX1_append, Cond.code yX1_append cX1_append 2 none]
def wsX0_pullBell : List Cond := .code yX0_pullBell cX0_pullBell 4 (some .boolean) :: ((wsX0_pullBell_r1 ++ wsX0_pullBell_r2) ++ wsX00 ++ wsX20 ++ wsX10)
def wsX0_isMultiple : List Cond := .code yX0_isMultiple cX0_isMultiple 2 (some .boolean) :: ([])
def wsX0_letRoomsWait_r1 : List Cond := [Cond.fieldLink RX0 54 "HouseBells$House" "roomCount" "I", Cond.fieldLink RX0 34 "HouseBells$House" "waited" "LHouseBells$Row;", Cond.fieldLink RX0 63 "HouseBells$House" "gaveUp" "I", Cond.fieldLink RX0 22 "HouseBells$House" "patience" "LHouseBells$Row;", Cond.methodLink RX0 83 yX2_get, Cond.instanceMethod yX2_get, Cond.selects RX2 yX2_get yX2_get, Cond.initialized RX2, Cond.code yX2_get cX2_get 2 (some .int), Cond.fieldLink RX2 9 "HouseBells$Row" "cells" "[I", Cond.methodLink RX0 79 yX2_set, Cond.instanceMethod yX2_set, Cond.selects RX2 yX2_set yX2_set, Cond.code yX2_set cX2_set 3 none, Cond.methodLink RX0 106 yX0_isMultiple, Cond.static yX0_isMultiple, Cond.initialized RX0, Cond.code yX0_isMultiple cX0_isMultiple 2 (some .boolean), Cond.methodLink RX0 110 yX0_pullBell, Cond.instanceMethod yX0_pullBell, Cond.selects RX0 yX0_pullBell yX0_pullBell, Cond.code yX0_pullBell cX0_pullBell 4 (some .boolean), Cond.fieldLink RX0 18 "HouseBells$House" "floor" "LHouseBells$Row;", Cond.fieldLink RX0 31 "HouseBells$House" "cut" "LHouseBells$Row;"]
def wsX0_letRoomsWait_r2 : List Cond := [Cond.fieldLink RX0 9 "HouseBells$House" "charge" "I", Cond.fieldLink RX0 66 "HouseBells$House" "unheard" "I", Cond.fieldLink RX0 28 "HouseBells$House" "wire" "LHouseBells$Row;", Cond.fieldLink RX0 40 "HouseBells$House" "line" "LHouseBells$Line;", Cond.methodLink RX0 87 yX0_costFrom, Cond.static yX0_costFrom, Cond.code yX0_costFrom cX0_costFrom 1 (some .int), Cond.methodLink RX0 90 yX1_placeOf, Cond.instanceMethod yX1_placeOf, Cond.selects RX1 yX1_placeOf yX1_placeOf, Cond.initialized RX1, Cond.code yX1_placeOf cX1_placeOf 3 (some .int), Cond.fieldLink RX1 15 "HouseBells$Line" "count" "I", Cond.fieldLink RX1 9 "HouseBells$Line" "drops" "[I", Cond.methodLink RX0 93 yX1_append, Cond.instanceMethod yX1_append, Cond.selects RX1 yX1_append yX1_append, Cond.code yX1_append cX1_append 2 none]
def wsX0_letRoomsWait : List Cond := .code yX0_letRoomsWait cX0_letRoomsWait 3 none :: ((wsX0_letRoomsWait_r1 ++ wsX0_letRoomsWait_r2) ++ wsX00 ++ wsX20 ++ wsX10)
def wsX3_isIdle : List Cond := .code yX3_isIdle cX3_isIdle 2 (some .boolean) :: ([.fieldLink RX3 21 "HouseBells$Staff" "goal" "LHouseBells$Row;", .fieldLink RX3 24 "HouseBells$Staff" "guest" "LHouseBells$Row;", .methodLink RX3 46 yX2_get, .instanceMethod yX2_get, .selects RX2 yX2_get yX2_get, .initialized RX2, .code yX2_get cX2_get 2 (some .int), .fieldLink RX2 9 "HouseBells$Row" "cells" "[I"] ++ wsX30 ++ wsX20)
def wsX3_rest : List Cond := .code yX3_rest cX3_rest 2 none :: ([.fieldLink RX3 21 "HouseBells$Staff" "goal" "LHouseBells$Row;", .fieldLink RX3 24 "HouseBells$Staff" "guest" "LHouseBells$Row;", .fieldLink RX3 27 "HouseBells$Staff" "left" "LHouseBells$Row;", .methodLink RX3 38 yX2_set, .instanceMethod yX2_set, .selects RX2 yX2_set yX2_set, .initialized RX2, .code yX2_set cX2_set 3 none, .fieldLink RX2 9 "HouseBells$Row" "cells" "[I"] ++ wsX30 ++ wsX20)
def wsX0_arrive : List Cond := .code yX0_arrive cX0_arrive 3 none :: ([.fieldLink RX0 47 "HouseBells$House" "staff" "LHouseBells$Staff;", .fieldLink RX0 18 "HouseBells$House" "floor" "LHouseBells$Row;", .fieldLink RX0 34 "HouseBells$House" "waited" "LHouseBells$Row;", .fieldLink RX0 60 "HouseBells$House" "inVain" "I", .fieldLink RX0 57 "HouseBells$House" "served" "I", .fieldLink RX0 25 "HouseBells$House" "need" "LHouseBells$Row;", .methodLink RX0 83 yX2_get, .instanceMethod yX2_get, .selects RX2 yX2_get yX2_get, .initialized RX2, .code yX2_get cX2_get 2 (some .int), .fieldLink RX2 9 "HouseBells$Row" "cells" "[I", .methodLink RX0 79 yX2_set, .instanceMethod yX2_set, .selects RX2 yX2_set yX2_set, .code yX2_set cX2_set 3 none] ++ wsX00 ++ wsX30 ++ wsX20)
def wsX0_letServantsMove_r1 : List Cond := [Cond.fieldLink RX0 47 "HouseBells$House" "staff" "LHouseBells$Staff;", Cond.methodLink RX0 117 yX3_isIdle, Cond.instanceMethod yX3_isIdle, Cond.selects RX3 yX3_isIdle yX3_isIdle, Cond.initialized RX3, Cond.code yX3_isIdle cX3_isIdle 2 (some .boolean), Cond.fieldLink RX3 21 "HouseBells$Staff" "goal" "LHouseBells$Row;", Cond.fieldLink RX3 24 "HouseBells$Staff" "guest" "LHouseBells$Row;", Cond.methodLink RX3 46 yX2_get, Cond.instanceMethod yX2_get, Cond.selects RX2 yX2_get yX2_get, Cond.initialized RX2, Cond.code yX2_get cX2_get 2 (some .int), Cond.fieldLink RX2 9 "HouseBells$Row" "cells" "[I", Cond.methodLink RX0 83 yX2_get, Cond.methodLink RX0 79 yX2_set, Cond.instanceMethod yX2_set, Cond.selects RX2 yX2_set yX2_set, Cond.code yX2_set cX2_set 3 none, Cond.methodLink RX0 126 yX3_rest, Cond.instanceMethod yX3_rest, Cond.selects RX3 yX3_rest yX3_rest, Cond.code yX3_rest cX3_rest 2 none, Cond.fieldLink RX3 27 "HouseBells$Staff" "left" "LHouseBells$Row;"]
def wsX0_letServantsMove_r2 : List Cond := [Cond.methodLink RX3 38 yX2_set, Cond.methodLink RX0 129 yX0_arrive, Cond.instanceMethod yX0_arrive, Cond.selects RX0 yX0_arrive yX0_arrive, Cond.initialized RX0, Cond.code yX0_arrive cX0_arrive 3 none, Cond.fieldLink RX0 18 "HouseBells$House" "floor" "LHouseBells$Row;", Cond.fieldLink RX0 34 "HouseBells$House" "waited" "LHouseBells$Row;", Cond.fieldLink RX0 60 "HouseBells$House" "inVain" "I", Cond.fieldLink RX0 57 "HouseBells$House" "served" "I", Cond.fieldLink RX0 25 "HouseBells$House" "need" "LHouseBells$Row;"]
def wsX0_letServantsMove : List Cond := .code yX0_letServantsMove cX0_letServantsMove 4 none :: ((wsX0_letServantsMove_r1 ++ wsX0_letServantsMove_r2) ++ wsX00 ++ wsX30 ++ wsX20)
def wsX1_first : List Cond := .code yX1_first cX1_first 1 (some .int) :: ([.fieldLink RX1 15 "HouseBells$Line" "count" "I", .fieldLink RX1 9 "HouseBells$Line" "drops" "[I"] ++ wsX10)
def wsX3_minutesOfWay : List Cond := .code yX3_minutesOfWay cX3_minutesOfWay 5 (some .int) :: ([])
def wsX3_nearestTo : List Cond := .code yX3_nearestTo cX3_nearestTo 6 (some .int) :: ([.fieldLink RX3 30 "HouseBells$Staff" "count" "I", .fieldLink RX3 21 "HouseBells$Staff" "goal" "LHouseBells$Row;", .fieldLink RX3 24 "HouseBells$Staff" "guest" "LHouseBells$Row;", .fieldLink RX3 18 "HouseBells$Staff" "floor" "LHouseBells$Row;", .fieldLink RX3 12 "HouseBells$Staff" "pace" "LHouseBells$Row;", .methodLink RX3 46 yX2_get, .instanceMethod yX2_get, .selects RX2 yX2_get yX2_get, .initialized RX2, .code yX2_get cX2_get 2 (some .int), .fieldLink RX2 9 "HouseBells$Row" "cells" "[I", .methodLink RX3 50 yX3_minutesOfWay, .static yX3_minutesOfWay, .initialized RX3, .code yX3_minutesOfWay cX3_minutesOfWay 5 (some .int)] ++ wsX30 ++ wsX20)
def wsX1_remove : List Cond := .code yX1_remove cX1_remove 4 none :: ([.fieldLink RX1 15 "HouseBells$Line" "count" "I", .fieldLink RX1 9 "HouseBells$Line" "drops" "[I"] ++ wsX10)
def wsX3_wayToFloor : List Cond := .code yX3_wayToFloor cX3_wayToFloor 3 (some .int) :: ([.fieldLink RX3 18 "HouseBells$Staff" "floor" "LHouseBells$Row;", .fieldLink RX3 12 "HouseBells$Staff" "pace" "LHouseBells$Row;", .methodLink RX3 46 yX2_get, .instanceMethod yX2_get, .selects RX2 yX2_get yX2_get, .initialized RX2, .code yX2_get cX2_get 2 (some .int), .fieldLink RX2 9 "HouseBells$Row" "cells" "[I", .methodLink RX3 50 yX3_minutesOfWay, .static yX3_minutesOfWay, .initialized RX3, .code yX3_minutesOfWay cX3_minutesOfWay 5 (some .int)] ++ wsX30 ++ wsX20)
def wsX0_sendIdleServants_r1 : List Cond := [Cond.fieldLink RX0 47 "HouseBells$House" "staff" "LHouseBells$Staff;", Cond.fieldLink RX0 40 "HouseBells$House" "line" "LHouseBells$Line;", Cond.fieldLink RX0 18 "HouseBells$House" "floor" "LHouseBells$Row;", Cond.methodLink RX0 137 yX1_first, Cond.instanceMethod yX1_first, Cond.selects RX1 yX1_first yX1_first, Cond.initialized RX1, Cond.code yX1_first cX1_first 1 (some .int), Cond.fieldLink RX1 15 "HouseBells$Line" "count" "I", Cond.fieldLink RX1 9 "HouseBells$Line" "drops" "[I", Cond.methodLink RX0 83 yX2_get, Cond.instanceMethod yX2_get, Cond.selects RX2 yX2_get yX2_get, Cond.initialized RX2, Cond.code yX2_get cX2_get 2 (some .int), Cond.fieldLink RX2 9 "HouseBells$Row" "cells" "[I", Cond.methodLink RX0 141 yX3_nearestTo, Cond.instanceMethod yX3_nearestTo, Cond.selects RX3 yX3_nearestTo yX3_nearestTo, Cond.initialized RX3, Cond.code yX3_nearestTo cX3_nearestTo 6 (some .int), Cond.fieldLink RX3 30 "HouseBells$Staff" "count" "I", Cond.fieldLink RX3 21 "HouseBells$Staff" "goal" "LHouseBells$Row;", Cond.fieldLink RX3 24 "HouseBells$Staff" "guest" "LHouseBells$Row;"]
def wsX0_sendIdleServants_r2 : List Cond := [Cond.fieldLink RX3 18 "HouseBells$Staff" "floor" "LHouseBells$Row;", Cond.fieldLink RX3 12 "HouseBells$Staff" "pace" "LHouseBells$Row;", Cond.methodLink RX3 46 yX2_get, Cond.methodLink RX3 50 yX3_minutesOfWay, Cond.static yX3_minutesOfWay, Cond.code yX3_minutesOfWay cX3_minutesOfWay 5 (some .int), Cond.methodLink RX0 144 yX1_remove, Cond.instanceMethod yX1_remove, Cond.selects RX1 yX1_remove yX1_remove, Cond.code yX1_remove cX1_remove 4 none, Cond.methodLink RX0 147 yX3_wayToFloor, Cond.instanceMethod yX3_wayToFloor, Cond.selects RX3 yX3_wayToFloor yX3_wayToFloor, Cond.code yX3_wayToFloor cX3_wayToFloor 3 (some .int), Cond.methodLink RX0 79 yX2_set, Cond.instanceMethod yX2_set, Cond.selects RX2 yX2_set yX2_set, Cond.code yX2_set cX2_set 3 none]
def wsX0_sendIdleServants : List Cond := .code yX0_sendIdleServants cX0_sendIdleServants 5 none :: ((wsX0_sendIdleServants_r1 ++ wsX0_sendIdleServants_r2) ++ wsX00 ++ wsX30 ++ wsX10 ++ wsX20)
def wsX0_letMinuteGoBy_r1 : List Cond := [Cond.fieldLink RX0 57 "HouseBells$House" "served" "I", Cond.fieldLink RX0 51 "HouseBells$House" "minute" "I", Cond.methodLink RX0 97 yX0_letRoomsWait, Cond.instanceMethod yX0_letRoomsWait, Cond.selects RX0 yX0_letRoomsWait yX0_letRoomsWait, Cond.initialized RX0, Cond.code yX0_letRoomsWait cX0_letRoomsWait 3 none, Cond.fieldLink RX0 54 "HouseBells$House" "roomCount" "I", Cond.fieldLink RX0 34 "HouseBells$House" "waited" "LHouseBells$Row;", Cond.fieldLink RX0 63 "HouseBells$House" "gaveUp" "I", Cond.fieldLink RX0 22 "HouseBells$House" "patience" "LHouseBells$Row;", Cond.methodLink RX0 83 yX2_get, Cond.instanceMethod yX2_get, Cond.selects RX2 yX2_get yX2_get, Cond.initialized RX2, Cond.code yX2_get cX2_get 2 (some .int), Cond.fieldLink RX2 9 "HouseBells$Row" "cells" "[I", Cond.methodLink RX0 79 yX2_set, Cond.instanceMethod yX2_set, Cond.selects RX2 yX2_set yX2_set, Cond.code yX2_set cX2_set 3 none, Cond.methodLink RX0 106 yX0_isMultiple, Cond.static yX0_isMultiple, Cond.code yX0_isMultiple cX0_isMultiple 2 (some .boolean)]
def wsX0_letMinuteGoBy_r2 : List Cond := [Cond.methodLink RX0 110 yX0_pullBell, Cond.instanceMethod yX0_pullBell, Cond.selects RX0 yX0_pullBell yX0_pullBell, Cond.code yX0_pullBell cX0_pullBell 4 (some .boolean), Cond.fieldLink RX0 18 "HouseBells$House" "floor" "LHouseBells$Row;", Cond.fieldLink RX0 31 "HouseBells$House" "cut" "LHouseBells$Row;", Cond.fieldLink RX0 9 "HouseBells$House" "charge" "I", Cond.fieldLink RX0 66 "HouseBells$House" "unheard" "I", Cond.fieldLink RX0 28 "HouseBells$House" "wire" "LHouseBells$Row;", Cond.fieldLink RX0 40 "HouseBells$House" "line" "LHouseBells$Line;", Cond.methodLink RX0 87 yX0_costFrom, Cond.static yX0_costFrom, Cond.code yX0_costFrom cX0_costFrom 1 (some .int), Cond.methodLink RX0 90 yX1_placeOf, Cond.instanceMethod yX1_placeOf, Cond.selects RX1 yX1_placeOf yX1_placeOf, Cond.initialized RX1, Cond.code yX1_placeOf cX1_placeOf 3 (some .int), Cond.fieldLink RX1 15 "HouseBells$Line" "count" "I", Cond.fieldLink RX1 9 "HouseBells$Line" "drops" "[I", Cond.methodLink RX0 93 yX1_append, Cond.instanceMethod yX1_append, Cond.selects RX1 yX1_append yX1_append, Cond.code yX1_append cX1_append 2 none]
def wsX0_letMinuteGoBy_r3 : List Cond := [Cond.methodLink RX0 100 yX0_letServantsMove, Cond.instanceMethod yX0_letServantsMove, Cond.selects RX0 yX0_letServantsMove yX0_letServantsMove, Cond.code yX0_letServantsMove cX0_letServantsMove 4 none, Cond.fieldLink RX0 47 "HouseBells$House" "staff" "LHouseBells$Staff;", Cond.methodLink RX0 117 yX3_isIdle, Cond.instanceMethod yX3_isIdle, Cond.selects RX3 yX3_isIdle yX3_isIdle, Cond.initialized RX3, Cond.code yX3_isIdle cX3_isIdle 2 (some .boolean), Cond.fieldLink RX3 21 "HouseBells$Staff" "goal" "LHouseBells$Row;", Cond.fieldLink RX3 24 "HouseBells$Staff" "guest" "LHouseBells$Row;", Cond.methodLink RX3 46 yX2_get, Cond.methodLink RX0 126 yX3_rest, Cond.instanceMethod yX3_rest, Cond.selects RX3 yX3_rest yX3_rest, Cond.code yX3_rest cX3_rest 2 none, Cond.fieldLink RX3 27 "HouseBells$Staff" "left" "LHouseBells$Row;", Cond.methodLink RX3 38 yX2_set, Cond.methodLink RX0 129 yX0_arrive, Cond.instanceMethod yX0_arrive, Cond.selects RX0 yX0_arrive yX0_arrive, Cond.code yX0_arrive cX0_arrive 3 none, Cond.fieldLink RX0 60 "HouseBells$House" "inVain" "I"]
def wsX0_letMinuteGoBy_r4 : List Cond := [Cond.fieldLink RX0 25 "HouseBells$House" "need" "LHouseBells$Row;", Cond.methodLink RX0 103 yX0_sendIdleServants, Cond.instanceMethod yX0_sendIdleServants, Cond.selects RX0 yX0_sendIdleServants yX0_sendIdleServants, Cond.code yX0_sendIdleServants cX0_sendIdleServants 5 none, Cond.methodLink RX0 137 yX1_first, Cond.instanceMethod yX1_first, Cond.selects RX1 yX1_first yX1_first, Cond.code yX1_first cX1_first 1 (some .int), Cond.methodLink RX0 141 yX3_nearestTo, Cond.instanceMethod yX3_nearestTo, Cond.selects RX3 yX3_nearestTo yX3_nearestTo, Cond.code yX3_nearestTo cX3_nearestTo 6 (some .int), Cond.fieldLink RX3 30 "HouseBells$Staff" "count" "I", Cond.fieldLink RX3 18 "HouseBells$Staff" "floor" "LHouseBells$Row;", Cond.fieldLink RX3 12 "HouseBells$Staff" "pace" "LHouseBells$Row;", Cond.methodLink RX3 50 yX3_minutesOfWay, Cond.static yX3_minutesOfWay, Cond.code yX3_minutesOfWay cX3_minutesOfWay 5 (some .int), Cond.methodLink RX0 144 yX1_remove, Cond.instanceMethod yX1_remove, Cond.selects RX1 yX1_remove yX1_remove, Cond.code yX1_remove cX1_remove 4 none, Cond.methodLink RX0 147 yX3_wayToFloor]
def wsX0_letMinuteGoBy_r5 : List Cond := [Cond.instanceMethod yX3_wayToFloor, Cond.selects RX3 yX3_wayToFloor yX3_wayToFloor, Cond.code yX3_wayToFloor cX3_wayToFloor 3 (some .int)]
def wsX0_letMinuteGoBy : List Cond := .code yX0_letMinuteGoBy cX0_letMinuteGoBy 2 (some .int) :: ((wsX0_letMinuteGoBy_r1 ++ (wsX0_letMinuteGoBy_r2 ++ (wsX0_letMinuteGoBy_r3 ++ (wsX0_letMinuteGoBy_r4 ++ wsX0_letMinuteGoBy_r5)))) ++ wsX00 ++ wsX20 ++ wsX10 ++ wsX30)
def wsX3_hire : List Cond := .code yX3_hire cX3_hire 3 (some .int) :: ([.fieldLink RX3 30 "HouseBells$Staff" "count" "I", .fieldLink RX3 12 "HouseBells$Staff" "pace" "LHouseBells$Row;", .fieldLink RX3 18 "HouseBells$Staff" "floor" "LHouseBells$Row;", .methodLink RX3 38 yX2_set, .instanceMethod yX2_set, .selects RX2 yX2_set yX2_set, .initialized RX2, .code yX2_set cX2_set 3 none, .fieldLink RX2 9 "HouseBells$Row" "cells" "[I", .methodLink RX3 42 yX3_rest, .instanceMethod yX3_rest, .selects RX3 yX3_rest yX3_rest, .initialized RX3, .code yX3_rest cX3_rest 2 none, .fieldLink RX3 21 "HouseBells$Staff" "goal" "LHouseBells$Row;", .fieldLink RX3 24 "HouseBells$Staff" "guest" "LHouseBells$Row;", .fieldLink RX3 27 "HouseBells$Staff" "left" "LHouseBells$Row;"] ++ wsX30 ++ wsX20)
def wsX3_isServing : List Cond := .code yX3_isServing cX3_isServing 3 (some .boolean) :: ([.fieldLink RX3 30 "HouseBells$Staff" "count" "I", .fieldLink RX3 24 "HouseBells$Staff" "guest" "LHouseBells$Row;", .methodLink RX3 46 yX2_get, .instanceMethod yX2_get, .selects RX2 yX2_get yX2_get, .initialized RX2, .code yX2_get cX2_get 2 (some .int), .fieldLink RX2 9 "HouseBells$Row" "cells" "[I"] ++ wsX30 ++ wsX20)
def wsX4_init_r1 : List Cond := [Cond.methodLink RX4 1 objectInit, Cond.instanceMethod objectInit, Cond.code objectInit ⟨#[0xb1]⟩ 1 none, Cond.classLink RX4 7 RX0, Cond.instantiable RX0 15, Cond.initialized RX0, Cond.fieldLink RX4 10 "HouseBells" "house" "LHouseBells$House;", Cond.fieldLink RX4 16 "HouseBells" "trial" "LHouseBells$House;", Cond.methodLink RX4 9 yX0_init, Cond.instanceMethod yX0_init, Cond.code yX0_init cX0_init 1 none, Cond.methodLink RX0 3 objectInit, Cond.fieldLink RX0 9 "HouseBells$House" "charge" "I", Cond.classLink RX0 15 RX2, Cond.instantiable RX2 1, Cond.initialized RX2, Cond.fieldLink RX0 18 "HouseBells$House" "floor" "LHouseBells$Row;", Cond.fieldLink RX0 22 "HouseBells$House" "patience" "LHouseBells$Row;", Cond.fieldLink RX0 25 "HouseBells$House" "need" "LHouseBells$Row;", Cond.fieldLink RX0 28 "HouseBells$House" "wire" "LHouseBells$Row;", Cond.fieldLink RX0 31 "HouseBells$House" "cut" "LHouseBells$Row;", Cond.fieldLink RX0 34 "HouseBells$House" "waited" "LHouseBells$Row;", Cond.classLink RX0 37 RX1, Cond.instantiable RX1 2]
def wsX4_init_r2 : List Cond := [Cond.initialized RX1, Cond.fieldLink RX0 40 "HouseBells$House" "line" "LHouseBells$Line;", Cond.classLink RX0 44 RX3, Cond.instantiable RX3 6, Cond.initialized RX3, Cond.fieldLink RX0 47 "HouseBells$House" "staff" "LHouseBells$Staff;", Cond.methodLink RX0 17 yX2_init, Cond.instanceMethod yX2_init, Cond.code yX2_init cX2_init 1 none, Cond.methodLink RX2 3 objectInit, Cond.arrayClass .int, Cond.fieldLink RX2 9 "HouseBells$Row" "cells" "[I", Cond.methodLink RX0 39 yX1_init, Cond.instanceMethod yX1_init, Cond.code yX1_init cX1_init 1 none, Cond.methodLink RX1 3 objectInit, Cond.fieldLink RX1 9 "HouseBells$Line" "drops" "[I", Cond.methodLink RX0 46 yX3_init, Cond.instanceMethod yX3_init, Cond.code yX3_init cX3_init 1 none, Cond.methodLink RX3 3 objectInit, Cond.classLink RX3 9 RX2, Cond.fieldLink RX3 12 "HouseBells$Staff" "pace" "LHouseBells$Row;", Cond.fieldLink RX3 18 "HouseBells$Staff" "floor" "LHouseBells$Row;"]
def wsX4_init_r3 : List Cond := [Cond.fieldLink RX3 21 "HouseBells$Staff" "goal" "LHouseBells$Row;", Cond.fieldLink RX3 24 "HouseBells$Staff" "guest" "LHouseBells$Row;", Cond.fieldLink RX3 27 "HouseBells$Staff" "left" "LHouseBells$Row;", Cond.methodLink RX3 11 yX2_init]
def wsX4_init : List Cond := .code yX4_init cX4_init 1 none :: ((wsX4_init_r1 ++ (wsX4_init_r2 ++ wsX4_init_r3)) ++ wsX00 ++ wsX40 ++ wsX20 ++ wsX10 ++ wsX30)
def wsX4_isWithin : List Cond := .code yX4_isWithin cX4_isWithin 3 (some .boolean) :: ([])
def wsX4_addRoom_r1 : List Cond := [Cond.classLink RX4 23 "java/lang/IllegalArgumentException", Cond.initialized "java/lang/IllegalArgumentException", Cond.classLink RX4 34 "java/lang/IllegalStateException", Cond.initialized "java/lang/IllegalStateException", Cond.fieldLink RX4 10 "HouseBells" "house" "LHouseBells$House;", Cond.methodLink RX4 19 yX4_isWithin, Cond.static yX4_isWithin, Cond.initialized RX4, Cond.code yX4_isWithin cX4_isWithin 3 (some .boolean), Cond.methodLink RX4 39 yX0_openRoom, Cond.instanceMethod yX0_openRoom, Cond.selects RX0 yX0_openRoom yX0_openRoom, Cond.initialized RX0, Cond.code yX0_openRoom cX0_openRoom 5 (some .int), Cond.fieldLink RX0 54 "HouseBells$House" "roomCount" "I", Cond.fieldLink RX0 18 "HouseBells$House" "floor" "LHouseBells$Row;", Cond.fieldLink RX0 22 "HouseBells$House" "patience" "LHouseBells$Row;", Cond.fieldLink RX0 25 "HouseBells$House" "need" "LHouseBells$Row;", Cond.fieldLink RX0 28 "HouseBells$House" "wire" "LHouseBells$Row;", Cond.fieldLink RX0 31 "HouseBells$House" "cut" "LHouseBells$Row;", Cond.fieldLink RX0 34 "HouseBells$House" "waited" "LHouseBells$Row;", Cond.methodLink RX0 79 yX2_set, Cond.instanceMethod yX2_set, Cond.selects RX2 yX2_set yX2_set]
def wsX4_addRoom_r2 : List Cond := [Cond.initialized RX2, Cond.code yX2_set cX2_set 3 none, Cond.fieldLink RX2 9 "HouseBells$Row" "cells" "[I"]
def wsX4_addRoom : List Cond := .code yX4_addRoom cX4_addRoom 4 (some .int) :: ((wsX4_addRoom_r1 ++ wsX4_addRoom_r2) ++ wsX40 ++ wsX00 ++ wsX20 ++ (vx_atS RX4 27 "java/lang/IllegalArgumentException" ["java/lang/RuntimeException", "java/lang/Exception"]).filter goodWord ++ (vx_atS RX4 38 "java/lang/IllegalStateException" ["java/lang/RuntimeException", "java/lang/Exception"]).filter goodWord)
def wsX4_addServant_r1 : List Cond := [Cond.classLink RX4 23 "java/lang/IllegalArgumentException", Cond.initialized "java/lang/IllegalArgumentException", Cond.classLink RX4 34 "java/lang/IllegalStateException", Cond.initialized "java/lang/IllegalStateException", Cond.fieldLink RX4 10 "HouseBells" "house" "LHouseBells$House;", Cond.methodLink RX4 19 yX4_isWithin, Cond.static yX4_isWithin, Cond.initialized RX4, Cond.code yX4_isWithin cX4_isWithin 3 (some .boolean), Cond.methodLink RX4 56 yX3_hire, Cond.instanceMethod yX3_hire, Cond.selects RX3 yX3_hire yX3_hire, Cond.initialized RX3, Cond.code yX3_hire cX3_hire 3 (some .int), Cond.fieldLink RX3 30 "HouseBells$Staff" "count" "I", Cond.fieldLink RX3 12 "HouseBells$Staff" "pace" "LHouseBells$Row;", Cond.fieldLink RX3 18 "HouseBells$Staff" "floor" "LHouseBells$Row;", Cond.methodLink RX3 38 yX2_set, Cond.instanceMethod yX2_set, Cond.selects RX2 yX2_set yX2_set, Cond.initialized RX2, Cond.code yX2_set cX2_set 3 none, Cond.fieldLink RX2 9 "HouseBells$Row" "cells" "[I", Cond.methodLink RX3 42 yX3_rest]
def wsX4_addServant_r2 : List Cond := [Cond.instanceMethod yX3_rest, Cond.selects RX3 yX3_rest yX3_rest, Cond.code yX3_rest cX3_rest 2 none, Cond.fieldLink RX3 21 "HouseBells$Staff" "goal" "LHouseBells$Row;", Cond.fieldLink RX3 24 "HouseBells$Staff" "guest" "LHouseBells$Row;", Cond.fieldLink RX3 27 "HouseBells$Staff" "left" "LHouseBells$Row;"]
def wsX4_addServant : List Cond := .code yX4_addServant cX4_addServant 2 (some .int) :: ((wsX4_addServant_r1 ++ wsX4_addServant_r2) ++ wsX40 ++ wsX00 ++ wsX30 ++ wsX20 ++ (vx_atS RX4 27 "java/lang/IllegalArgumentException" ["java/lang/RuntimeException", "java/lang/Exception"]).filter goodWord ++ (vx_atS RX4 38 "java/lang/IllegalStateException" ["java/lang/RuntimeException", "java/lang/Exception"]).filter goodWord)
def wsX4_requireRoom : List Cond := .code yX4_requireRoom cX4_requireRoom 2 none :: ([.classLink RX4 273 "java/lang/IndexOutOfBoundsException", .initialized "java/lang/IndexOutOfBoundsException", .fieldLink RX4 10 "HouseBells" "house" "LHouseBells$House;"] ++ wsX40 ++ wsX00 ++ (vx_atS RX4 277 "java/lang/IndexOutOfBoundsException" ["java/lang/RuntimeException", "java/lang/Exception"]).filter goodWord)
def wsX4_ring_r1 : List Cond := [Cond.fieldLink RX4 10 "HouseBells" "house" "LHouseBells$House;", Cond.methodLink RX4 60 yX4_requireRoom, Cond.instanceMethod yX4_requireRoom, Cond.selects RX4 yX4_requireRoom yX4_requireRoom, Cond.initialized RX4, Cond.code yX4_requireRoom cX4_requireRoom 2 none, Cond.classLink RX4 273 "java/lang/IndexOutOfBoundsException", Cond.initialized "java/lang/IndexOutOfBoundsException", Cond.methodLink RX4 64 yX0_pullBell, Cond.instanceMethod yX0_pullBell, Cond.selects RX0 yX0_pullBell yX0_pullBell, Cond.initialized RX0, Cond.code yX0_pullBell cX0_pullBell 4 (some .boolean), Cond.fieldLink RX0 18 "HouseBells$House" "floor" "LHouseBells$Row;", Cond.fieldLink RX0 31 "HouseBells$House" "cut" "LHouseBells$Row;", Cond.fieldLink RX0 9 "HouseBells$House" "charge" "I", Cond.fieldLink RX0 66 "HouseBells$House" "unheard" "I", Cond.fieldLink RX0 28 "HouseBells$House" "wire" "LHouseBells$Row;", Cond.fieldLink RX0 40 "HouseBells$House" "line" "LHouseBells$Line;", Cond.methodLink RX0 83 yX2_get, Cond.instanceMethod yX2_get, Cond.selects RX2 yX2_get yX2_get, Cond.initialized RX2, Cond.code yX2_get cX2_get 2 (some .int)]
def wsX4_ring_r2 : List Cond := [Cond.fieldLink RX2 9 "HouseBells$Row" "cells" "[I", Cond.methodLink RX0 87 yX0_costFrom, Cond.static yX0_costFrom, Cond.code yX0_costFrom cX0_costFrom 1 (some .int), Cond.methodLink RX0 90 yX1_placeOf, Cond.instanceMethod yX1_placeOf, Cond.selects RX1 yX1_placeOf yX1_placeOf, Cond.initialized RX1, Cond.code yX1_placeOf cX1_placeOf 3 (some .int), Cond.fieldLink RX1 15 "HouseBells$Line" "count" "I", Cond.fieldLink RX1 9 "HouseBells$Line" "drops" "[I", Cond.methodLink RX0 93 yX1_append, Cond.instanceMethod yX1_append, Cond.selects RX1 yX1_append yX1_append, Cond.code yX1_append cX1_append 2 none, Cond.methodLink RX4 68 yX0_isWaiting, Cond.instanceMethod yX0_isWaiting, Cond.selects RX0 yX0_isWaiting yX0_isWaiting, Cond.code yX0_isWaiting cX0_isWaiting 2 (some .boolean), Cond.fieldLink RX0 34 "HouseBells$House" "waited" "LHouseBells$Row;", Cond.methodLink RX4 75 yX2_set, Cond.instanceMethod yX2_set, Cond.selects RX2 yX2_set yX2_set, Cond.code yX2_set cX2_set 3 none]
def wsX4_ring : List Cond := .code yX4_ring cX4_ring 3 (some .boolean) :: ((wsX4_ring_r1 ++ wsX4_ring_r2) ++ wsX40 ++ wsX00 ++ wsX20 ++ wsX10 ++ (vx_atS RX4 277 "java/lang/IndexOutOfBoundsException" ["java/lang/RuntimeException", "java/lang/Exception"]).filter goodWord)
def wsX4_cross_r1 : List Cond := [Cond.classLink RX4 23 "java/lang/IllegalArgumentException", Cond.initialized "java/lang/IllegalArgumentException", Cond.fieldLink RX4 10 "HouseBells" "house" "LHouseBells$House;", Cond.methodLink RX4 60 yX4_requireRoom, Cond.instanceMethod yX4_requireRoom, Cond.selects RX4 yX4_requireRoom yX4_requireRoom, Cond.initialized RX4, Cond.code yX4_requireRoom cX4_requireRoom 2 none, Cond.classLink RX4 273 "java/lang/IndexOutOfBoundsException", Cond.initialized "java/lang/IndexOutOfBoundsException", Cond.methodLink RX4 83 yX0_swapWires, Cond.instanceMethod yX0_swapWires, Cond.selects RX0 yX0_swapWires yX0_swapWires, Cond.initialized RX0, Cond.code yX0_swapWires cX0_swapWires 4 none, Cond.fieldLink RX0 28 "HouseBells$House" "wire" "LHouseBells$Row;", Cond.methodLink RX0 83 yX2_get, Cond.instanceMethod yX2_get, Cond.selects RX2 yX2_get yX2_get, Cond.initialized RX2, Cond.code yX2_get cX2_get 2 (some .int), Cond.fieldLink RX2 9 "HouseBells$Row" "cells" "[I", Cond.methodLink RX0 79 yX2_set, Cond.instanceMethod yX2_set]
def wsX4_cross_r2 : List Cond := [Cond.selects RX2 yX2_set yX2_set, Cond.code yX2_set cX2_set 3 none, Cond.methodLink RX4 89 yX2_get]
def wsX4_cross : List Cond := .code yX4_cross cX4_cross 3 (some .int) :: ((wsX4_cross_r1 ++ wsX4_cross_r2) ++ wsX40 ++ wsX00 ++ wsX20 ++ (vx_atS RX4 27 "java/lang/IllegalArgumentException" ["java/lang/RuntimeException", "java/lang/Exception"]).filter goodWord ++ (vx_atS RX4 277 "java/lang/IndexOutOfBoundsException" ["java/lang/RuntimeException", "java/lang/Exception"]).filter goodWord)
def wsX4_cut_r1 : List Cond := [Cond.classLink RX4 34 "java/lang/IllegalStateException", Cond.initialized "java/lang/IllegalStateException", Cond.fieldLink RX4 10 "HouseBells" "house" "LHouseBells$House;", Cond.methodLink RX4 60 yX4_requireRoom, Cond.instanceMethod yX4_requireRoom, Cond.selects RX4 yX4_requireRoom yX4_requireRoom, Cond.initialized RX4, Cond.code yX4_requireRoom cX4_requireRoom 2 none, Cond.classLink RX4 273 "java/lang/IndexOutOfBoundsException", Cond.initialized "java/lang/IndexOutOfBoundsException", Cond.methodLink RX4 92 yX0_isWireCut, Cond.instanceMethod yX0_isWireCut, Cond.selects RX0 yX0_isWireCut yX0_isWireCut, Cond.initialized RX0, Cond.code yX0_isWireCut cX0_isWireCut 2 (some .boolean), Cond.fieldLink RX0 31 "HouseBells$House" "cut" "LHouseBells$Row;", Cond.methodLink RX0 83 yX2_get, Cond.instanceMethod yX2_get, Cond.selects RX2 yX2_get yX2_get, Cond.initialized RX2, Cond.code yX2_get cX2_get 2 (some .int), Cond.fieldLink RX2 9 "HouseBells$Row" "cells" "[I", Cond.methodLink RX4 75 yX2_set, Cond.instanceMethod yX2_set]
def wsX4_cut_r2 : List Cond := [Cond.selects RX2 yX2_set yX2_set, Cond.code yX2_set cX2_set 3 none, Cond.methodLink RX4 100 yX0_countCutWires, Cond.instanceMethod yX0_countCutWires, Cond.selects RX0 yX0_countCutWires yX0_countCutWires, Cond.code yX0_countCutWires cX0_countCutWires 3 (some .int), Cond.fieldLink RX0 54 "HouseBells$House" "roomCount" "I"]
def wsX4_cut : List Cond := .code yX4_cut cX4_cut 2 (some .int) :: ((wsX4_cut_r1 ++ wsX4_cut_r2) ++ wsX40 ++ wsX00 ++ wsX20 ++ (vx_atS RX4 38 "java/lang/IllegalStateException" ["java/lang/RuntimeException", "java/lang/Exception"]).filter goodWord ++ (vx_atS RX4 277 "java/lang/IndexOutOfBoundsException" ["java/lang/RuntimeException", "java/lang/Exception"]).filter goodWord)
def wsX4_mend_r1 : List Cond := [Cond.classLink RX4 34 "java/lang/IllegalStateException", Cond.initialized "java/lang/IllegalStateException", Cond.fieldLink RX4 10 "HouseBells" "house" "LHouseBells$House;", Cond.methodLink RX4 60 yX4_requireRoom, Cond.instanceMethod yX4_requireRoom, Cond.selects RX4 yX4_requireRoom yX4_requireRoom, Cond.initialized RX4, Cond.code yX4_requireRoom cX4_requireRoom 2 none, Cond.classLink RX4 273 "java/lang/IndexOutOfBoundsException", Cond.initialized "java/lang/IndexOutOfBoundsException", Cond.methodLink RX4 92 yX0_isWireCut, Cond.instanceMethod yX0_isWireCut, Cond.selects RX0 yX0_isWireCut yX0_isWireCut, Cond.initialized RX0, Cond.code yX0_isWireCut cX0_isWireCut 2 (some .boolean), Cond.fieldLink RX0 31 "HouseBells$House" "cut" "LHouseBells$Row;", Cond.methodLink RX0 83 yX2_get, Cond.instanceMethod yX2_get, Cond.selects RX2 yX2_get yX2_get, Cond.initialized RX2, Cond.code yX2_get cX2_get 2 (some .int), Cond.fieldLink RX2 9 "HouseBells$Row" "cells" "[I", Cond.methodLink RX4 75 yX2_set, Cond.instanceMethod yX2_set]
def wsX4_mend_r2 : List Cond := [Cond.selects RX2 yX2_set yX2_set, Cond.code yX2_set cX2_set 3 none, Cond.methodLink RX4 100 yX0_countCutWires, Cond.instanceMethod yX0_countCutWires, Cond.selects RX0 yX0_countCutWires yX0_countCutWires, Cond.code yX0_countCutWires cX0_countCutWires 3 (some .int), Cond.fieldLink RX0 54 "HouseBells$House" "roomCount" "I"]
def wsX4_mend : List Cond := .code yX4_mend cX4_mend 2 (some .int) :: ((wsX4_mend_r1 ++ wsX4_mend_r2) ++ wsX40 ++ wsX00 ++ wsX20 ++ (vx_atS RX4 38 "java/lang/IllegalStateException" ["java/lang/RuntimeException", "java/lang/Exception"]).filter goodWord ++ (vx_atS RX4 277 "java/lang/IndexOutOfBoundsException" ["java/lang/RuntimeException", "java/lang/Exception"]).filter goodWord)
def wsX4_recharge : List Cond := .code yX4_recharge cX4_recharge 3 (some .int) :: ([.classLink RX4 23 "java/lang/IllegalArgumentException", .initialized "java/lang/IllegalArgumentException", .fieldLink RX4 10 "HouseBells" "house" "LHouseBells$House;", .methodLink RX4 19 yX4_isWithin, .static yX4_isWithin, .initialized RX4, .code yX4_isWithin cX4_isWithin 3 (some .boolean)] ++ wsX40 ++ wsX00 ++ (vx_atS RX4 27 "java/lang/IllegalArgumentException" ["java/lang/RuntimeException", "java/lang/Exception"]).filter goodWord)
def wsX4_putUp : List Cond := .code yX4_putUp cX4_putUp 2 (some .int) :: ([.classLink RX4 34 "java/lang/IllegalStateException", .initialized "java/lang/IllegalStateException", .fieldLink RX4 10 "HouseBells" "house" "LHouseBells$House;", .methodLink RX4 60 yX4_requireRoom, .instanceMethod yX4_requireRoom, .selects RX4 yX4_requireRoom yX4_requireRoom, .initialized RX4, .code yX4_requireRoom cX4_requireRoom 2 none, .classLink RX4 273 "java/lang/IndexOutOfBoundsException", .initialized "java/lang/IndexOutOfBoundsException", .methodLink RX4 115 yX1_placeOf, .instanceMethod yX1_placeOf, .selects RX1 yX1_placeOf yX1_placeOf, .initialized RX1, .code yX1_placeOf cX1_placeOf 3 (some .int), .fieldLink RX1 15 "HouseBells$Line" "count" "I", .fieldLink RX1 9 "HouseBells$Line" "drops" "[I", .methodLink RX4 122 yX1_remove, .instanceMethod yX1_remove, .selects RX1 yX1_remove yX1_remove, .code yX1_remove cX1_remove 4 none] ++ wsX40 ++ wsX00 ++ wsX10 ++ (vx_atS RX4 38 "java/lang/IllegalStateException" ["java/lang/RuntimeException", "java/lang/Exception"]).filter goodWord ++ (vx_atS RX4 277 "java/lang/IndexOutOfBoundsException" ["java/lang/RuntimeException", "java/lang/Exception"]).filter goodWord)
def wsX4_requireMinutes : List Cond := .code yX4_requireMinutes cX4_requireMinutes 1 none :: ([.classLink RX4 23 "java/lang/IllegalArgumentException", .initialized "java/lang/IllegalArgumentException", .methodLink RX4 19 yX4_isWithin, .static yX4_isWithin, .initialized RX4, .code yX4_isWithin cX4_isWithin 3 (some .boolean)] ++ (vx_atS RX4 27 "java/lang/IllegalArgumentException" ["java/lang/RuntimeException", "java/lang/Exception"]).filter goodWord)
def wsX4_pass_r1 : List Cond := [Cond.fieldLink RX4 10 "HouseBells" "house" "LHouseBells$House;", Cond.methodLink RX4 126 yX4_requireMinutes, Cond.static yX4_requireMinutes, Cond.initialized RX4, Cond.code yX4_requireMinutes cX4_requireMinutes 1 none, Cond.classLink RX4 23 "java/lang/IllegalArgumentException", Cond.initialized "java/lang/IllegalArgumentException", Cond.methodLink RX4 19 yX4_isWithin, Cond.static yX4_isWithin, Cond.code yX4_isWithin cX4_isWithin 3 (some .boolean), Cond.methodLink RX4 129 yX0_letMinuteGoBy, Cond.instanceMethod yX0_letMinuteGoBy, Cond.selects RX0 yX0_letMinuteGoBy yX0_letMinuteGoBy, Cond.initialized RX0, Cond.code yX0_letMinuteGoBy cX0_letMinuteGoBy 2 (some .int), Cond.fieldLink RX0 57 "HouseBells$House" "served" "I", Cond.fieldLink RX0 51 "HouseBells$House" "minute" "I", Cond.methodLink RX0 97 yX0_letRoomsWait, Cond.instanceMethod yX0_letRoomsWait, Cond.selects RX0 yX0_letRoomsWait yX0_letRoomsWait, Cond.code yX0_letRoomsWait cX0_letRoomsWait 3 none, Cond.fieldLink RX0 54 "HouseBells$House" "roomCount" "I", Cond.fieldLink RX0 34 "HouseBells$House" "waited" "LHouseBells$Row;", Cond.fieldLink RX0 63 "HouseBells$House" "gaveUp" "I"]
def wsX4_pass_r2 : List Cond := [Cond.fieldLink RX0 22 "HouseBells$House" "patience" "LHouseBells$Row;", Cond.methodLink RX0 83 yX2_get, Cond.instanceMethod yX2_get, Cond.selects RX2 yX2_get yX2_get, Cond.initialized RX2, Cond.code yX2_get cX2_get 2 (some .int), Cond.fieldLink RX2 9 "HouseBells$Row" "cells" "[I", Cond.methodLink RX0 79 yX2_set, Cond.instanceMethod yX2_set, Cond.selects RX2 yX2_set yX2_set, Cond.code yX2_set cX2_set 3 none, Cond.methodLink RX0 106 yX0_isMultiple, Cond.static yX0_isMultiple, Cond.code yX0_isMultiple cX0_isMultiple 2 (some .boolean), Cond.methodLink RX0 110 yX0_pullBell, Cond.instanceMethod yX0_pullBell, Cond.selects RX0 yX0_pullBell yX0_pullBell, Cond.code yX0_pullBell cX0_pullBell 4 (some .boolean), Cond.fieldLink RX0 18 "HouseBells$House" "floor" "LHouseBells$Row;", Cond.fieldLink RX0 31 "HouseBells$House" "cut" "LHouseBells$Row;", Cond.fieldLink RX0 9 "HouseBells$House" "charge" "I", Cond.fieldLink RX0 66 "HouseBells$House" "unheard" "I", Cond.fieldLink RX0 28 "HouseBells$House" "wire" "LHouseBells$Row;", Cond.fieldLink RX0 40 "HouseBells$House" "line" "LHouseBells$Line;"]
def wsX4_pass_r3 : List Cond := [Cond.methodLink RX0 87 yX0_costFrom, Cond.static yX0_costFrom, Cond.code yX0_costFrom cX0_costFrom 1 (some .int), Cond.methodLink RX0 90 yX1_placeOf, Cond.instanceMethod yX1_placeOf, Cond.selects RX1 yX1_placeOf yX1_placeOf, Cond.initialized RX1, Cond.code yX1_placeOf cX1_placeOf 3 (some .int), Cond.fieldLink RX1 15 "HouseBells$Line" "count" "I", Cond.fieldLink RX1 9 "HouseBells$Line" "drops" "[I", Cond.methodLink RX0 93 yX1_append, Cond.instanceMethod yX1_append, Cond.selects RX1 yX1_append yX1_append, Cond.code yX1_append cX1_append 2 none, Cond.methodLink RX0 100 yX0_letServantsMove, Cond.instanceMethod yX0_letServantsMove, Cond.selects RX0 yX0_letServantsMove yX0_letServantsMove, Cond.code yX0_letServantsMove cX0_letServantsMove 4 none, Cond.fieldLink RX0 47 "HouseBells$House" "staff" "LHouseBells$Staff;", Cond.methodLink RX0 117 yX3_isIdle, Cond.instanceMethod yX3_isIdle, Cond.selects RX3 yX3_isIdle yX3_isIdle, Cond.initialized RX3, Cond.code yX3_isIdle cX3_isIdle 2 (some .boolean)]
def wsX4_pass_r4 : List Cond := [Cond.fieldLink RX3 21 "HouseBells$Staff" "goal" "LHouseBells$Row;", Cond.fieldLink RX3 24 "HouseBells$Staff" "guest" "LHouseBells$Row;", Cond.methodLink RX3 46 yX2_get, Cond.methodLink RX0 126 yX3_rest, Cond.instanceMethod yX3_rest, Cond.selects RX3 yX3_rest yX3_rest, Cond.code yX3_rest cX3_rest 2 none, Cond.fieldLink RX3 27 "HouseBells$Staff" "left" "LHouseBells$Row;", Cond.methodLink RX3 38 yX2_set, Cond.methodLink RX0 129 yX0_arrive, Cond.instanceMethod yX0_arrive, Cond.selects RX0 yX0_arrive yX0_arrive, Cond.code yX0_arrive cX0_arrive 3 none, Cond.fieldLink RX0 60 "HouseBells$House" "inVain" "I", Cond.fieldLink RX0 25 "HouseBells$House" "need" "LHouseBells$Row;", Cond.methodLink RX0 103 yX0_sendIdleServants, Cond.instanceMethod yX0_sendIdleServants, Cond.selects RX0 yX0_sendIdleServants yX0_sendIdleServants, Cond.code yX0_sendIdleServants cX0_sendIdleServants 5 none, Cond.methodLink RX0 137 yX1_first, Cond.instanceMethod yX1_first, Cond.selects RX1 yX1_first yX1_first, Cond.code yX1_first cX1_first 1 (some .int), Cond.methodLink RX0 141 yX3_nearestTo]
def wsX4_pass_r5 : List Cond := [Cond.instanceMethod yX3_nearestTo, Cond.selects RX3 yX3_nearestTo yX3_nearestTo, Cond.code yX3_nearestTo cX3_nearestTo 6 (some .int), Cond.fieldLink RX3 30 "HouseBells$Staff" "count" "I", Cond.fieldLink RX3 18 "HouseBells$Staff" "floor" "LHouseBells$Row;", Cond.fieldLink RX3 12 "HouseBells$Staff" "pace" "LHouseBells$Row;", Cond.methodLink RX3 50 yX3_minutesOfWay, Cond.static yX3_minutesOfWay, Cond.code yX3_minutesOfWay cX3_minutesOfWay 5 (some .int), Cond.methodLink RX0 144 yX1_remove, Cond.instanceMethod yX1_remove, Cond.selects RX1 yX1_remove yX1_remove, Cond.code yX1_remove cX1_remove 4 none, Cond.methodLink RX0 147 yX3_wayToFloor, Cond.instanceMethod yX3_wayToFloor, Cond.selects RX3 yX3_wayToFloor yX3_wayToFloor, Cond.code yX3_wayToFloor cX3_wayToFloor 3 (some .int)]
def wsX4_pass : List Cond := .code yX4_pass cX4_pass 4 (some .int) :: ((wsX4_pass_r1 ++ (wsX4_pass_r2 ++ (wsX4_pass_r3 ++ (wsX4_pass_r4 ++ wsX4_pass_r5)))) ++ wsX40 ++ wsX00 ++ wsX20 ++ wsX10 ++ wsX30 ++ (vx_atS RX4 27 "java/lang/IllegalArgumentException" ["java/lang/RuntimeException", "java/lang/Exception"]).filter goodWord)
def wsX4_minute : List Cond := .code yX4_minute cX4_minute 1 (some .int) :: ([.fieldLink RX4 10 "HouseBells" "house" "LHouseBells$House;"] ++ wsX40 ++ wsX00)
def wsX4_rooms : List Cond := .code yX4_rooms cX4_rooms 1 (some .int) :: ([.fieldLink RX4 10 "HouseBells" "house" "LHouseBells$House;"] ++ wsX40 ++ wsX00)
def wsX4_servants : List Cond := .code yX4_servants cX4_servants 1 (some .int) :: ([.fieldLink RX4 10 "HouseBells" "house" "LHouseBells$House;"] ++ wsX40 ++ wsX00 ++ wsX30)
def wsX4_charge : List Cond := .code yX4_charge cX4_charge 1 (some .int) :: ([.fieldLink RX4 10 "HouseBells" "house" "LHouseBells$House;"] ++ wsX40 ++ wsX00)
def wsX4_served : List Cond := .code yX4_served cX4_served 1 (some .int) :: ([.fieldLink RX4 10 "HouseBells" "house" "LHouseBells$House;"] ++ wsX40 ++ wsX00)
def wsX4_inVain : List Cond := .code yX4_inVain cX4_inVain 1 (some .int) :: ([.fieldLink RX4 10 "HouseBells" "house" "LHouseBells$House;"] ++ wsX40 ++ wsX00)
def wsX4_gaveUp : List Cond := .code yX4_gaveUp cX4_gaveUp 1 (some .int) :: ([.fieldLink RX4 10 "HouseBells" "house" "LHouseBells$House;"] ++ wsX40 ++ wsX00)
def wsX4_unheard : List Cond := .code yX4_unheard cX4_unheard 1 (some .int) :: ([.fieldLink RX4 10 "HouseBells" "house" "LHouseBells$House;"] ++ wsX40 ++ wsX00)
def wsX4_dropOf : List Cond := .code yX4_dropOf cX4_dropOf 2 (some .int) :: ([.fieldLink RX4 10 "HouseBells" "house" "LHouseBells$House;", .methodLink RX4 60 yX4_requireRoom, .instanceMethod yX4_requireRoom, .selects RX4 yX4_requireRoom yX4_requireRoom, .initialized RX4, .code yX4_requireRoom cX4_requireRoom 2 none, .classLink RX4 273 "java/lang/IndexOutOfBoundsException", .initialized "java/lang/IndexOutOfBoundsException", .methodLink RX4 89 yX2_get, .instanceMethod yX2_get, .selects RX2 yX2_get yX2_get, .initialized RX2, .code yX2_get cX2_get 2 (some .int), .fieldLink RX2 9 "HouseBells$Row" "cells" "[I"] ++ wsX40 ++ wsX00 ++ wsX20 ++ (vx_atS RX4 277 "java/lang/IndexOutOfBoundsException" ["java/lang/RuntimeException", "java/lang/Exception"]).filter goodWord)
def wsX4_roomOf : List Cond := .code yX4_roomOf cX4_roomOf 3 (some .int) :: ([.fieldLink RX4 10 "HouseBells" "house" "LHouseBells$House;", .methodLink RX4 60 yX4_requireRoom, .instanceMethod yX4_requireRoom, .selects RX4 yX4_requireRoom yX4_requireRoom, .initialized RX4, .code yX4_requireRoom cX4_requireRoom 2 none, .classLink RX4 273 "java/lang/IndexOutOfBoundsException", .initialized "java/lang/IndexOutOfBoundsException", .methodLink RX4 89 yX2_get, .instanceMethod yX2_get, .selects RX2 yX2_get yX2_get, .initialized RX2, .code yX2_get cX2_get 2 (some .int), .fieldLink RX2 9 "HouseBells$Row" "cells" "[I"] ++ wsX40 ++ wsX00 ++ wsX20 ++ (vx_atS RX4 277 "java/lang/IndexOutOfBoundsException" ["java/lang/RuntimeException", "java/lang/Exception"]).filter goodWord)
def wsX4_isCut : List Cond := .code yX4_isCut cX4_isCut 2 (some .boolean) :: ([.fieldLink RX4 10 "HouseBells" "house" "LHouseBells$House;", .methodLink RX4 60 yX4_requireRoom, .instanceMethod yX4_requireRoom, .selects RX4 yX4_requireRoom yX4_requireRoom, .initialized RX4, .code yX4_requireRoom cX4_requireRoom 2 none, .classLink RX4 273 "java/lang/IndexOutOfBoundsException", .initialized "java/lang/IndexOutOfBoundsException", .methodLink RX4 92 yX0_isWireCut, .instanceMethod yX0_isWireCut, .selects RX0 yX0_isWireCut yX0_isWireCut, .initialized RX0, .code yX0_isWireCut cX0_isWireCut 2 (some .boolean), .fieldLink RX0 31 "HouseBells$House" "cut" "LHouseBells$Row;", .methodLink RX0 83 yX2_get, .instanceMethod yX2_get, .selects RX2 yX2_get yX2_get, .initialized RX2, .code yX2_get cX2_get 2 (some .int), .fieldLink RX2 9 "HouseBells$Row" "cells" "[I"] ++ wsX40 ++ wsX00 ++ wsX20 ++ (vx_atS RX4 277 "java/lang/IndexOutOfBoundsException" ["java/lang/RuntimeException", "java/lang/Exception"]).filter goodWord)
def wsX4_waitedFor : List Cond := .code yX4_waitedFor cX4_waitedFor 2 (some .int) :: ([.fieldLink RX4 10 "HouseBells" "house" "LHouseBells$House;", .methodLink RX4 60 yX4_requireRoom, .instanceMethod yX4_requireRoom, .selects RX4 yX4_requireRoom yX4_requireRoom, .initialized RX4, .code yX4_requireRoom cX4_requireRoom 2 none, .classLink RX4 273 "java/lang/IndexOutOfBoundsException", .initialized "java/lang/IndexOutOfBoundsException", .methodLink RX4 89 yX2_get, .instanceMethod yX2_get, .selects RX2 yX2_get yX2_get, .initialized RX2, .code yX2_get cX2_get 2 (some .int), .fieldLink RX2 9 "HouseBells$Row" "cells" "[I"] ++ wsX40 ++ wsX00 ++ wsX20 ++ (vx_atS RX4 277 "java/lang/IndexOutOfBoundsException" ["java/lang/RuntimeException", "java/lang/Exception"]).filter goodWord)
def wsX4_longestWaiting : List Cond := .code yX4_longestWaiting cX4_longestWaiting 4 (some .int) :: ([.fieldLink RX4 10 "HouseBells" "house" "LHouseBells$House;", .methodLink RX4 89 yX2_get, .instanceMethod yX2_get, .selects RX2 yX2_get yX2_get, .initialized RX2, .code yX2_get cX2_get 2 (some .int), .fieldLink RX2 9 "HouseBells$Row" "cells" "[I"] ++ wsX40 ++ wsX00 ++ wsX20)
def wsX4_crossed : List Cond := .code yX4_crossed cX4_crossed 3 (some .int) :: ([.fieldLink RX4 10 "HouseBells" "house" "LHouseBells$House;", .methodLink RX4 89 yX2_get, .instanceMethod yX2_get, .selects RX2 yX2_get yX2_get, .initialized RX2, .code yX2_get cX2_get 2 (some .int), .fieldLink RX2 9 "HouseBells$Row" "cells" "[I"] ++ wsX40 ++ wsX00 ++ wsX20)
def wsX4_crossingsNeeded : List Cond := .code yX4_crossingsNeeded cX4_crossingsNeeded 3 (some .int) :: ([.fieldLink RX4 10 "HouseBells" "house" "LHouseBells$House;", .methodLink RX4 147 yX0_isFirstOfItsCircle, .instanceMethod yX0_isFirstOfItsCircle, .selects RX0 yX0_isFirstOfItsCircle yX0_isFirstOfItsCircle, .initialized RX0, .code yX0_isFirstOfItsCircle cX0_isFirstOfItsCircle 4 (some .boolean), .fieldLink RX0 28 "HouseBells$House" "wire" "LHouseBells$Row;", .fieldLink RX0 54 "HouseBells$House" "roomCount" "I", .methodLink RX0 83 yX2_get, .instanceMethod yX2_get, .selects RX2 yX2_get yX2_get, .initialized RX2, .code yX2_get cX2_get 2 (some .int), .fieldLink RX2 9 "HouseBells$Row" "cells" "[I"] ++ wsX40 ++ wsX00 ++ wsX20)
def wsX4_fallen : List Cond := .code yX4_fallen cX4_fallen 1 (some .int) :: ([.fieldLink RX4 10 "HouseBells" "house" "LHouseBells$House;"] ++ wsX40 ++ wsX00 ++ wsX10)
def wsX4_hasFallen : List Cond := .code yX4_hasFallen cX4_hasFallen 2 (some .boolean) :: ([.fieldLink RX4 10 "HouseBells" "house" "LHouseBells$House;", .methodLink RX4 60 yX4_requireRoom, .instanceMethod yX4_requireRoom, .selects RX4 yX4_requireRoom yX4_requireRoom, .initialized RX4, .code yX4_requireRoom cX4_requireRoom 2 none, .classLink RX4 273 "java/lang/IndexOutOfBoundsException", .initialized "java/lang/IndexOutOfBoundsException", .methodLink RX4 115 yX1_placeOf, .instanceMethod yX1_placeOf, .selects RX1 yX1_placeOf yX1_placeOf, .initialized RX1, .code yX1_placeOf cX1_placeOf 3 (some .int), .fieldLink RX1 15 "HouseBells$Line" "count" "I", .fieldLink RX1 9 "HouseBells$Line" "drops" "[I"] ++ wsX40 ++ wsX00 ++ wsX10 ++ (vx_atS RX4 277 "java/lang/IndexOutOfBoundsException" ["java/lang/RuntimeException", "java/lang/Exception"]).filter goodWord)
def wsX4_placeInLine : List Cond := .code yX4_placeInLine cX4_placeInLine 2 (some .int) :: ([.fieldLink RX4 10 "HouseBells" "house" "LHouseBells$House;", .methodLink RX4 60 yX4_requireRoom, .instanceMethod yX4_requireRoom, .selects RX4 yX4_requireRoom yX4_requireRoom, .initialized RX4, .code yX4_requireRoom cX4_requireRoom 2 none, .classLink RX4 273 "java/lang/IndexOutOfBoundsException", .initialized "java/lang/IndexOutOfBoundsException", .methodLink RX4 115 yX1_placeOf, .instanceMethod yX1_placeOf, .selects RX1 yX1_placeOf yX1_placeOf, .initialized RX1, .code yX1_placeOf cX1_placeOf 3 (some .int), .fieldLink RX1 15 "HouseBells$Line" "count" "I", .fieldLink RX1 9 "HouseBells$Line" "drops" "[I"] ++ wsX40 ++ wsX00 ++ wsX10 ++ (vx_atS RX4 277 "java/lang/IndexOutOfBoundsException" ["java/lang/RuntimeException", "java/lang/Exception"]).filter goodWord)
def wsX4_nextDrop : List Cond := .code yX4_nextDrop cX4_nextDrop 1 (some .int) :: ([.fieldLink RX4 10 "HouseBells" "house" "LHouseBells$House;", .methodLink RX4 150 yX1_first, .instanceMethod yX1_first, .selects RX1 yX1_first yX1_first, .initialized RX1, .code yX1_first cX1_first 1 (some .int), .fieldLink RX1 15 "HouseBells$Line" "count" "I", .fieldLink RX1 9 "HouseBells$Line" "drops" "[I"] ++ wsX40 ++ wsX00 ++ wsX10)
def wsX4_quotient : List Cond := .code yX4_quotient cX4_quotient 2 (some .int) :: ([])
def wsX4_ringsLeft_r1 : List Cond := [Cond.fieldLink RX4 10 "HouseBells" "house" "LHouseBells$House;", Cond.methodLink RX4 60 yX4_requireRoom, Cond.instanceMethod yX4_requireRoom, Cond.selects RX4 yX4_requireRoom yX4_requireRoom, Cond.initialized RX4, Cond.code yX4_requireRoom cX4_requireRoom 2 none, Cond.classLink RX4 273 "java/lang/IndexOutOfBoundsException", Cond.initialized "java/lang/IndexOutOfBoundsException", Cond.methodLink RX4 92 yX0_isWireCut, Cond.instanceMethod yX0_isWireCut, Cond.selects RX0 yX0_isWireCut yX0_isWireCut, Cond.initialized RX0, Cond.code yX0_isWireCut cX0_isWireCut 2 (some .boolean), Cond.fieldLink RX0 31 "HouseBells$House" "cut" "LHouseBells$Row;", Cond.methodLink RX0 83 yX2_get, Cond.instanceMethod yX2_get, Cond.selects RX2 yX2_get yX2_get, Cond.initialized RX2, Cond.code yX2_get cX2_get 2 (some .int), Cond.fieldLink RX2 9 "HouseBells$Row" "cells" "[I", Cond.methodLink RX4 89 yX2_get, Cond.methodLink RX4 156 yX0_costFrom, Cond.static yX0_costFrom, Cond.code yX0_costFrom cX0_costFrom 1 (some .int)]
def wsX4_ringsLeft_r2 : List Cond := [Cond.methodLink RX4 159 yX4_quotient, Cond.static yX4_quotient, Cond.code yX4_quotient cX4_quotient 2 (some .int)]
def wsX4_ringsLeft : List Cond := .code yX4_ringsLeft cX4_ringsLeft 2 (some .int) :: ((wsX4_ringsLeft_r1 ++ wsX4_ringsLeft_r2) ++ wsX40 ++ wsX00 ++ wsX20 ++ (vx_atS RX4 277 "java/lang/IndexOutOfBoundsException" ["java/lang/RuntimeException", "java/lang/Exception"]).filter goodWord)
def wsX4_requireServant : List Cond := .code yX4_requireServant cX4_requireServant 2 none :: ([.classLink RX4 273 "java/lang/IndexOutOfBoundsException", .initialized "java/lang/IndexOutOfBoundsException", .fieldLink RX4 10 "HouseBells" "house" "LHouseBells$House;"] ++ wsX40 ++ wsX00 ++ wsX30 ++ (vx_atS RX4 277 "java/lang/IndexOutOfBoundsException" ["java/lang/RuntimeException", "java/lang/Exception"]).filter goodWord)
def wsX4_floorOf : List Cond := .code yX4_floorOf cX4_floorOf 2 (some .int) :: ([.fieldLink RX4 10 "HouseBells" "house" "LHouseBells$House;", .methodLink RX4 163 yX4_requireServant, .instanceMethod yX4_requireServant, .selects RX4 yX4_requireServant yX4_requireServant, .initialized RX4, .code yX4_requireServant cX4_requireServant 2 none, .classLink RX4 273 "java/lang/IndexOutOfBoundsException", .initialized "java/lang/IndexOutOfBoundsException", .methodLink RX4 89 yX2_get, .instanceMethod yX2_get, .selects RX2 yX2_get yX2_get, .initialized RX2, .code yX2_get cX2_get 2 (some .int), .fieldLink RX2 9 "HouseBells$Row" "cells" "[I"] ++ wsX40 ++ wsX00 ++ wsX30 ++ wsX20 ++ (vx_atS RX4 277 "java/lang/IndexOutOfBoundsException" ["java/lang/RuntimeException", "java/lang/Exception"]).filter goodWord)
def wsX4_goesTo : List Cond := .code yX4_goesTo cX4_goesTo 2 (some .int) :: ([.fieldLink RX4 10 "HouseBells" "house" "LHouseBells$House;", .methodLink RX4 163 yX4_requireServant, .instanceMethod yX4_requireServant, .selects RX4 yX4_requireServant yX4_requireServant, .initialized RX4, .code yX4_requireServant cX4_requireServant 2 none, .classLink RX4 273 "java/lang/IndexOutOfBoundsException", .initialized "java/lang/IndexOutOfBoundsException", .methodLink RX4 89 yX2_get, .instanceMethod yX2_get, .selects RX2 yX2_get yX2_get, .initialized RX2, .code yX2_get cX2_get 2 (some .int), .fieldLink RX2 9 "HouseBells$Row" "cells" "[I"] ++ wsX40 ++ wsX00 ++ wsX30 ++ wsX20 ++ (vx_atS RX4 277 "java/lang/IndexOutOfBoundsException" ["java/lang/RuntimeException", "java/lang/Exception"]).filter goodWord)
def wsX4_serves : List Cond := .code yX4_serves cX4_serves 2 (some .int) :: ([.fieldLink RX4 10 "HouseBells" "house" "LHouseBells$House;", .methodLink RX4 163 yX4_requireServant, .instanceMethod yX4_requireServant, .selects RX4 yX4_requireServant yX4_requireServant, .initialized RX4, .code yX4_requireServant cX4_requireServant 2 none, .classLink RX4 273 "java/lang/IndexOutOfBoundsException", .initialized "java/lang/IndexOutOfBoundsException", .methodLink RX4 89 yX2_get, .instanceMethod yX2_get, .selects RX2 yX2_get yX2_get, .initialized RX2, .code yX2_get cX2_get 2 (some .int), .fieldLink RX2 9 "HouseBells$Row" "cells" "[I"] ++ wsX40 ++ wsX00 ++ wsX30 ++ wsX20 ++ (vx_atS RX4 277 "java/lang/IndexOutOfBoundsException" ["java/lang/RuntimeException", "java/lang/Exception"]).filter goodWord)
def wsX4_minutesLeft : List Cond := .code yX4_minutesLeft cX4_minutesLeft 2 (some .int) :: ([.fieldLink RX4 10 "HouseBells" "house" "LHouseBells$House;", .methodLink RX4 163 yX4_requireServant, .instanceMethod yX4_requireServant, .selects RX4 yX4_requireServant yX4_requireServant, .initialized RX4, .code yX4_requireServant cX4_requireServant 2 none, .classLink RX4 273 "java/lang/IndexOutOfBoundsException", .initialized "java/lang/IndexOutOfBoundsException", .methodLink RX4 89 yX2_get, .instanceMethod yX2_get, .selects RX2 yX2_get yX2_get, .initialized RX2, .code yX2_get cX2_get 2 (some .int), .fieldLink RX2 9 "HouseBells$Row" "cells" "[I"] ++ wsX40 ++ wsX00 ++ wsX30 ++ wsX20 ++ (vx_atS RX4 277 "java/lang/IndexOutOfBoundsException" ["java/lang/RuntimeException", "java/lang/Exception"]).filter goodWord)
def wsX4_wayTo_r1 : List Cond := [Cond.fieldLink RX4 10 "HouseBells" "house" "LHouseBells$House;", Cond.methodLink RX4 163 yX4_requireServant, Cond.instanceMethod yX4_requireServant, Cond.selects RX4 yX4_requireServant yX4_requireServant, Cond.initialized RX4, Cond.code yX4_requireServant cX4_requireServant 2 none, Cond.classLink RX4 273 "java/lang/IndexOutOfBoundsException", Cond.initialized "java/lang/IndexOutOfBoundsException", Cond.methodLink RX4 60 yX4_requireRoom, Cond.instanceMethod yX4_requireRoom, Cond.selects RX4 yX4_requireRoom yX4_requireRoom, Cond.code yX4_requireRoom cX4_requireRoom 2 none, Cond.methodLink RX4 89 yX2_get, Cond.instanceMethod yX2_get, Cond.selects RX2 yX2_get yX2_get, Cond.initialized RX2, Cond.code yX2_get cX2_get 2 (some .int), Cond.fieldLink RX2 9 "HouseBells$Row" "cells" "[I", Cond.methodLink RX4 176 yX3_wayToFloor, Cond.instanceMethod yX3_wayToFloor, Cond.selects RX3 yX3_wayToFloor yX3_wayToFloor, Cond.initialized RX3, Cond.code yX3_wayToFloor cX3_wayToFloor 3 (some .int), Cond.fieldLink RX3 18 "HouseBells$Staff" "floor" "LHouseBells$Row;"]
def wsX4_wayTo_r2 : List Cond := [Cond.fieldLink RX3 12 "HouseBells$Staff" "pace" "LHouseBells$Row;", Cond.methodLink RX3 46 yX2_get, Cond.methodLink RX3 50 yX3_minutesOfWay, Cond.static yX3_minutesOfWay, Cond.code yX3_minutesOfWay cX3_minutesOfWay 5 (some .int)]
def wsX4_wayTo : List Cond := .code yX4_wayTo cX4_wayTo 3 (some .int) :: ((wsX4_wayTo_r1 ++ wsX4_wayTo_r2) ++ wsX40 ++ wsX00 ++ wsX30 ++ wsX20 ++ (vx_atS RX4 277 "java/lang/IndexOutOfBoundsException" ["java/lang/RuntimeException", "java/lang/Exception"]).filter goodWord)
def wsX4_nearestIdle_r1 : List Cond := [Cond.fieldLink RX4 10 "HouseBells" "house" "LHouseBells$House;", Cond.methodLink RX4 60 yX4_requireRoom, Cond.instanceMethod yX4_requireRoom, Cond.selects RX4 yX4_requireRoom yX4_requireRoom, Cond.initialized RX4, Cond.code yX4_requireRoom cX4_requireRoom 2 none, Cond.classLink RX4 273 "java/lang/IndexOutOfBoundsException", Cond.initialized "java/lang/IndexOutOfBoundsException", Cond.methodLink RX4 89 yX2_get, Cond.instanceMethod yX2_get, Cond.selects RX2 yX2_get yX2_get, Cond.initialized RX2, Cond.code yX2_get cX2_get 2 (some .int), Cond.fieldLink RX2 9 "HouseBells$Row" "cells" "[I", Cond.methodLink RX4 179 yX3_nearestTo, Cond.instanceMethod yX3_nearestTo, Cond.selects RX3 yX3_nearestTo yX3_nearestTo, Cond.initialized RX3, Cond.code yX3_nearestTo cX3_nearestTo 6 (some .int), Cond.fieldLink RX3 30 "HouseBells$Staff" "count" "I", Cond.fieldLink RX3 21 "HouseBells$Staff" "goal" "LHouseBells$Row;", Cond.fieldLink RX3 24 "HouseBells$Staff" "guest" "LHouseBells$Row;", Cond.fieldLink RX3 18 "HouseBells$Staff" "floor" "LHouseBells$Row;", Cond.fieldLink RX3 12 "HouseBells$Staff" "pace" "LHouseBells$Row;"]
def wsX4_nearestIdle_r2 : List Cond := [Cond.methodLink RX3 46 yX2_get, Cond.methodLink RX3 50 yX3_minutesOfWay, Cond.static yX3_minutesOfWay, Cond.code yX3_minutesOfWay cX3_minutesOfWay 5 (some .int)]
def wsX4_nearestIdle : List Cond := .code yX4_nearestIdle cX4_nearestIdle 2 (some .int) :: ((wsX4_nearestIdle_r1 ++ wsX4_nearestIdle_r2) ++ wsX40 ++ wsX00 ++ wsX20 ++ wsX30 ++ (vx_atS RX4 277 "java/lang/IndexOutOfBoundsException" ["java/lang/RuntimeException", "java/lang/Exception"]).filter goodWord)
def wsX4_minutesUntilServed_r1 : List Cond := [Cond.fieldLink RX4 16 "HouseBells" "trial" "LHouseBells$House;", Cond.fieldLink RX4 10 "HouseBells" "house" "LHouseBells$House;", Cond.methodLink RX4 60 yX4_requireRoom, Cond.instanceMethod yX4_requireRoom, Cond.selects RX4 yX4_requireRoom yX4_requireRoom, Cond.initialized RX4, Cond.code yX4_requireRoom cX4_requireRoom 2 none, Cond.classLink RX4 273 "java/lang/IndexOutOfBoundsException", Cond.initialized "java/lang/IndexOutOfBoundsException", Cond.methodLink RX4 182 yX0_copyFrom, Cond.instanceMethod yX0_copyFrom, Cond.selects RX0 yX0_copyFrom yX0_copyFrom, Cond.initialized RX0, Cond.code yX0_copyFrom cX0_copyFrom 2 none, Cond.fieldLink RX0 51 "HouseBells$House" "minute" "I", Cond.fieldLink RX0 54 "HouseBells$House" "roomCount" "I", Cond.fieldLink RX0 9 "HouseBells$House" "charge" "I", Cond.fieldLink RX0 57 "HouseBells$House" "served" "I", Cond.fieldLink RX0 60 "HouseBells$House" "inVain" "I", Cond.fieldLink RX0 63 "HouseBells$House" "gaveUp" "I", Cond.fieldLink RX0 66 "HouseBells$House" "unheard" "I", Cond.fieldLink RX0 18 "HouseBells$House" "floor" "LHouseBells$Row;", Cond.fieldLink RX0 22 "HouseBells$House" "patience" "LHouseBells$Row;", Cond.fieldLink RX0 25 "HouseBells$House" "need" "LHouseBells$Row;"]
def wsX4_minutesUntilServed_r2 : List Cond := [Cond.fieldLink RX0 28 "HouseBells$House" "wire" "LHouseBells$Row;", Cond.fieldLink RX0 31 "HouseBells$House" "cut" "LHouseBells$Row;", Cond.fieldLink RX0 34 "HouseBells$House" "waited" "LHouseBells$Row;", Cond.fieldLink RX0 40 "HouseBells$House" "line" "LHouseBells$Line;", Cond.fieldLink RX0 47 "HouseBells$House" "staff" "LHouseBells$Staff;", Cond.methodLink RX0 69 yX2_copyFrom, Cond.instanceMethod yX2_copyFrom, Cond.selects RX2 yX2_copyFrom yX2_copyFrom, Cond.initialized RX2, Cond.code yX2_copyFrom cX2_copyFrom 3 none, Cond.fieldLink RX2 9 "HouseBells$Row" "cells" "[I", Cond.methodLink RX0 73 yX1_copyFrom, Cond.instanceMethod yX1_copyFrom, Cond.selects RX1 yX1_copyFrom yX1_copyFrom, Cond.initialized RX1, Cond.code yX1_copyFrom cX1_copyFrom 3 none, Cond.fieldLink RX1 15 "HouseBells$Line" "count" "I", Cond.fieldLink RX1 9 "HouseBells$Line" "drops" "[I", Cond.methodLink RX0 76 yX3_copyFrom, Cond.instanceMethod yX3_copyFrom, Cond.selects RX3 yX3_copyFrom yX3_copyFrom, Cond.initialized RX3, Cond.code yX3_copyFrom cX3_copyFrom 2 none, Cond.fieldLink RX3 30 "HouseBells$Staff" "count" "I"]
def wsX4_minutesUntilServed_r3 : List Cond := [Cond.fieldLink RX3 12 "HouseBells$Staff" "pace" "LHouseBells$Row;", Cond.fieldLink RX3 18 "HouseBells$Staff" "floor" "LHouseBells$Row;", Cond.fieldLink RX3 21 "HouseBells$Staff" "goal" "LHouseBells$Row;", Cond.fieldLink RX3 24 "HouseBells$Staff" "guest" "LHouseBells$Row;", Cond.fieldLink RX3 27 "HouseBells$Staff" "left" "LHouseBells$Row;", Cond.methodLink RX3 34 yX2_copyFrom, Cond.methodLink RX4 186 yX3_isServing, Cond.instanceMethod yX3_isServing, Cond.selects RX3 yX3_isServing yX3_isServing, Cond.code yX3_isServing cX3_isServing 3 (some .boolean), Cond.methodLink RX3 46 yX2_get, Cond.instanceMethod yX2_get, Cond.selects RX2 yX2_get yX2_get, Cond.code yX2_get cX2_get 2 (some .int), Cond.methodLink RX4 68 yX0_isWaiting, Cond.instanceMethod yX0_isWaiting, Cond.selects RX0 yX0_isWaiting yX0_isWaiting, Cond.code yX0_isWaiting cX0_isWaiting 2 (some .boolean), Cond.methodLink RX0 83 yX2_get, Cond.methodLink RX4 129 yX0_letMinuteGoBy, Cond.instanceMethod yX0_letMinuteGoBy, Cond.selects RX0 yX0_letMinuteGoBy yX0_letMinuteGoBy, Cond.code yX0_letMinuteGoBy cX0_letMinuteGoBy 2 (some .int), Cond.methodLink RX0 97 yX0_letRoomsWait]
def wsX4_minutesUntilServed_r4 : List Cond := [Cond.instanceMethod yX0_letRoomsWait, Cond.selects RX0 yX0_letRoomsWait yX0_letRoomsWait, Cond.code yX0_letRoomsWait cX0_letRoomsWait 3 none, Cond.methodLink RX0 79 yX2_set, Cond.instanceMethod yX2_set, Cond.selects RX2 yX2_set yX2_set, Cond.code yX2_set cX2_set 3 none, Cond.methodLink RX0 106 yX0_isMultiple, Cond.static yX0_isMultiple, Cond.code yX0_isMultiple cX0_isMultiple 2 (some .boolean), Cond.methodLink RX0 110 yX0_pullBell, Cond.instanceMethod yX0_pullBell, Cond.selects RX0 yX0_pullBell yX0_pullBell, Cond.code yX0_pullBell cX0_pullBell 4 (some .boolean), Cond.methodLink RX0 87 yX0_costFrom, Cond.static yX0_costFrom, Cond.code yX0_costFrom cX0_costFrom 1 (some .int), Cond.methodLink RX0 90 yX1_placeOf, Cond.instanceMethod yX1_placeOf, Cond.selects RX1 yX1_placeOf yX1_placeOf, Cond.code yX1_placeOf cX1_placeOf 3 (some .int), Cond.methodLink RX0 93 yX1_append, Cond.instanceMethod yX1_append, Cond.selects RX1 yX1_append yX1_append]
def wsX4_minutesUntilServed_r5 : List Cond := [Cond.code yX1_append cX1_append 2 none, Cond.methodLink RX0 100 yX0_letServantsMove, Cond.instanceMethod yX0_letServantsMove, Cond.selects RX0 yX0_letServantsMove yX0_letServantsMove, Cond.code yX0_letServantsMove cX0_letServantsMove 4 none, Cond.methodLink RX0 117 yX3_isIdle, Cond.instanceMethod yX3_isIdle, Cond.selects RX3 yX3_isIdle yX3_isIdle, Cond.code yX3_isIdle cX3_isIdle 2 (some .boolean), Cond.methodLink RX0 126 yX3_rest, Cond.instanceMethod yX3_rest, Cond.selects RX3 yX3_rest yX3_rest, Cond.code yX3_rest cX3_rest 2 none, Cond.methodLink RX3 38 yX2_set, Cond.methodLink RX0 129 yX0_arrive, Cond.instanceMethod yX0_arrive, Cond.selects RX0 yX0_arrive yX0_arrive, Cond.code yX0_arrive cX0_arrive 3 none, Cond.methodLink RX0 103 yX0_sendIdleServants, Cond.instanceMethod yX0_sendIdleServants, Cond.selects RX0 yX0_sendIdleServants yX0_sendIdleServants, Cond.code yX0_sendIdleServants cX0_sendIdleServants 5 none, Cond.methodLink RX0 137 yX1_first, Cond.instanceMethod yX1_first]
def wsX4_minutesUntilServed_r6 : List Cond := [Cond.selects RX1 yX1_first yX1_first, Cond.code yX1_first cX1_first 1 (some .int), Cond.methodLink RX0 141 yX3_nearestTo, Cond.instanceMethod yX3_nearestTo, Cond.selects RX3 yX3_nearestTo yX3_nearestTo, Cond.code yX3_nearestTo cX3_nearestTo 6 (some .int), Cond.methodLink RX3 50 yX3_minutesOfWay, Cond.static yX3_minutesOfWay, Cond.code yX3_minutesOfWay cX3_minutesOfWay 5 (some .int), Cond.methodLink RX0 144 yX1_remove, Cond.instanceMethod yX1_remove, Cond.selects RX1 yX1_remove yX1_remove, Cond.code yX1_remove cX1_remove 4 none, Cond.methodLink RX0 147 yX3_wayToFloor, Cond.instanceMethod yX3_wayToFloor, Cond.selects RX3 yX3_wayToFloor yX3_wayToFloor, Cond.code yX3_wayToFloor cX3_wayToFloor 3 (some .int)]
def wsX4_minutesUntilServed : List Cond := .code yX4_minutesUntilServed cX4_minutesUntilServed 3 (some .int) :: ((wsX4_minutesUntilServed_r1 ++ (wsX4_minutesUntilServed_r2 ++ (wsX4_minutesUntilServed_r3 ++ (wsX4_minutesUntilServed_r4 ++ (wsX4_minutesUntilServed_r5 ++ wsX4_minutesUntilServed_r6))))) ++ wsX40 ++ wsX00 ++ wsX20 ++ wsX10 ++ wsX30 ++ (vx_atS RX4 277 "java/lang/IndexOutOfBoundsException" ["java/lang/RuntimeException", "java/lang/Exception"]).filter goodWord)
def wsX4_serveInTrial_r1 : List Cond := [Cond.fieldLink RX4 16 "HouseBells" "trial" "LHouseBells$House;", Cond.methodLink RX4 282 yX0_isAnyoneWaiting, Cond.instanceMethod yX0_isAnyoneWaiting, Cond.selects RX0 yX0_isAnyoneWaiting yX0_isAnyoneWaiting, Cond.initialized RX0, Cond.code yX0_isAnyoneWaiting cX0_isAnyoneWaiting 2 (some .boolean), Cond.fieldLink RX0 54 "HouseBells$House" "roomCount" "I", Cond.fieldLink RX0 34 "HouseBells$House" "waited" "LHouseBells$Row;", Cond.methodLink RX0 83 yX2_get, Cond.instanceMethod yX2_get, Cond.selects RX2 yX2_get yX2_get, Cond.initialized RX2, Cond.code yX2_get cX2_get 2 (some .int), Cond.fieldLink RX2 9 "HouseBells$Row" "cells" "[I", Cond.methodLink RX4 129 yX0_letMinuteGoBy, Cond.instanceMethod yX0_letMinuteGoBy, Cond.selects RX0 yX0_letMinuteGoBy yX0_letMinuteGoBy, Cond.code yX0_letMinuteGoBy cX0_letMinuteGoBy 2 (some .int), Cond.fieldLink RX0 57 "HouseBells$House" "served" "I", Cond.fieldLink RX0 51 "HouseBells$House" "minute" "I", Cond.methodLink RX0 97 yX0_letRoomsWait, Cond.instanceMethod yX0_letRoomsWait, Cond.selects RX0 yX0_letRoomsWait yX0_letRoomsWait, Cond.code yX0_letRoomsWait cX0_letRoomsWait 3 none]
def wsX4_serveInTrial_r2 : List Cond := [Cond.fieldLink RX0 63 "HouseBells$House" "gaveUp" "I", Cond.fieldLink RX0 22 "HouseBells$House" "patience" "LHouseBells$Row;", Cond.methodLink RX0 79 yX2_set, Cond.instanceMethod yX2_set, Cond.selects RX2 yX2_set yX2_set, Cond.code yX2_set cX2_set 3 none, Cond.methodLink RX0 106 yX0_isMultiple, Cond.static yX0_isMultiple, Cond.code yX0_isMultiple cX0_isMultiple 2 (some .boolean), Cond.methodLink RX0 110 yX0_pullBell, Cond.instanceMethod yX0_pullBell, Cond.selects RX0 yX0_pullBell yX0_pullBell, Cond.code yX0_pullBell cX0_pullBell 4 (some .boolean), Cond.fieldLink RX0 18 "HouseBells$House" "floor" "LHouseBells$Row;", Cond.fieldLink RX0 31 "HouseBells$House" "cut" "LHouseBells$Row;", Cond.fieldLink RX0 9 "HouseBells$House" "charge" "I", Cond.fieldLink RX0 66 "HouseBells$House" "unheard" "I", Cond.fieldLink RX0 28 "HouseBells$House" "wire" "LHouseBells$Row;", Cond.fieldLink RX0 40 "HouseBells$House" "line" "LHouseBells$Line;", Cond.methodLink RX0 87 yX0_costFrom, Cond.static yX0_costFrom, Cond.code yX0_costFrom cX0_costFrom 1 (some .int), Cond.methodLink RX0 90 yX1_placeOf, Cond.instanceMethod yX1_placeOf]
def wsX4_serveInTrial_r3 : List Cond := [Cond.selects RX1 yX1_placeOf yX1_placeOf, Cond.initialized RX1, Cond.code yX1_placeOf cX1_placeOf 3 (some .int), Cond.fieldLink RX1 15 "HouseBells$Line" "count" "I", Cond.fieldLink RX1 9 "HouseBells$Line" "drops" "[I", Cond.methodLink RX0 93 yX1_append, Cond.instanceMethod yX1_append, Cond.selects RX1 yX1_append yX1_append, Cond.code yX1_append cX1_append 2 none, Cond.methodLink RX0 100 yX0_letServantsMove, Cond.instanceMethod yX0_letServantsMove, Cond.selects RX0 yX0_letServantsMove yX0_letServantsMove, Cond.code yX0_letServantsMove cX0_letServantsMove 4 none, Cond.fieldLink RX0 47 "HouseBells$House" "staff" "LHouseBells$Staff;", Cond.methodLink RX0 117 yX3_isIdle, Cond.instanceMethod yX3_isIdle, Cond.selects RX3 yX3_isIdle yX3_isIdle, Cond.initialized RX3, Cond.code yX3_isIdle cX3_isIdle 2 (some .boolean), Cond.fieldLink RX3 21 "HouseBells$Staff" "goal" "LHouseBells$Row;", Cond.fieldLink RX3 24 "HouseBells$Staff" "guest" "LHouseBells$Row;", Cond.methodLink RX3 46 yX2_get, Cond.methodLink RX0 126 yX3_rest, Cond.instanceMethod yX3_rest]
def wsX4_serveInTrial_r4 : List Cond := [Cond.selects RX3 yX3_rest yX3_rest, Cond.code yX3_rest cX3_rest 2 none, Cond.fieldLink RX3 27 "HouseBells$Staff" "left" "LHouseBells$Row;", Cond.methodLink RX3 38 yX2_set, Cond.methodLink RX0 129 yX0_arrive, Cond.instanceMethod yX0_arrive, Cond.selects RX0 yX0_arrive yX0_arrive, Cond.code yX0_arrive cX0_arrive 3 none, Cond.fieldLink RX0 60 "HouseBells$House" "inVain" "I", Cond.fieldLink RX0 25 "HouseBells$House" "need" "LHouseBells$Row;", Cond.methodLink RX0 103 yX0_sendIdleServants, Cond.instanceMethod yX0_sendIdleServants, Cond.selects RX0 yX0_sendIdleServants yX0_sendIdleServants, Cond.code yX0_sendIdleServants cX0_sendIdleServants 5 none, Cond.methodLink RX0 137 yX1_first, Cond.instanceMethod yX1_first, Cond.selects RX1 yX1_first yX1_first, Cond.code yX1_first cX1_first 1 (some .int), Cond.methodLink RX0 141 yX3_nearestTo, Cond.instanceMethod yX3_nearestTo, Cond.selects RX3 yX3_nearestTo yX3_nearestTo, Cond.code yX3_nearestTo cX3_nearestTo 6 (some .int), Cond.fieldLink RX3 30 "HouseBells$Staff" "count" "I", Cond.fieldLink RX3 18 "HouseBells$Staff" "floor" "LHouseBells$Row;"]
def wsX4_serveInTrial_r5 : List Cond := [Cond.fieldLink RX3 12 "HouseBells$Staff" "pace" "LHouseBells$Row;", Cond.methodLink RX3 50 yX3_minutesOfWay, Cond.static yX3_minutesOfWay, Cond.code yX3_minutesOfWay cX3_minutesOfWay 5 (some .int), Cond.methodLink RX0 144 yX1_remove, Cond.instanceMethod yX1_remove, Cond.selects RX1 yX1_remove yX1_remove, Cond.code yX1_remove cX1_remove 4 none, Cond.methodLink RX0 147 yX3_wayToFloor, Cond.instanceMethod yX3_wayToFloor, Cond.selects RX3 yX3_wayToFloor yX3_wayToFloor, Cond.code yX3_wayToFloor cX3_wayToFloor 3 (some .int)]
def wsX4_serveInTrial : List Cond := .code yX4_serveInTrial cX4_serveInTrial 4 (some .int) :: ((wsX4_serveInTrial_r1 ++ (wsX4_serveInTrial_r2 ++ (wsX4_serveInTrial_r3 ++ (wsX4_serveInTrial_r4 ++ wsX4_serveInTrial_r5)))) ++ wsX40 ++ wsX00 ++ wsX20 ++ wsX10 ++ wsX30)
def wsX4_servedIn_r1 : List Cond := [Cond.fieldLink RX4 16 "HouseBells" "trial" "LHouseBells$House;", Cond.fieldLink RX4 10 "HouseBells" "house" "LHouseBells$House;", Cond.methodLink RX4 126 yX4_requireMinutes, Cond.static yX4_requireMinutes, Cond.initialized RX4, Cond.code yX4_requireMinutes cX4_requireMinutes 1 none, Cond.classLink RX4 23 "java/lang/IllegalArgumentException", Cond.initialized "java/lang/IllegalArgumentException", Cond.methodLink RX4 19 yX4_isWithin, Cond.static yX4_isWithin, Cond.code yX4_isWithin cX4_isWithin 3 (some .boolean), Cond.methodLink RX4 182 yX0_copyFrom, Cond.instanceMethod yX0_copyFrom, Cond.selects RX0 yX0_copyFrom yX0_copyFrom, Cond.initialized RX0, Cond.code yX0_copyFrom cX0_copyFrom 2 none, Cond.fieldLink RX0 51 "HouseBells$House" "minute" "I", Cond.fieldLink RX0 54 "HouseBells$House" "roomCount" "I", Cond.fieldLink RX0 9 "HouseBells$House" "charge" "I", Cond.fieldLink RX0 57 "HouseBells$House" "served" "I", Cond.fieldLink RX0 60 "HouseBells$House" "inVain" "I", Cond.fieldLink RX0 63 "HouseBells$House" "gaveUp" "I", Cond.fieldLink RX0 66 "HouseBells$House" "unheard" "I", Cond.fieldLink RX0 18 "HouseBells$House" "floor" "LHouseBells$Row;"]
def wsX4_servedIn_r2 : List Cond := [Cond.fieldLink RX0 22 "HouseBells$House" "patience" "LHouseBells$Row;", Cond.fieldLink RX0 25 "HouseBells$House" "need" "LHouseBells$Row;", Cond.fieldLink RX0 28 "HouseBells$House" "wire" "LHouseBells$Row;", Cond.fieldLink RX0 31 "HouseBells$House" "cut" "LHouseBells$Row;", Cond.fieldLink RX0 34 "HouseBells$House" "waited" "LHouseBells$Row;", Cond.fieldLink RX0 40 "HouseBells$House" "line" "LHouseBells$Line;", Cond.fieldLink RX0 47 "HouseBells$House" "staff" "LHouseBells$Staff;", Cond.methodLink RX0 69 yX2_copyFrom, Cond.instanceMethod yX2_copyFrom, Cond.selects RX2 yX2_copyFrom yX2_copyFrom, Cond.initialized RX2, Cond.code yX2_copyFrom cX2_copyFrom 3 none, Cond.fieldLink RX2 9 "HouseBells$Row" "cells" "[I", Cond.methodLink RX0 73 yX1_copyFrom, Cond.instanceMethod yX1_copyFrom, Cond.selects RX1 yX1_copyFrom yX1_copyFrom, Cond.initialized RX1, Cond.code yX1_copyFrom cX1_copyFrom 3 none, Cond.fieldLink RX1 15 "HouseBells$Line" "count" "I", Cond.fieldLink RX1 9 "HouseBells$Line" "drops" "[I", Cond.methodLink RX0 76 yX3_copyFrom, Cond.instanceMethod yX3_copyFrom, Cond.selects RX3 yX3_copyFrom yX3_copyFrom, Cond.initialized RX3]
def wsX4_servedIn_r3 : List Cond := [Cond.code yX3_copyFrom cX3_copyFrom 2 none, Cond.fieldLink RX3 30 "HouseBells$Staff" "count" "I", Cond.fieldLink RX3 12 "HouseBells$Staff" "pace" "LHouseBells$Row;", Cond.fieldLink RX3 18 "HouseBells$Staff" "floor" "LHouseBells$Row;", Cond.fieldLink RX3 21 "HouseBells$Staff" "goal" "LHouseBells$Row;", Cond.fieldLink RX3 24 "HouseBells$Staff" "guest" "LHouseBells$Row;", Cond.fieldLink RX3 27 "HouseBells$Staff" "left" "LHouseBells$Row;", Cond.methodLink RX3 34 yX2_copyFrom, Cond.methodLink RX4 189 yX4_serveInTrial, Cond.instanceMethod yX4_serveInTrial, Cond.selects RX4 yX4_serveInTrial yX4_serveInTrial, Cond.code yX4_serveInTrial cX4_serveInTrial 4 (some .int), Cond.methodLink RX4 282 yX0_isAnyoneWaiting, Cond.instanceMethod yX0_isAnyoneWaiting, Cond.selects RX0 yX0_isAnyoneWaiting yX0_isAnyoneWaiting, Cond.code yX0_isAnyoneWaiting cX0_isAnyoneWaiting 2 (some .boolean), Cond.methodLink RX0 83 yX2_get, Cond.instanceMethod yX2_get, Cond.selects RX2 yX2_get yX2_get, Cond.code yX2_get cX2_get 2 (some .int), Cond.methodLink RX4 129 yX0_letMinuteGoBy, Cond.instanceMethod yX0_letMinuteGoBy, Cond.selects RX0 yX0_letMinuteGoBy yX0_letMinuteGoBy, Cond.code yX0_letMinuteGoBy cX0_letMinuteGoBy 2 (some .int)]
def wsX4_servedIn_r4 : List Cond := [Cond.methodLink RX0 97 yX0_letRoomsWait, Cond.instanceMethod yX0_letRoomsWait, Cond.selects RX0 yX0_letRoomsWait yX0_letRoomsWait, Cond.code yX0_letRoomsWait cX0_letRoomsWait 3 none, Cond.methodLink RX0 79 yX2_set, Cond.instanceMethod yX2_set, Cond.selects RX2 yX2_set yX2_set, Cond.code yX2_set cX2_set 3 none, Cond.methodLink RX0 106 yX0_isMultiple, Cond.static yX0_isMultiple, Cond.code yX0_isMultiple cX0_isMultiple 2 (some .boolean), Cond.methodLink RX0 110 yX0_pullBell, Cond.instanceMethod yX0_pullBell, Cond.selects RX0 yX0_pullBell yX0_pullBell, Cond.code yX0_pullBell cX0_pullBell 4 (some .boolean), Cond.methodLink RX0 87 yX0_costFrom, Cond.static yX0_costFrom, Cond.code yX0_costFrom cX0_costFrom 1 (some .int), Cond.methodLink RX0 90 yX1_placeOf, Cond.instanceMethod yX1_placeOf, Cond.selects RX1 yX1_placeOf yX1_placeOf, Cond.code yX1_placeOf cX1_placeOf 3 (some .int), Cond.methodLink RX0 93 yX1_append, Cond.instanceMethod yX1_append]
def wsX4_servedIn_r5 : List Cond := [Cond.selects RX1 yX1_append yX1_append, Cond.code yX1_append cX1_append 2 none, Cond.methodLink RX0 100 yX0_letServantsMove, Cond.instanceMethod yX0_letServantsMove, Cond.selects RX0 yX0_letServantsMove yX0_letServantsMove, Cond.code yX0_letServantsMove cX0_letServantsMove 4 none, Cond.methodLink RX0 117 yX3_isIdle, Cond.instanceMethod yX3_isIdle, Cond.selects RX3 yX3_isIdle yX3_isIdle, Cond.code yX3_isIdle cX3_isIdle 2 (some .boolean), Cond.methodLink RX3 46 yX2_get, Cond.methodLink RX0 126 yX3_rest, Cond.instanceMethod yX3_rest, Cond.selects RX3 yX3_rest yX3_rest, Cond.code yX3_rest cX3_rest 2 none, Cond.methodLink RX3 38 yX2_set, Cond.methodLink RX0 129 yX0_arrive, Cond.instanceMethod yX0_arrive, Cond.selects RX0 yX0_arrive yX0_arrive, Cond.code yX0_arrive cX0_arrive 3 none, Cond.methodLink RX0 103 yX0_sendIdleServants, Cond.instanceMethod yX0_sendIdleServants, Cond.selects RX0 yX0_sendIdleServants yX0_sendIdleServants, Cond.code yX0_sendIdleServants cX0_sendIdleServants 5 none]
def wsX4_servedIn_r6 : List Cond := [Cond.methodLink RX0 137 yX1_first, Cond.instanceMethod yX1_first, Cond.selects RX1 yX1_first yX1_first, Cond.code yX1_first cX1_first 1 (some .int), Cond.methodLink RX0 141 yX3_nearestTo, Cond.instanceMethod yX3_nearestTo, Cond.selects RX3 yX3_nearestTo yX3_nearestTo, Cond.code yX3_nearestTo cX3_nearestTo 6 (some .int), Cond.methodLink RX3 50 yX3_minutesOfWay, Cond.static yX3_minutesOfWay, Cond.code yX3_minutesOfWay cX3_minutesOfWay 5 (some .int), Cond.methodLink RX0 144 yX1_remove, Cond.instanceMethod yX1_remove, Cond.selects RX1 yX1_remove yX1_remove, Cond.code yX1_remove cX1_remove 4 none, Cond.methodLink RX0 147 yX3_wayToFloor, Cond.instanceMethod yX3_wayToFloor, Cond.selects RX3 yX3_wayToFloor yX3_wayToFloor, Cond.code yX3_wayToFloor cX3_wayToFloor 3 (some .int)]
def wsX4_servedIn : List Cond := .code yX4_servedIn cX4_servedIn 2 (some .int) :: ((wsX4_servedIn_r1 ++ (wsX4_servedIn_r2 ++ (wsX4_servedIn_r3 ++ (wsX4_servedIn_r4 ++ (wsX4_servedIn_r5 ++ wsX4_servedIn_r6))))) ++ wsX40 ++ wsX00 ++ wsX20 ++ wsX10 ++ wsX30 ++ (vx_atS RX4 27 "java/lang/IllegalArgumentException" ["java/lang/RuntimeException", "java/lang/Exception"]).filter goodWord)
def wsX4_bestToCross_r1 : List Cond := [Cond.fieldLink RX4 16 "HouseBells" "trial" "LHouseBells$House;", Cond.fieldLink RX4 10 "HouseBells" "house" "LHouseBells$House;", Cond.methodLink RX4 60 yX4_requireRoom, Cond.instanceMethod yX4_requireRoom, Cond.selects RX4 yX4_requireRoom yX4_requireRoom, Cond.initialized RX4, Cond.code yX4_requireRoom cX4_requireRoom 2 none, Cond.classLink RX4 273 "java/lang/IndexOutOfBoundsException", Cond.initialized "java/lang/IndexOutOfBoundsException", Cond.methodLink RX4 182 yX0_copyFrom, Cond.instanceMethod yX0_copyFrom, Cond.selects RX0 yX0_copyFrom yX0_copyFrom, Cond.initialized RX0, Cond.code yX0_copyFrom cX0_copyFrom 2 none, Cond.fieldLink RX0 51 "HouseBells$House" "minute" "I", Cond.fieldLink RX0 54 "HouseBells$House" "roomCount" "I", Cond.fieldLink RX0 9 "HouseBells$House" "charge" "I", Cond.fieldLink RX0 57 "HouseBells$House" "served" "I", Cond.fieldLink RX0 60 "HouseBells$House" "inVain" "I", Cond.fieldLink RX0 63 "HouseBells$House" "gaveUp" "I", Cond.fieldLink RX0 66 "HouseBells$House" "unheard" "I", Cond.fieldLink RX0 18 "HouseBells$House" "floor" "LHouseBells$Row;", Cond.fieldLink RX0 22 "HouseBells$House" "patience" "LHouseBells$Row;", Cond.fieldLink RX0 25 "HouseBells$House" "need" "LHouseBells$Row;"]
def wsX4_bestToCross_r2 : List Cond := [Cond.fieldLink RX0 28 "HouseBells$House" "wire" "LHouseBells$Row;", Cond.fieldLink RX0 31 "HouseBells$House" "cut" "LHouseBells$Row;", Cond.fieldLink RX0 34 "HouseBells$House" "waited" "LHouseBells$Row;", Cond.fieldLink RX0 40 "HouseBells$House" "line" "LHouseBells$Line;", Cond.fieldLink RX0 47 "HouseBells$House" "staff" "LHouseBells$Staff;", Cond.methodLink RX0 69 yX2_copyFrom, Cond.instanceMethod yX2_copyFrom, Cond.selects RX2 yX2_copyFrom yX2_copyFrom, Cond.initialized RX2, Cond.code yX2_copyFrom cX2_copyFrom 3 none, Cond.fieldLink RX2 9 "HouseBells$Row" "cells" "[I", Cond.methodLink RX0 73 yX1_copyFrom, Cond.instanceMethod yX1_copyFrom, Cond.selects RX1 yX1_copyFrom yX1_copyFrom, Cond.initialized RX1, Cond.code yX1_copyFrom cX1_copyFrom 3 none, Cond.fieldLink RX1 15 "HouseBells$Line" "count" "I", Cond.fieldLink RX1 9 "HouseBells$Line" "drops" "[I", Cond.methodLink RX0 76 yX3_copyFrom, Cond.instanceMethod yX3_copyFrom, Cond.selects RX3 yX3_copyFrom yX3_copyFrom, Cond.initialized RX3, Cond.code yX3_copyFrom cX3_copyFrom 2 none, Cond.fieldLink RX3 30 "HouseBells$Staff" "count" "I"]
def wsX4_bestToCross_r3 : List Cond := [Cond.fieldLink RX3 12 "HouseBells$Staff" "pace" "LHouseBells$Row;", Cond.fieldLink RX3 18 "HouseBells$Staff" "floor" "LHouseBells$Row;", Cond.fieldLink RX3 21 "HouseBells$Staff" "goal" "LHouseBells$Row;", Cond.fieldLink RX3 24 "HouseBells$Staff" "guest" "LHouseBells$Row;", Cond.fieldLink RX3 27 "HouseBells$Staff" "left" "LHouseBells$Row;", Cond.methodLink RX3 34 yX2_copyFrom, Cond.methodLink RX4 189 yX4_serveInTrial, Cond.instanceMethod yX4_serveInTrial, Cond.selects RX4 yX4_serveInTrial yX4_serveInTrial, Cond.code yX4_serveInTrial cX4_serveInTrial 4 (some .int), Cond.methodLink RX4 282 yX0_isAnyoneWaiting, Cond.instanceMethod yX0_isAnyoneWaiting, Cond.selects RX0 yX0_isAnyoneWaiting yX0_isAnyoneWaiting, Cond.code yX0_isAnyoneWaiting cX0_isAnyoneWaiting 2 (some .boolean), Cond.methodLink RX0 83 yX2_get, Cond.instanceMethod yX2_get, Cond.selects RX2 yX2_get yX2_get, Cond.code yX2_get cX2_get 2 (some .int), Cond.methodLink RX4 129 yX0_letMinuteGoBy, Cond.instanceMethod yX0_letMinuteGoBy, Cond.selects RX0 yX0_letMinuteGoBy yX0_letMinuteGoBy, Cond.code yX0_letMinuteGoBy cX0_letMinuteGoBy 2 (some .int), Cond.methodLink RX0 97 yX0_letRoomsWait, Cond.instanceMethod yX0_letRoomsWait]
def wsX4_bestToCross_r4 : List Cond := [Cond.selects RX0 yX0_letRoomsWait yX0_letRoomsWait, Cond.code yX0_letRoomsWait cX0_letRoomsWait 3 none, Cond.methodLink RX0 79 yX2_set, Cond.instanceMethod yX2_set, Cond.selects RX2 yX2_set yX2_set, Cond.code yX2_set cX2_set 3 none, Cond.methodLink RX0 106 yX0_isMultiple, Cond.static yX0_isMultiple, Cond.code yX0_isMultiple cX0_isMultiple 2 (some .boolean), Cond.methodLink RX0 110 yX0_pullBell, Cond.instanceMethod yX0_pullBell, Cond.selects RX0 yX0_pullBell yX0_pullBell, Cond.code yX0_pullBell cX0_pullBell 4 (some .boolean), Cond.methodLink RX0 87 yX0_costFrom, Cond.static yX0_costFrom, Cond.code yX0_costFrom cX0_costFrom 1 (some .int), Cond.methodLink RX0 90 yX1_placeOf, Cond.instanceMethod yX1_placeOf, Cond.selects RX1 yX1_placeOf yX1_placeOf, Cond.code yX1_placeOf cX1_placeOf 3 (some .int), Cond.methodLink RX0 93 yX1_append, Cond.instanceMethod yX1_append, Cond.selects RX1 yX1_append yX1_append, Cond.code yX1_append cX1_append 2 none]
def wsX4_bestToCross_r5 : List Cond := [Cond.methodLink RX0 100 yX0_letServantsMove, Cond.instanceMethod yX0_letServantsMove, Cond.selects RX0 yX0_letServantsMove yX0_letServantsMove, Cond.code yX0_letServantsMove cX0_letServantsMove 4 none, Cond.methodLink RX0 117 yX3_isIdle, Cond.instanceMethod yX3_isIdle, Cond.selects RX3 yX3_isIdle yX3_isIdle, Cond.code yX3_isIdle cX3_isIdle 2 (some .boolean), Cond.methodLink RX3 46 yX2_get, Cond.methodLink RX0 126 yX3_rest, Cond.instanceMethod yX3_rest, Cond.selects RX3 yX3_rest yX3_rest, Cond.code yX3_rest cX3_rest 2 none, Cond.methodLink RX3 38 yX2_set, Cond.methodLink RX0 129 yX0_arrive, Cond.instanceMethod yX0_arrive, Cond.selects RX0 yX0_arrive yX0_arrive, Cond.code yX0_arrive cX0_arrive 3 none, Cond.methodLink RX0 103 yX0_sendIdleServants, Cond.instanceMethod yX0_sendIdleServants, Cond.selects RX0 yX0_sendIdleServants yX0_sendIdleServants, Cond.code yX0_sendIdleServants cX0_sendIdleServants 5 none, Cond.methodLink RX0 137 yX1_first, Cond.instanceMethod yX1_first]
def wsX4_bestToCross_r6 : List Cond := [Cond.selects RX1 yX1_first yX1_first, Cond.code yX1_first cX1_first 1 (some .int), Cond.methodLink RX0 141 yX3_nearestTo, Cond.instanceMethod yX3_nearestTo, Cond.selects RX3 yX3_nearestTo yX3_nearestTo, Cond.code yX3_nearestTo cX3_nearestTo 6 (some .int), Cond.methodLink RX3 50 yX3_minutesOfWay, Cond.static yX3_minutesOfWay, Cond.code yX3_minutesOfWay cX3_minutesOfWay 5 (some .int), Cond.methodLink RX0 144 yX1_remove, Cond.instanceMethod yX1_remove, Cond.selects RX1 yX1_remove yX1_remove, Cond.code yX1_remove cX1_remove 4 none, Cond.methodLink RX0 147 yX3_wayToFloor, Cond.instanceMethod yX3_wayToFloor, Cond.selects RX3 yX3_wayToFloor yX3_wayToFloor, Cond.code yX3_wayToFloor cX3_wayToFloor 3 (some .int), Cond.methodLink RX4 83 yX0_swapWires, Cond.instanceMethod yX0_swapWires, Cond.selects RX0 yX0_swapWires yX0_swapWires, Cond.code yX0_swapWires cX0_swapWires 4 none]
def wsX4_bestToCross : List Cond := .code yX4_bestToCross cX4_bestToCross 6 (some .int) :: ((wsX4_bestToCross_r1 ++ (wsX4_bestToCross_r2 ++ (wsX4_bestToCross_r3 ++ (wsX4_bestToCross_r4 ++ (wsX4_bestToCross_r5 ++ wsX4_bestToCross_r6))))) ++ wsX40 ++ wsX00 ++ wsX20 ++ wsX10 ++ wsX30 ++ (vx_atS RX4 277 "java/lang/IndexOutOfBoundsException" ["java/lang/RuntimeException", "java/lang/Exception"]).filter goodWord)
def wsX4_meanWait : List Cond := .code yX4_meanWait cX4_meanWait 4 (some .double) :: ([.fieldLink RX4 10 "HouseBells" "house" "LHouseBells$House;", .methodLink RX4 68 yX0_isWaiting, .instanceMethod yX0_isWaiting, .selects RX0 yX0_isWaiting yX0_isWaiting, .initialized RX0, .code yX0_isWaiting cX0_isWaiting 2 (some .boolean), .fieldLink RX0 34 "HouseBells$House" "waited" "LHouseBells$Row;", .methodLink RX0 83 yX2_get, .instanceMethod yX2_get, .selects RX2 yX2_get yX2_get, .initialized RX2, .code yX2_get cX2_get 2 (some .int), .fieldLink RX2 9 "HouseBells$Row" "cells" "[I", .methodLink RX4 89 yX2_get] ++ wsX40 ++ wsX00 ++ wsX20)
def wsX4_mix : List Cond := .code yX4_mix cX4_mix 3 (some .long) :: ([.constantLong RX4 286 (31)])
def wsX4_digest_r1 : List Cond := [Cond.constantLong RX4 192 (2377), Cond.fieldLink RX4 10 "HouseBells" "house" "LHouseBells$House;", Cond.methodLink RX4 194 yX4_minute, Cond.instanceMethod yX4_minute, Cond.selects RX4 yX4_minute yX4_minute, Cond.initialized RX4, Cond.code yX4_minute cX4_minute 1 (some .int), Cond.methodLink RX4 196 yX4_mix, Cond.static yX4_mix, Cond.code yX4_mix cX4_mix 3 (some .long), Cond.constantLong RX4 286 (31), Cond.methodLink RX4 200 yX4_rooms, Cond.instanceMethod yX4_rooms, Cond.selects RX4 yX4_rooms yX4_rooms, Cond.code yX4_rooms cX4_rooms 1 (some .int), Cond.methodLink RX4 203 yX4_servants, Cond.instanceMethod yX4_servants, Cond.selects RX4 yX4_servants yX4_servants, Cond.code yX4_servants cX4_servants 1 (some .int), Cond.methodLink RX4 206 yX4_charge, Cond.instanceMethod yX4_charge, Cond.selects RX4 yX4_charge yX4_charge, Cond.code yX4_charge cX4_charge 1 (some .int), Cond.methodLink RX4 208 yX4_served]
def wsX4_digest_r2 : List Cond := [Cond.instanceMethod yX4_served, Cond.selects RX4 yX4_served yX4_served, Cond.code yX4_served cX4_served 1 (some .int), Cond.methodLink RX4 210 yX4_inVain, Cond.instanceMethod yX4_inVain, Cond.selects RX4 yX4_inVain yX4_inVain, Cond.code yX4_inVain cX4_inVain 1 (some .int), Cond.methodLink RX4 212 yX4_gaveUp, Cond.instanceMethod yX4_gaveUp, Cond.selects RX4 yX4_gaveUp yX4_gaveUp, Cond.code yX4_gaveUp cX4_gaveUp 1 (some .int), Cond.methodLink RX4 214 yX4_unheard, Cond.instanceMethod yX4_unheard, Cond.selects RX4 yX4_unheard yX4_unheard, Cond.code yX4_unheard cX4_unheard 1 (some .int), Cond.methodLink RX4 216 yX4_longestWaiting, Cond.instanceMethod yX4_longestWaiting, Cond.selects RX4 yX4_longestWaiting yX4_longestWaiting, Cond.code yX4_longestWaiting cX4_longestWaiting 4 (some .int), Cond.methodLink RX4 89 yX2_get, Cond.instanceMethod yX2_get, Cond.selects RX2 yX2_get yX2_get, Cond.initialized RX2, Cond.code yX2_get cX2_get 2 (some .int)]
def wsX4_digest_r3 : List Cond := [Cond.fieldLink RX2 9 "HouseBells$Row" "cells" "[I", Cond.methodLink RX4 219 yX4_crossed, Cond.instanceMethod yX4_crossed, Cond.selects RX4 yX4_crossed yX4_crossed, Cond.code yX4_crossed cX4_crossed 3 (some .int), Cond.methodLink RX4 222 yX4_crossingsNeeded, Cond.instanceMethod yX4_crossingsNeeded, Cond.selects RX4 yX4_crossingsNeeded yX4_crossingsNeeded, Cond.code yX4_crossingsNeeded cX4_crossingsNeeded 3 (some .int), Cond.methodLink RX4 147 yX0_isFirstOfItsCircle, Cond.instanceMethod yX0_isFirstOfItsCircle, Cond.selects RX0 yX0_isFirstOfItsCircle yX0_isFirstOfItsCircle, Cond.initialized RX0, Cond.code yX0_isFirstOfItsCircle cX0_isFirstOfItsCircle 4 (some .boolean), Cond.fieldLink RX0 28 "HouseBells$House" "wire" "LHouseBells$Row;", Cond.fieldLink RX0 54 "HouseBells$House" "roomCount" "I", Cond.methodLink RX0 83 yX2_get, Cond.methodLink RX4 225 yX4_fallen, Cond.instanceMethod yX4_fallen, Cond.selects RX4 yX4_fallen yX4_fallen, Cond.code yX4_fallen cX4_fallen 1 (some .int), Cond.methodLink RX4 228 yX4_nextDrop, Cond.instanceMethod yX4_nextDrop, Cond.selects RX4 yX4_nextDrop yX4_nextDrop]
def wsX4_digest_r4 : List Cond := [Cond.code yX4_nextDrop cX4_nextDrop 1 (some .int), Cond.methodLink RX4 150 yX1_first, Cond.instanceMethod yX1_first, Cond.selects RX1 yX1_first yX1_first, Cond.initialized RX1, Cond.code yX1_first cX1_first 1 (some .int), Cond.fieldLink RX1 15 "HouseBells$Line" "count" "I", Cond.fieldLink RX1 9 "HouseBells$Line" "drops" "[I", Cond.methodLink RX4 231 yX4_servedIn, Cond.instanceMethod yX4_servedIn, Cond.selects RX4 yX4_servedIn yX4_servedIn, Cond.code yX4_servedIn cX4_servedIn 2 (some .int), Cond.fieldLink RX4 16 "HouseBells" "trial" "LHouseBells$House;", Cond.methodLink RX4 126 yX4_requireMinutes, Cond.static yX4_requireMinutes, Cond.code yX4_requireMinutes cX4_requireMinutes 1 none, Cond.classLink RX4 23 "java/lang/IllegalArgumentException", Cond.initialized "java/lang/IllegalArgumentException", Cond.methodLink RX4 19 yX4_isWithin, Cond.static yX4_isWithin, Cond.code yX4_isWithin cX4_isWithin 3 (some .boolean), Cond.methodLink RX4 182 yX0_copyFrom, Cond.instanceMethod yX0_copyFrom, Cond.selects RX0 yX0_copyFrom yX0_copyFrom]
def wsX4_digest_r5 : List Cond := [Cond.code yX0_copyFrom cX0_copyFrom 2 none, Cond.fieldLink RX0 51 "HouseBells$House" "minute" "I", Cond.fieldLink RX0 9 "HouseBells$House" "charge" "I", Cond.fieldLink RX0 57 "HouseBells$House" "served" "I", Cond.fieldLink RX0 60 "HouseBells$House" "inVain" "I", Cond.fieldLink RX0 63 "HouseBells$House" "gaveUp" "I", Cond.fieldLink RX0 66 "HouseBells$House" "unheard" "I", Cond.fieldLink RX0 18 "HouseBells$House" "floor" "LHouseBells$Row;", Cond.fieldLink RX0 22 "HouseBells$House" "patience" "LHouseBells$Row;", Cond.fieldLink RX0 25 "HouseBells$House" "need" "LHouseBells$Row;", Cond.fieldLink RX0 31 "HouseBells$House" "cut" "LHouseBells$Row;", Cond.fieldLink RX0 34 "HouseBells$House" "waited" "LHouseBells$Row;", Cond.fieldLink RX0 40 "HouseBells$House" "line" "LHouseBells$Line;", Cond.fieldLink RX0 47 "HouseBells$House" "staff" "LHouseBells$Staff;", Cond.methodLink RX0 69 yX2_copyFrom, Cond.instanceMethod yX2_copyFrom, Cond.selects RX2 yX2_copyFrom yX2_copyFrom, Cond.code yX2_copyFrom cX2_copyFrom 3 none, Cond.methodLink RX0 73 yX1_copyFrom, Cond.instanceMethod yX1_copyFrom, Cond.selects RX1 yX1_copyFrom yX1_copyFrom, Cond.code yX1_copyFrom cX1_copyFrom 3 none, Cond.methodLink RX0 76 yX3_copyFrom, Cond.instanceMethod yX3_copyFrom]
def wsX4_digest_r6 : List Cond := [Cond.selects RX3 yX3_copyFrom yX3_copyFrom, Cond.initialized RX3, Cond.code yX3_copyFrom cX3_copyFrom 2 none, Cond.fieldLink RX3 30 "HouseBells$Staff" "count" "I", Cond.fieldLink RX3 12 "HouseBells$Staff" "pace" "LHouseBells$Row;", Cond.fieldLink RX3 18 "HouseBells$Staff" "floor" "LHouseBells$Row;", Cond.fieldLink RX3 21 "HouseBells$Staff" "goal" "LHouseBells$Row;", Cond.fieldLink RX3 24 "HouseBells$Staff" "guest" "LHouseBells$Row;", Cond.fieldLink RX3 27 "HouseBells$Staff" "left" "LHouseBells$Row;", Cond.methodLink RX3 34 yX2_copyFrom, Cond.methodLink RX4 189 yX4_serveInTrial, Cond.instanceMethod yX4_serveInTrial, Cond.selects RX4 yX4_serveInTrial yX4_serveInTrial, Cond.code yX4_serveInTrial cX4_serveInTrial 4 (some .int), Cond.methodLink RX4 282 yX0_isAnyoneWaiting, Cond.instanceMethod yX0_isAnyoneWaiting, Cond.selects RX0 yX0_isAnyoneWaiting yX0_isAnyoneWaiting, Cond.code yX0_isAnyoneWaiting cX0_isAnyoneWaiting 2 (some .boolean), Cond.methodLink RX4 129 yX0_letMinuteGoBy, Cond.instanceMethod yX0_letMinuteGoBy, Cond.selects RX0 yX0_letMinuteGoBy yX0_letMinuteGoBy, Cond.code yX0_letMinuteGoBy cX0_letMinuteGoBy 2 (some .int), Cond.methodLink RX0 97 yX0_letRoomsWait, Cond.instanceMethod yX0_letRoomsWait]
def wsX4_digest_r7 : List Cond := [Cond.selects RX0 yX0_letRoomsWait yX0_letRoomsWait, Cond.code yX0_letRoomsWait cX0_letRoomsWait 3 none, Cond.methodLink RX0 79 yX2_set, Cond.instanceMethod yX2_set, Cond.selects RX2 yX2_set yX2_set, Cond.code yX2_set cX2_set 3 none, Cond.methodLink RX0 106 yX0_isMultiple, Cond.static yX0_isMultiple, Cond.code yX0_isMultiple cX0_isMultiple 2 (some .boolean), Cond.methodLink RX0 110 yX0_pullBell, Cond.instanceMethod yX0_pullBell, Cond.selects RX0 yX0_pullBell yX0_pullBell, Cond.code yX0_pullBell cX0_pullBell 4 (some .boolean), Cond.methodLink RX0 87 yX0_costFrom, Cond.static yX0_costFrom, Cond.code yX0_costFrom cX0_costFrom 1 (some .int), Cond.methodLink RX0 90 yX1_placeOf, Cond.instanceMethod yX1_placeOf, Cond.selects RX1 yX1_placeOf yX1_placeOf, Cond.code yX1_placeOf cX1_placeOf 3 (some .int), Cond.methodLink RX0 93 yX1_append, Cond.instanceMethod yX1_append, Cond.selects RX1 yX1_append yX1_append, Cond.code yX1_append cX1_append 2 none]
def wsX4_digest_r8 : List Cond := [Cond.methodLink RX0 100 yX0_letServantsMove, Cond.instanceMethod yX0_letServantsMove, Cond.selects RX0 yX0_letServantsMove yX0_letServantsMove, Cond.code yX0_letServantsMove cX0_letServantsMove 4 none, Cond.methodLink RX0 117 yX3_isIdle, Cond.instanceMethod yX3_isIdle, Cond.selects RX3 yX3_isIdle yX3_isIdle, Cond.code yX3_isIdle cX3_isIdle 2 (some .boolean), Cond.methodLink RX3 46 yX2_get, Cond.methodLink RX0 126 yX3_rest, Cond.instanceMethod yX3_rest, Cond.selects RX3 yX3_rest yX3_rest, Cond.code yX3_rest cX3_rest 2 none, Cond.methodLink RX3 38 yX2_set, Cond.methodLink RX0 129 yX0_arrive, Cond.instanceMethod yX0_arrive, Cond.selects RX0 yX0_arrive yX0_arrive, Cond.code yX0_arrive cX0_arrive 3 none, Cond.methodLink RX0 103 yX0_sendIdleServants, Cond.instanceMethod yX0_sendIdleServants, Cond.selects RX0 yX0_sendIdleServants yX0_sendIdleServants, Cond.code yX0_sendIdleServants cX0_sendIdleServants 5 none, Cond.methodLink RX0 137 yX1_first, Cond.methodLink RX0 141 yX3_nearestTo]
def wsX4_digest_r9 : List Cond := [Cond.instanceMethod yX3_nearestTo, Cond.selects RX3 yX3_nearestTo yX3_nearestTo, Cond.code yX3_nearestTo cX3_nearestTo 6 (some .int), Cond.methodLink RX3 50 yX3_minutesOfWay, Cond.static yX3_minutesOfWay, Cond.code yX3_minutesOfWay cX3_minutesOfWay 5 (some .int), Cond.methodLink RX0 144 yX1_remove, Cond.instanceMethod yX1_remove, Cond.selects RX1 yX1_remove yX1_remove, Cond.code yX1_remove cX1_remove 4 none, Cond.methodLink RX0 147 yX3_wayToFloor, Cond.instanceMethod yX3_wayToFloor, Cond.selects RX3 yX3_wayToFloor yX3_wayToFloor, Cond.code yX3_wayToFloor cX3_wayToFloor 3 (some .int), Cond.methodLink RX4 234 yX4_dropOf, Cond.instanceMethod yX4_dropOf, Cond.selects RX4 yX4_dropOf yX4_dropOf, Cond.code yX4_dropOf cX4_dropOf 2 (some .int), Cond.methodLink RX4 60 yX4_requireRoom, Cond.instanceMethod yX4_requireRoom, Cond.selects RX4 yX4_requireRoom yX4_requireRoom, Cond.code yX4_requireRoom cX4_requireRoom 2 none, Cond.classLink RX4 273 "java/lang/IndexOutOfBoundsException", Cond.initialized "java/lang/IndexOutOfBoundsException"]
def wsX4_digest_r10 : List Cond := [Cond.methodLink RX4 237 yX4_roomOf, Cond.instanceMethod yX4_roomOf, Cond.selects RX4 yX4_roomOf yX4_roomOf, Cond.code yX4_roomOf cX4_roomOf 3 (some .int), Cond.methodLink RX4 240 yX4_isCut, Cond.instanceMethod yX4_isCut, Cond.selects RX4 yX4_isCut yX4_isCut, Cond.code yX4_isCut cX4_isCut 2 (some .boolean), Cond.methodLink RX4 92 yX0_isWireCut, Cond.instanceMethod yX0_isWireCut, Cond.selects RX0 yX0_isWireCut yX0_isWireCut, Cond.code yX0_isWireCut cX0_isWireCut 2 (some .boolean), Cond.methodLink RX4 243 yX4_waitedFor, Cond.instanceMethod yX4_waitedFor, Cond.selects RX4 yX4_waitedFor yX4_waitedFor, Cond.code yX4_waitedFor cX4_waitedFor 2 (some .int), Cond.methodLink RX4 246 yX4_placeInLine, Cond.instanceMethod yX4_placeInLine, Cond.selects RX4 yX4_placeInLine yX4_placeInLine, Cond.code yX4_placeInLine cX4_placeInLine 2 (some .int), Cond.methodLink RX4 115 yX1_placeOf, Cond.methodLink RX4 249 yX4_ringsLeft, Cond.instanceMethod yX4_ringsLeft, Cond.selects RX4 yX4_ringsLeft yX4_ringsLeft]
def wsX4_digest_r11 : List Cond := [Cond.code yX4_ringsLeft cX4_ringsLeft 2 (some .int), Cond.methodLink RX4 156 yX0_costFrom, Cond.methodLink RX4 159 yX4_quotient, Cond.static yX4_quotient, Cond.code yX4_quotient cX4_quotient 2 (some .int), Cond.methodLink RX4 252 yX4_nearestIdle, Cond.instanceMethod yX4_nearestIdle, Cond.selects RX4 yX4_nearestIdle yX4_nearestIdle, Cond.code yX4_nearestIdle cX4_nearestIdle 2 (some .int), Cond.methodLink RX4 179 yX3_nearestTo, Cond.methodLink RX4 255 yX4_minutesUntilServed, Cond.instanceMethod yX4_minutesUntilServed, Cond.selects RX4 yX4_minutesUntilServed yX4_minutesUntilServed, Cond.code yX4_minutesUntilServed cX4_minutesUntilServed 3 (some .int), Cond.methodLink RX4 186 yX3_isServing, Cond.instanceMethod yX3_isServing, Cond.selects RX3 yX3_isServing yX3_isServing, Cond.code yX3_isServing cX3_isServing 3 (some .boolean), Cond.methodLink RX4 68 yX0_isWaiting, Cond.instanceMethod yX0_isWaiting, Cond.selects RX0 yX0_isWaiting yX0_isWaiting, Cond.code yX0_isWaiting cX0_isWaiting 2 (some .boolean), Cond.methodLink RX4 258 yX4_bestToCross, Cond.instanceMethod yX4_bestToCross]
def wsX4_digest_r12 : List Cond := [Cond.selects RX4 yX4_bestToCross yX4_bestToCross, Cond.code yX4_bestToCross cX4_bestToCross 6 (some .int), Cond.methodLink RX4 83 yX0_swapWires, Cond.instanceMethod yX0_swapWires, Cond.selects RX0 yX0_swapWires yX0_swapWires, Cond.code yX0_swapWires cX0_swapWires 4 none, Cond.methodLink RX4 261 yX4_floorOf, Cond.instanceMethod yX4_floorOf, Cond.selects RX4 yX4_floorOf yX4_floorOf, Cond.code yX4_floorOf cX4_floorOf 2 (some .int), Cond.methodLink RX4 163 yX4_requireServant, Cond.instanceMethod yX4_requireServant, Cond.selects RX4 yX4_requireServant yX4_requireServant, Cond.code yX4_requireServant cX4_requireServant 2 none, Cond.methodLink RX4 264 yX4_goesTo, Cond.instanceMethod yX4_goesTo, Cond.selects RX4 yX4_goesTo yX4_goesTo, Cond.code yX4_goesTo cX4_goesTo 2 (some .int), Cond.methodLink RX4 267 yX4_serves, Cond.instanceMethod yX4_serves, Cond.selects RX4 yX4_serves yX4_serves, Cond.code yX4_serves cX4_serves 2 (some .int), Cond.methodLink RX4 270 yX4_minutesLeft, Cond.instanceMethod yX4_minutesLeft]
def wsX4_digest_r13 : List Cond := [Cond.selects RX4 yX4_minutesLeft yX4_minutesLeft, Cond.code yX4_minutesLeft cX4_minutesLeft 2 (some .int)]
def wsX4_digest : List Cond := .code yX4_digest cX4_digest 4 (some .long) :: ((wsX4_digest_r1 ++ (wsX4_digest_r2 ++ (wsX4_digest_r3 ++ (wsX4_digest_r4 ++ (wsX4_digest_r5 ++ (wsX4_digest_r6 ++ (wsX4_digest_r7 ++ (wsX4_digest_r8 ++ (wsX4_digest_r9 ++ (wsX4_digest_r10 ++ (wsX4_digest_r11 ++ (wsX4_digest_r12 ++ wsX4_digest_r13)))))))))))) ++ wsX40 ++ wsX00 ++ wsX30 ++ wsX20 ++ wsX10 ++ (vx_atS RX4 27 "java/lang/IllegalArgumentException" ["java/lang/RuntimeException", "java/lang/Exception"]).filter goodWord ++ (vx_atS RX4 277 "java/lang/IndexOutOfBoundsException" ["java/lang/RuntimeException", "java/lang/Exception"]).filter goodWord)
def wsX5_init : List Cond := .code yX5_init cX5_init 1 none :: ([.methodLink RX5 1 objectInit, .instanceMethod objectInit, .code objectInit ⟨#[0xb1]⟩ 1 none, .classLink RX5 7 "[I", .fieldLink RX5 9 "HouseBellsLaw$Sim" "rooms" "[[I", .fieldLink RX5 15 "HouseBellsLaw$Sim" "servants" "[[I", .arrayClass .int, .fieldLink RX5 18 "HouseBellsLaw$Sim" "line" "[I", .fieldLink RX5 21 "HouseBellsLaw$Sim" "charge" "I"] ++ wsX50)
def wsX5_with : List Cond := .code yX5_with cX5_with 4 (some (.array (.array .int))) :: ([.classLink RX5 7 "[I"])
def wsX5_copy_r1 : List Cond := [Cond.classLink RX5 10 RX5, Cond.instantiable RX5 9, Cond.initialized RX5, Cond.fieldLink RX5 9 "HouseBellsLaw$Sim" "rooms" "[[I", Cond.classLink RX5 7 "[I", Cond.methodLink RX5 26 ⟨"[I", "clone", "()Ljava/lang/Object;"⟩, Cond.sameMethod "[I" "java/lang/Object" "clone" "()Ljava/lang/Object;", Cond.native ⟨"java/lang/Object", "clone", "()Ljava/lang/Object;"⟩, Cond.instanceMethod ⟨"java/lang/Object", "clone", "()Ljava/lang/Object;"⟩, Cond.selects "[I" ⟨"[I", "clone", "()Ljava/lang/Object;"⟩ ⟨"java/lang/Object", "clone", "()Ljava/lang/Object;"⟩, Cond.fieldLink RX5 15 "HouseBellsLaw$Sim" "servants" "[[I", Cond.fieldLink RX5 18 "HouseBellsLaw$Sim" "line" "[I", Cond.fieldLink RX5 30 "HouseBellsLaw$Sim" "minute" "I", Cond.fieldLink RX5 21 "HouseBellsLaw$Sim" "charge" "I", Cond.fieldLink RX5 33 "HouseBellsLaw$Sim" "served" "I", Cond.fieldLink RX5 36 "HouseBellsLaw$Sim" "inVain" "I", Cond.fieldLink RX5 39 "HouseBellsLaw$Sim" "gaveUp" "I", Cond.fieldLink RX5 42 "HouseBellsLaw$Sim" "unheard" "I", Cond.methodLink RX5 25 yX5_init, Cond.instanceMethod yX5_init, Cond.code yX5_init cX5_init 1 none, Cond.methodLink RX5 1 objectInit, Cond.instanceMethod objectInit, Cond.code objectInit ⟨#[0xb1]⟩ 1 none]
def wsX5_copy_r2 : List Cond := [Cond.arrayClass .int]
def wsX5_copy : List Cond := .code yX5_copy cX5_copy 3 (some (.object "HouseBellsLaw$Sim")) :: ((wsX5_copy_r1 ++ wsX5_copy_r2) ++ wsX50)
def wsX5_place : List Cond := .code yX5_place cX5_place 3 (some .int) :: ([.fieldLink RX5 18 "HouseBellsLaw$Sim" "line" "[I"] ++ wsX50)
def wsX5_up : List Cond := .code yX5_up cX5_up 8 none :: ([.fieldLink RX5 18 "HouseBellsLaw$Sim" "line" "[I", .arrayClass .int] ++ wsX50)
def wsX5_rings : List Cond := .code yX5_rings cX5_rings 5 (some .boolean) :: ([.fieldLink RX5 9 "HouseBellsLaw$Sim" "rooms" "[[I", .fieldLink RX5 21 "HouseBellsLaw$Sim" "charge" "I", .fieldLink RX5 42 "HouseBellsLaw$Sim" "unheard" "I", .fieldLink RX5 18 "HouseBellsLaw$Sim" "line" "[I", .arrayClass .int, .methodLink RX5 45 yX5_place, .instanceMethod yX5_place, .selects RX5 yX5_place yX5_place, .initialized RX5, .code yX5_place cX5_place 3 (some .int)] ++ wsX50)
def wsX5_ring : List Cond := .code yX5_ring cX5_ring 2 (some .boolean) :: ([.fieldLink RX5 9 "HouseBellsLaw$Sim" "rooms" "[[I", .methodLink RX5 49 Lib.Math.max.name, .static Lib.Math.max.name, .initialized "java/lang/Math", .code Lib.Math.max.name Lib.Math.max.code 2 (some .int), .methodLink RX5 55 yX5_rings, .instanceMethod yX5_rings, .selects RX5 yX5_rings yX5_rings, .initialized RX5, .code yX5_rings cX5_rings 5 (some .boolean), .fieldLink RX5 21 "HouseBellsLaw$Sim" "charge" "I", .fieldLink RX5 42 "HouseBellsLaw$Sim" "unheard" "I", .fieldLink RX5 18 "HouseBellsLaw$Sim" "line" "[I", .arrayClass .int, .methodLink RX5 45 yX5_place, .instanceMethod yX5_place, .selects RX5 yX5_place yX5_place, .code yX5_place cX5_place 3 (some .int)] ++ wsX50)
def wsX5_way : List Cond := .code yX5_way cX5_way 5 (some .int) :: ([.fieldLink RX5 15 "HouseBellsLaw$Sim" "servants" "[[I", .fieldLink RX5 9 "HouseBellsLaw$Sim" "rooms" "[[I", .methodLink RX5 59 Lib.Math.abs.name, .static Lib.Math.abs.name, .initialized "java/lang/Math", .code Lib.Math.abs.name Lib.Math.abs.code 1 (some .int)] ++ wsX50)
def wsX5_isIdle : List Cond := .code yX5_isIdle cX5_isIdle 2 (some .boolean) :: ([.fieldLink RX5 15 "HouseBellsLaw$Sim" "servants" "[[I"] ++ wsX50)
def wsX5_nearest : List Cond := .code yX5_nearest cX5_nearest 4 (some .int) :: ([.fieldLink RX5 15 "HouseBellsLaw$Sim" "servants" "[[I", .methodLink RX5 62 yX5_isIdle, .instanceMethod yX5_isIdle, .selects RX5 yX5_isIdle yX5_isIdle, .initialized RX5, .code yX5_isIdle cX5_isIdle 2 (some .boolean), .methodLink RX5 65 yX5_way, .instanceMethod yX5_way, .selects RX5 yX5_way yX5_way, .code yX5_way cX5_way 5 (some .int), .fieldLink RX5 9 "HouseBellsLaw$Sim" "rooms" "[[I", .methodLink RX5 59 Lib.Math.abs.name, .static Lib.Math.abs.name, .initialized "java/lang/Math", .code Lib.Math.abs.name Lib.Math.abs.code 1 (some .int)] ++ wsX50)
def wsX5_pass_r1 : List Cond := [Cond.fieldLink RX5 33 "HouseBellsLaw$Sim" "served" "I", Cond.fieldLink RX5 9 "HouseBellsLaw$Sim" "rooms" "[[I", Cond.fieldLink RX5 39 "HouseBellsLaw$Sim" "gaveUp" "I", Cond.fieldLink RX5 15 "HouseBellsLaw$Sim" "servants" "[[I", Cond.fieldLink RX5 36 "HouseBellsLaw$Sim" "inVain" "I", Cond.fieldLink RX5 18 "HouseBellsLaw$Sim" "line" "[I", Cond.fieldLink RX5 30 "HouseBellsLaw$Sim" "minute" "I", Cond.methodLink RX5 55 yX5_rings, Cond.instanceMethod yX5_rings, Cond.selects RX5 yX5_rings yX5_rings, Cond.initialized RX5, Cond.code yX5_rings cX5_rings 5 (some .boolean), Cond.fieldLink RX5 21 "HouseBellsLaw$Sim" "charge" "I", Cond.fieldLink RX5 42 "HouseBellsLaw$Sim" "unheard" "I", Cond.arrayClass .int, Cond.methodLink RX5 45 yX5_place, Cond.instanceMethod yX5_place, Cond.selects RX5 yX5_place yX5_place, Cond.code yX5_place cX5_place 3 (some .int), Cond.methodLink RX5 62 yX5_isIdle, Cond.instanceMethod yX5_isIdle, Cond.selects RX5 yX5_isIdle yX5_isIdle, Cond.code yX5_isIdle cX5_isIdle 2 (some .boolean), Cond.methodLink RX5 68 yX5_nearest]
def wsX5_pass_r2 : List Cond := [Cond.instanceMethod yX5_nearest, Cond.selects RX5 yX5_nearest yX5_nearest, Cond.code yX5_nearest cX5_nearest 4 (some .int), Cond.methodLink RX5 65 yX5_way, Cond.instanceMethod yX5_way, Cond.selects RX5 yX5_way yX5_way, Cond.code yX5_way cX5_way 5 (some .int), Cond.methodLink RX5 59 Lib.Math.abs.name, Cond.static Lib.Math.abs.name, Cond.initialized "java/lang/Math", Cond.code Lib.Math.abs.name Lib.Math.abs.code 1 (some .int), Cond.methodLink RX5 71 yX5_up, Cond.instanceMethod yX5_up, Cond.selects RX5 yX5_up yX5_up, Cond.code yX5_up cX5_up 8 none]
def wsX5_pass : List Cond := .code yX5_pass cX5_pass 5 (some .int) :: ((wsX5_pass_r1 ++ wsX5_pass_r2) ++ wsX50)
def wsX5_pass__r1 : List Cond := [Cond.methodLink RX5 75 yX5_pass, Cond.instanceMethod yX5_pass, Cond.selects RX5 yX5_pass yX5_pass, Cond.initialized RX5, Cond.code yX5_pass cX5_pass 5 (some .int), Cond.fieldLink RX5 33 "HouseBellsLaw$Sim" "served" "I", Cond.fieldLink RX5 9 "HouseBellsLaw$Sim" "rooms" "[[I", Cond.fieldLink RX5 39 "HouseBellsLaw$Sim" "gaveUp" "I", Cond.fieldLink RX5 15 "HouseBellsLaw$Sim" "servants" "[[I", Cond.fieldLink RX5 36 "HouseBellsLaw$Sim" "inVain" "I", Cond.fieldLink RX5 18 "HouseBellsLaw$Sim" "line" "[I", Cond.fieldLink RX5 30 "HouseBellsLaw$Sim" "minute" "I", Cond.methodLink RX5 55 yX5_rings, Cond.instanceMethod yX5_rings, Cond.selects RX5 yX5_rings yX5_rings, Cond.code yX5_rings cX5_rings 5 (some .boolean), Cond.fieldLink RX5 21 "HouseBellsLaw$Sim" "charge" "I", Cond.fieldLink RX5 42 "HouseBellsLaw$Sim" "unheard" "I", Cond.arrayClass .int, Cond.methodLink RX5 45 yX5_place, Cond.instanceMethod yX5_place, Cond.selects RX5 yX5_place yX5_place, Cond.code yX5_place cX5_place 3 (some .int), Cond.methodLink RX5 62 yX5_isIdle]
def wsX5_pass__r2 : List Cond := [Cond.instanceMethod yX5_isIdle, Cond.selects RX5 yX5_isIdle yX5_isIdle, Cond.code yX5_isIdle cX5_isIdle 2 (some .boolean), Cond.methodLink RX5 68 yX5_nearest, Cond.instanceMethod yX5_nearest, Cond.selects RX5 yX5_nearest yX5_nearest, Cond.code yX5_nearest cX5_nearest 4 (some .int), Cond.methodLink RX5 65 yX5_way, Cond.instanceMethod yX5_way, Cond.selects RX5 yX5_way yX5_way, Cond.code yX5_way cX5_way 5 (some .int), Cond.methodLink RX5 59 Lib.Math.abs.name, Cond.static Lib.Math.abs.name, Cond.initialized "java/lang/Math", Cond.code Lib.Math.abs.name Lib.Math.abs.code 1 (some .int), Cond.methodLink RX5 71 yX5_up, Cond.instanceMethod yX5_up, Cond.selects RX5 yX5_up yX5_up, Cond.code yX5_up cX5_up 8 none]
def wsX5_pass_ : List Cond := .code yX5_pass_ cX5_pass_ 4 (some .int) :: ((wsX5_pass__r1 ++ wsX5_pass__r2) ++ wsX50)
def wsX5_cut : List Cond := .code yX5_cut cX5_cut 6 (some .int) :: ([.fieldLink RX5 9 "HouseBellsLaw$Sim" "rooms" "[[I"] ++ wsX50)
def wsX5_cross : List Cond := .code yX5_cross cX5_cross 4 none :: ([.fieldLink RX5 9 "HouseBellsLaw$Sim" "rooms" "[[I"] ++ wsX50)
def wsX5_crossings_r1 : List Cond := [Cond.fieldLink RX5 9 "HouseBellsLaw$Sim" "rooms" "[[I", Cond.methodLink RX5 79 yX5_copy, Cond.instanceMethod yX5_copy, Cond.selects RX5 yX5_copy yX5_copy, Cond.initialized RX5, Cond.code yX5_copy cX5_copy 3 (some (.object "HouseBellsLaw$Sim")), Cond.classLink RX5 10 RX5, Cond.instantiable RX5 9, Cond.classLink RX5 7 "[I", Cond.methodLink RX5 26 ⟨"[I", "clone", "()Ljava/lang/Object;"⟩, Cond.sameMethod "[I" "java/lang/Object" "clone" "()Ljava/lang/Object;", Cond.native ⟨"java/lang/Object", "clone", "()Ljava/lang/Object;"⟩, Cond.instanceMethod ⟨"java/lang/Object", "clone", "()Ljava/lang/Object;"⟩, Cond.selects "[I" ⟨"[I", "clone", "()Ljava/lang/Object;"⟩ ⟨"java/lang/Object", "clone", "()Ljava/lang/Object;"⟩, Cond.fieldLink RX5 15 "HouseBellsLaw$Sim" "servants" "[[I", Cond.fieldLink RX5 18 "HouseBellsLaw$Sim" "line" "[I", Cond.fieldLink RX5 30 "HouseBellsLaw$Sim" "minute" "I", Cond.fieldLink RX5 21 "HouseBellsLaw$Sim" "charge" "I", Cond.fieldLink RX5 33 "HouseBellsLaw$Sim" "served" "I", Cond.fieldLink RX5 36 "HouseBellsLaw$Sim" "inVain" "I", Cond.fieldLink RX5 39 "HouseBellsLaw$Sim" "gaveUp" "I", Cond.fieldLink RX5 42 "HouseBellsLaw$Sim" "unheard" "I", Cond.methodLink RX5 25 yX5_init, Cond.instanceMethod yX5_init]
def wsX5_crossings_r2 : List Cond := [Cond.code yX5_init cX5_init 1 none, Cond.methodLink RX5 1 objectInit, Cond.instanceMethod objectInit, Cond.code objectInit ⟨#[0xb1]⟩ 1 none, Cond.arrayClass .int, Cond.methodLink RX5 83 yX5_cross, Cond.instanceMethod yX5_cross, Cond.selects RX5 yX5_cross yX5_cross, Cond.code yX5_cross cX5_cross 4 none]
def wsX5_crossings : List Cond := .code yX5_crossings cX5_crossings 5 (some .int) :: ((wsX5_crossings_r1 ++ wsX5_crossings_r2) ++ wsX50)
def wsX5_isSame_r1 : List Cond := [Cond.fieldLink RX5 9 "HouseBellsLaw$Sim" "rooms" "[[I", Cond.fieldLink RX5 21 "HouseBellsLaw$Sim" "charge" "I", Cond.fieldLink RX5 15 "HouseBellsLaw$Sim" "servants" "[[I", Cond.fieldLink RX5 30 "HouseBellsLaw$Sim" "minute" "I", Cond.fieldLink RX5 33 "HouseBellsLaw$Sim" "served" "I", Cond.fieldLink RX5 36 "HouseBellsLaw$Sim" "inVain" "I", Cond.fieldLink RX5 39 "HouseBellsLaw$Sim" "gaveUp" "I", Cond.fieldLink RX5 42 "HouseBellsLaw$Sim" "unheard" "I", Cond.fieldLink RX5 18 "HouseBellsLaw$Sim" "line" "[I", Cond.methodLink RX5 87 yX4_dropOf, Cond.instanceMethod yX4_dropOf, Cond.selects RX4 yX4_dropOf yX4_dropOf, Cond.initialized RX4, Cond.code yX4_dropOf cX4_dropOf 2 (some .int), Cond.fieldLink RX4 10 "HouseBells" "house" "LHouseBells$House;", Cond.methodLink RX4 60 yX4_requireRoom, Cond.instanceMethod yX4_requireRoom, Cond.selects RX4 yX4_requireRoom yX4_requireRoom, Cond.code yX4_requireRoom cX4_requireRoom 2 none, Cond.classLink RX4 273 "java/lang/IndexOutOfBoundsException", Cond.initialized "java/lang/IndexOutOfBoundsException", Cond.methodLink RX4 89 yX2_get, Cond.instanceMethod yX2_get, Cond.selects RX2 yX2_get yX2_get]
def wsX5_isSame_r2 : List Cond := [Cond.initialized RX2, Cond.code yX2_get cX2_get 2 (some .int), Cond.fieldLink RX2 9 "HouseBells$Row" "cells" "[I", Cond.methodLink RX5 92 yX4_roomOf, Cond.instanceMethod yX4_roomOf, Cond.selects RX4 yX4_roomOf yX4_roomOf, Cond.code yX4_roomOf cX4_roomOf 3 (some .int), Cond.methodLink RX5 95 yX4_isCut, Cond.instanceMethod yX4_isCut, Cond.selects RX4 yX4_isCut yX4_isCut, Cond.code yX4_isCut cX4_isCut 2 (some .boolean), Cond.methodLink RX4 92 yX0_isWireCut, Cond.instanceMethod yX0_isWireCut, Cond.selects RX0 yX0_isWireCut yX0_isWireCut, Cond.initialized RX0, Cond.code yX0_isWireCut cX0_isWireCut 2 (some .boolean), Cond.fieldLink RX0 31 "HouseBells$House" "cut" "LHouseBells$Row;", Cond.methodLink RX0 83 yX2_get, Cond.methodLink RX5 98 yX4_waitedFor, Cond.instanceMethod yX4_waitedFor, Cond.selects RX4 yX4_waitedFor yX4_waitedFor, Cond.code yX4_waitedFor cX4_waitedFor 2 (some .int), Cond.methodLink RX5 101 yX4_placeInLine, Cond.instanceMethod yX4_placeInLine]
def wsX5_isSame_r3 : List Cond := [Cond.selects RX4 yX4_placeInLine yX4_placeInLine, Cond.code yX4_placeInLine cX4_placeInLine 2 (some .int), Cond.methodLink RX4 115 yX1_placeOf, Cond.instanceMethod yX1_placeOf, Cond.selects RX1 yX1_placeOf yX1_placeOf, Cond.initialized RX1, Cond.code yX1_placeOf cX1_placeOf 3 (some .int), Cond.fieldLink RX1 15 "HouseBells$Line" "count" "I", Cond.fieldLink RX1 9 "HouseBells$Line" "drops" "[I", Cond.methodLink RX5 45 yX5_place, Cond.instanceMethod yX5_place, Cond.selects RX5 yX5_place yX5_place, Cond.initialized RX5, Cond.code yX5_place cX5_place 3 (some .int), Cond.methodLink RX5 104 yX4_hasFallen, Cond.instanceMethod yX4_hasFallen, Cond.selects RX4 yX4_hasFallen yX4_hasFallen, Cond.code yX4_hasFallen cX4_hasFallen 2 (some .boolean), Cond.methodLink RX5 107 yX4_ringsLeft, Cond.instanceMethod yX4_ringsLeft, Cond.selects RX4 yX4_ringsLeft yX4_ringsLeft, Cond.code yX4_ringsLeft cX4_ringsLeft 2 (some .int), Cond.methodLink RX4 156 yX0_costFrom, Cond.static yX0_costFrom]
def wsX5_isSame_r4 : List Cond := [Cond.code yX0_costFrom cX0_costFrom 1 (some .int), Cond.methodLink RX4 159 yX4_quotient, Cond.static yX4_quotient, Cond.code yX4_quotient cX4_quotient 2 (some .int), Cond.methodLink RX5 110 yX4_nearestIdle, Cond.instanceMethod yX4_nearestIdle, Cond.selects RX4 yX4_nearestIdle yX4_nearestIdle, Cond.code yX4_nearestIdle cX4_nearestIdle 2 (some .int), Cond.methodLink RX4 179 yX3_nearestTo, Cond.instanceMethod yX3_nearestTo, Cond.selects RX3 yX3_nearestTo yX3_nearestTo, Cond.initialized RX3, Cond.code yX3_nearestTo cX3_nearestTo 6 (some .int), Cond.fieldLink RX3 30 "HouseBells$Staff" "count" "I", Cond.fieldLink RX3 21 "HouseBells$Staff" "goal" "LHouseBells$Row;", Cond.fieldLink RX3 24 "HouseBells$Staff" "guest" "LHouseBells$Row;", Cond.fieldLink RX3 18 "HouseBells$Staff" "floor" "LHouseBells$Row;", Cond.fieldLink RX3 12 "HouseBells$Staff" "pace" "LHouseBells$Row;", Cond.methodLink RX3 46 yX2_get, Cond.methodLink RX3 50 yX3_minutesOfWay, Cond.static yX3_minutesOfWay, Cond.code yX3_minutesOfWay cX3_minutesOfWay 5 (some .int), Cond.methodLink RX5 68 yX5_nearest, Cond.instanceMethod yX5_nearest]
def wsX5_isSame_r5 : List Cond := [Cond.selects RX5 yX5_nearest yX5_nearest, Cond.code yX5_nearest cX5_nearest 4 (some .int), Cond.methodLink RX5 62 yX5_isIdle, Cond.instanceMethod yX5_isIdle, Cond.selects RX5 yX5_isIdle yX5_isIdle, Cond.code yX5_isIdle cX5_isIdle 2 (some .boolean), Cond.methodLink RX5 65 yX5_way, Cond.instanceMethod yX5_way, Cond.selects RX5 yX5_way yX5_way, Cond.code yX5_way cX5_way 5 (some .int), Cond.methodLink RX5 59 Lib.Math.abs.name, Cond.static Lib.Math.abs.name, Cond.initialized "java/lang/Math", Cond.code Lib.Math.abs.name Lib.Math.abs.code 1 (some .int), Cond.methodLink RX5 113 yX4_floorOf, Cond.instanceMethod yX4_floorOf, Cond.selects RX4 yX4_floorOf yX4_floorOf, Cond.code yX4_floorOf cX4_floorOf 2 (some .int), Cond.methodLink RX4 163 yX4_requireServant, Cond.instanceMethod yX4_requireServant, Cond.selects RX4 yX4_requireServant yX4_requireServant, Cond.code yX4_requireServant cX4_requireServant 2 none, Cond.methodLink RX5 116 yX4_goesTo, Cond.instanceMethod yX4_goesTo]
def wsX5_isSame_r6 : List Cond := [Cond.selects RX4 yX4_goesTo yX4_goesTo, Cond.code yX4_goesTo cX4_goesTo 2 (some .int), Cond.methodLink RX5 119 yX4_serves, Cond.instanceMethod yX4_serves, Cond.selects RX4 yX4_serves yX4_serves, Cond.code yX4_serves cX4_serves 2 (some .int), Cond.methodLink RX5 122 yX4_minutesLeft, Cond.instanceMethod yX4_minutesLeft, Cond.selects RX4 yX4_minutesLeft yX4_minutesLeft, Cond.code yX4_minutesLeft cX4_minutesLeft 2 (some .int), Cond.methodLink RX5 125 yX4_wayTo, Cond.instanceMethod yX4_wayTo, Cond.selects RX4 yX4_wayTo yX4_wayTo, Cond.code yX4_wayTo cX4_wayTo 3 (some .int), Cond.methodLink RX4 176 yX3_wayToFloor, Cond.instanceMethod yX3_wayToFloor, Cond.selects RX3 yX3_wayToFloor yX3_wayToFloor, Cond.code yX3_wayToFloor cX3_wayToFloor 3 (some .int), Cond.methodLink RX5 128 yX4_minute, Cond.instanceMethod yX4_minute, Cond.selects RX4 yX4_minute yX4_minute, Cond.code yX4_minute cX4_minute 1 (some .int), Cond.methodLink RX5 130 yX4_rooms, Cond.instanceMethod yX4_rooms]
def wsX5_isSame_r7 : List Cond := [Cond.selects RX4 yX4_rooms yX4_rooms, Cond.code yX4_rooms cX4_rooms 1 (some .int), Cond.methodLink RX5 132 yX4_servants, Cond.instanceMethod yX4_servants, Cond.selects RX4 yX4_servants yX4_servants, Cond.code yX4_servants cX4_servants 1 (some .int), Cond.methodLink RX5 134 yX4_charge, Cond.instanceMethod yX4_charge, Cond.selects RX4 yX4_charge yX4_charge, Cond.code yX4_charge cX4_charge 1 (some .int), Cond.methodLink RX5 136 yX4_served, Cond.instanceMethod yX4_served, Cond.selects RX4 yX4_served yX4_served, Cond.code yX4_served cX4_served 1 (some .int), Cond.methodLink RX5 138 yX4_inVain, Cond.instanceMethod yX4_inVain, Cond.selects RX4 yX4_inVain yX4_inVain, Cond.code yX4_inVain cX4_inVain 1 (some .int), Cond.methodLink RX5 140 yX4_gaveUp, Cond.instanceMethod yX4_gaveUp, Cond.selects RX4 yX4_gaveUp yX4_gaveUp, Cond.code yX4_gaveUp cX4_gaveUp 1 (some .int), Cond.methodLink RX5 142 yX4_unheard, Cond.instanceMethod yX4_unheard]
def wsX5_isSame_r8 : List Cond := [Cond.selects RX4 yX4_unheard yX4_unheard, Cond.code yX4_unheard cX4_unheard 1 (some .int), Cond.methodLink RX5 144 yX4_longestWaiting, Cond.instanceMethod yX4_longestWaiting, Cond.selects RX4 yX4_longestWaiting yX4_longestWaiting, Cond.code yX4_longestWaiting cX4_longestWaiting 4 (some .int), Cond.methodLink RX5 147 yX4_crossed, Cond.instanceMethod yX4_crossed, Cond.selects RX4 yX4_crossed yX4_crossed, Cond.code yX4_crossed cX4_crossed 3 (some .int), Cond.methodLink RX5 150 yX4_crossingsNeeded, Cond.instanceMethod yX4_crossingsNeeded, Cond.selects RX4 yX4_crossingsNeeded yX4_crossingsNeeded, Cond.code yX4_crossingsNeeded cX4_crossingsNeeded 3 (some .int), Cond.methodLink RX4 147 yX0_isFirstOfItsCircle, Cond.instanceMethod yX0_isFirstOfItsCircle, Cond.selects RX0 yX0_isFirstOfItsCircle yX0_isFirstOfItsCircle, Cond.code yX0_isFirstOfItsCircle cX0_isFirstOfItsCircle 4 (some .boolean), Cond.fieldLink RX0 28 "HouseBells$House" "wire" "LHouseBells$Row;", Cond.fieldLink RX0 54 "HouseBells$House" "roomCount" "I", Cond.methodLink RX5 153 yX5_crossings, Cond.instanceMethod yX5_crossings, Cond.selects RX5 yX5_crossings yX5_crossings, Cond.code yX5_crossings cX5_crossings 5 (some .int)]
def wsX5_isSame_r9 : List Cond := [Cond.methodLink RX5 79 yX5_copy, Cond.instanceMethod yX5_copy, Cond.selects RX5 yX5_copy yX5_copy, Cond.code yX5_copy cX5_copy 3 (some (.object "HouseBellsLaw$Sim")), Cond.classLink RX5 10 RX5, Cond.instantiable RX5 9, Cond.classLink RX5 7 "[I", Cond.methodLink RX5 26 ⟨"[I", "clone", "()Ljava/lang/Object;"⟩, Cond.sameMethod "[I" "java/lang/Object" "clone" "()Ljava/lang/Object;", Cond.native ⟨"java/lang/Object", "clone", "()Ljava/lang/Object;"⟩, Cond.instanceMethod ⟨"java/lang/Object", "clone", "()Ljava/lang/Object;"⟩, Cond.selects "[I" ⟨"[I", "clone", "()Ljava/lang/Object;"⟩ ⟨"java/lang/Object", "clone", "()Ljava/lang/Object;"⟩, Cond.methodLink RX5 25 yX5_init, Cond.instanceMethod yX5_init, Cond.code yX5_init cX5_init 1 none, Cond.methodLink RX5 1 objectInit, Cond.instanceMethod objectInit, Cond.code objectInit ⟨#[0xb1]⟩ 1 none, Cond.arrayClass .int, Cond.methodLink RX5 83 yX5_cross, Cond.instanceMethod yX5_cross, Cond.selects RX5 yX5_cross yX5_cross, Cond.code yX5_cross cX5_cross 4 none, Cond.methodLink RX5 156 yX4_fallen]
def wsX5_isSame_r10 : List Cond := [Cond.instanceMethod yX4_fallen, Cond.selects RX4 yX4_fallen yX4_fallen, Cond.code yX4_fallen cX4_fallen 1 (some .int), Cond.methodLink RX5 159 yX4_nextDrop, Cond.instanceMethod yX4_nextDrop, Cond.selects RX4 yX4_nextDrop yX4_nextDrop, Cond.code yX4_nextDrop cX4_nextDrop 1 (some .int), Cond.methodLink RX4 150 yX1_first, Cond.instanceMethod yX1_first, Cond.selects RX1 yX1_first yX1_first, Cond.code yX1_first cX1_first 1 (some .int), Cond.methodLink RX5 162 yX4_meanWait, Cond.instanceMethod yX4_meanWait, Cond.selects RX4 yX4_meanWait yX4_meanWait, Cond.code yX4_meanWait cX4_meanWait 4 (some .double), Cond.methodLink RX4 68 yX0_isWaiting, Cond.instanceMethod yX0_isWaiting, Cond.selects RX0 yX0_isWaiting yX0_isWaiting, Cond.code yX0_isWaiting cX0_isWaiting 2 (some .boolean), Cond.fieldLink RX0 34 "HouseBells$House" "waited" "LHouseBells$Row;"]
def wsX5_isSame : List Cond := .code yX5_isSame cX5_isSame 9 (some .boolean) :: ((wsX5_isSame_r1 ++ (wsX5_isSame_r2 ++ (wsX5_isSame_r3 ++ (wsX5_isSame_r4 ++ (wsX5_isSame_r5 ++ (wsX5_isSame_r6 ++ (wsX5_isSame_r7 ++ (wsX5_isSame_r8 ++ (wsX5_isSame_r9 ++ wsX5_isSame_r10))))))))) ++ wsX50 ++ wsX40 ++ wsX00 ++ wsX20 ++ wsX10 ++ wsX30 ++ (vx_atS RX4 277 "java/lang/IndexOutOfBoundsException" ["java/lang/RuntimeException", "java/lang/Exception"]).filter goodWord)
def wsJ9_abs_0f7a4 : List Cond := .code yJ9_abs_0f7a4 cJ9_abs_0f7a4 1 (some .int) :: ([])
def wsJ9_max_7cf53 : List Cond := .code yJ9_max_7cf53 cJ9_max_7cf53 2 (some .int) :: ([])
def wsL_below : List Cond := .code yL_below cL_below 2 (some .int) :: ([.constant RL 7 (2147483647)])
def wsL_cell : List Cond := .code yL_cell cL_cell 2 (some .int) :: ([.constant RL 8 (790386105)])
def wsL_act_r1 : List Cond := [Cond.classLink RL 83 "java/lang/IllegalStateException", Cond.fieldLink RL 9 "HouseBellsLaw$Sim" "rooms" "[[I", Cond.fieldLink RL 15 "HouseBellsLaw$Sim" "servants" "[[I", Cond.arrayClass .int, Cond.fieldLink RL 58 "HouseBellsLaw$Sim" "charge" "I", Cond.fieldLink RL 75 "HouseBellsLaw$Sim" "line" "[I", Cond.methodLink RL 18 yL_below, Cond.static yL_below, Cond.initialized RL, Cond.code yL_below cL_below 2 (some .int), Cond.constant RL 7 (2147483647), Cond.methodLink RL 24 yX5_with, Cond.static yX5_with, Cond.initialized RX5, Cond.code yX5_with cX5_with 4 (some (.array (.array .int))), Cond.classLink RX5 7 "[I", Cond.methodLink RL 28 yX4_addRoom, Cond.instanceMethod yX4_addRoom, Cond.selects RX4 yX4_addRoom yX4_addRoom, Cond.initialized RX4, Cond.code yX4_addRoom cX4_addRoom 4 (some .int), Cond.classLink RX4 23 "java/lang/IllegalArgumentException", Cond.initialized "java/lang/IllegalArgumentException", Cond.classLink RX4 34 "java/lang/IllegalStateException"]
def wsL_act_r2 : List Cond := [Cond.initialized "java/lang/IllegalStateException", Cond.fieldLink RX4 10 "HouseBells" "house" "LHouseBells$House;", Cond.methodLink RX4 19 yX4_isWithin, Cond.static yX4_isWithin, Cond.code yX4_isWithin cX4_isWithin 3 (some .boolean), Cond.methodLink RX4 39 yX0_openRoom, Cond.instanceMethod yX0_openRoom, Cond.selects RX0 yX0_openRoom yX0_openRoom, Cond.initialized RX0, Cond.code yX0_openRoom cX0_openRoom 5 (some .int), Cond.fieldLink RX0 54 "HouseBells$House" "roomCount" "I", Cond.fieldLink RX0 18 "HouseBells$House" "floor" "LHouseBells$Row;", Cond.fieldLink RX0 22 "HouseBells$House" "patience" "LHouseBells$Row;", Cond.fieldLink RX0 25 "HouseBells$House" "need" "LHouseBells$Row;", Cond.fieldLink RX0 28 "HouseBells$House" "wire" "LHouseBells$Row;", Cond.fieldLink RX0 31 "HouseBells$House" "cut" "LHouseBells$Row;", Cond.fieldLink RX0 34 "HouseBells$House" "waited" "LHouseBells$Row;", Cond.methodLink RX0 79 yX2_set, Cond.instanceMethod yX2_set, Cond.selects RX2 yX2_set yX2_set, Cond.initialized RX2, Cond.code yX2_set cX2_set 3 none, Cond.fieldLink RX2 9 "HouseBells$Row" "cells" "[I", Cond.methodLink RL 34 yX4_addServant]
def wsL_act_r3 : List Cond := [Cond.instanceMethod yX4_addServant, Cond.selects RX4 yX4_addServant yX4_addServant, Cond.code yX4_addServant cX4_addServant 2 (some .int), Cond.methodLink RX4 56 yX3_hire, Cond.instanceMethod yX3_hire, Cond.selects RX3 yX3_hire yX3_hire, Cond.initialized RX3, Cond.code yX3_hire cX3_hire 3 (some .int), Cond.fieldLink RX3 30 "HouseBells$Staff" "count" "I", Cond.fieldLink RX3 12 "HouseBells$Staff" "pace" "LHouseBells$Row;", Cond.fieldLink RX3 18 "HouseBells$Staff" "floor" "LHouseBells$Row;", Cond.methodLink RX3 38 yX2_set, Cond.methodLink RX3 42 yX3_rest, Cond.instanceMethod yX3_rest, Cond.selects RX3 yX3_rest yX3_rest, Cond.code yX3_rest cX3_rest 2 none, Cond.fieldLink RX3 21 "HouseBells$Staff" "goal" "LHouseBells$Row;", Cond.fieldLink RX3 24 "HouseBells$Staff" "guest" "LHouseBells$Row;", Cond.fieldLink RX3 27 "HouseBells$Staff" "left" "LHouseBells$Row;", Cond.methodLink RL 38 yX4_ring, Cond.instanceMethod yX4_ring, Cond.selects RX4 yX4_ring yX4_ring, Cond.code yX4_ring cX4_ring 3 (some .boolean), Cond.methodLink RX4 60 yX4_requireRoom]
def wsL_act_r4 : List Cond := [Cond.instanceMethod yX4_requireRoom, Cond.selects RX4 yX4_requireRoom yX4_requireRoom, Cond.code yX4_requireRoom cX4_requireRoom 2 none, Cond.classLink RX4 273 "java/lang/IndexOutOfBoundsException", Cond.initialized "java/lang/IndexOutOfBoundsException", Cond.methodLink RX4 64 yX0_pullBell, Cond.instanceMethod yX0_pullBell, Cond.selects RX0 yX0_pullBell yX0_pullBell, Cond.code yX0_pullBell cX0_pullBell 4 (some .boolean), Cond.fieldLink RX0 9 "HouseBells$House" "charge" "I", Cond.fieldLink RX0 66 "HouseBells$House" "unheard" "I", Cond.fieldLink RX0 40 "HouseBells$House" "line" "LHouseBells$Line;", Cond.methodLink RX0 83 yX2_get, Cond.instanceMethod yX2_get, Cond.selects RX2 yX2_get yX2_get, Cond.code yX2_get cX2_get 2 (some .int), Cond.methodLink RX0 87 yX0_costFrom, Cond.static yX0_costFrom, Cond.code yX0_costFrom cX0_costFrom 1 (some .int), Cond.methodLink RX0 90 yX1_placeOf, Cond.instanceMethod yX1_placeOf, Cond.selects RX1 yX1_placeOf yX1_placeOf, Cond.initialized RX1, Cond.code yX1_placeOf cX1_placeOf 3 (some .int)]
def wsL_act_r5 : List Cond := [Cond.fieldLink RX1 15 "HouseBells$Line" "count" "I", Cond.fieldLink RX1 9 "HouseBells$Line" "drops" "[I", Cond.methodLink RX0 93 yX1_append, Cond.instanceMethod yX1_append, Cond.selects RX1 yX1_append yX1_append, Cond.code yX1_append cX1_append 2 none, Cond.methodLink RX4 68 yX0_isWaiting, Cond.instanceMethod yX0_isWaiting, Cond.selects RX0 yX0_isWaiting yX0_isWaiting, Cond.code yX0_isWaiting cX0_isWaiting 2 (some .boolean), Cond.methodLink RX4 75 yX2_set, Cond.methodLink RL 42 yX5_ring, Cond.instanceMethod yX5_ring, Cond.selects RX5 yX5_ring yX5_ring, Cond.code yX5_ring cX5_ring 2 (some .boolean), Cond.fieldLink RX5 9 "HouseBellsLaw$Sim" "rooms" "[[I", Cond.methodLink RX5 49 Lib.Math.max.name, Cond.static Lib.Math.max.name, Cond.initialized "java/lang/Math", Cond.code Lib.Math.max.name Lib.Math.max.code 2 (some .int), Cond.methodLink RX5 55 yX5_rings, Cond.instanceMethod yX5_rings, Cond.selects RX5 yX5_rings yX5_rings, Cond.code yX5_rings cX5_rings 5 (some .boolean)]
def wsL_act_r6 : List Cond := [Cond.fieldLink RX5 21 "HouseBellsLaw$Sim" "charge" "I", Cond.fieldLink RX5 42 "HouseBellsLaw$Sim" "unheard" "I", Cond.fieldLink RX5 18 "HouseBellsLaw$Sim" "line" "[I", Cond.methodLink RX5 45 yX5_place, Cond.instanceMethod yX5_place, Cond.selects RX5 yX5_place yX5_place, Cond.code yX5_place cX5_place 3 (some .int), Cond.methodLink RL 43 yX5_cross, Cond.instanceMethod yX5_cross, Cond.selects RX5 yX5_cross yX5_cross, Cond.code yX5_cross cX5_cross 4 none, Cond.methodLink RL 47 yX4_cross, Cond.instanceMethod yX4_cross, Cond.selects RX4 yX4_cross yX4_cross, Cond.code yX4_cross cX4_cross 3 (some .int), Cond.methodLink RX4 83 yX0_swapWires, Cond.instanceMethod yX0_swapWires, Cond.selects RX0 yX0_swapWires yX0_swapWires, Cond.code yX0_swapWires cX0_swapWires 4 none, Cond.methodLink RX4 89 yX2_get, Cond.methodLink RL 49 yX4_cut, Cond.instanceMethod yX4_cut, Cond.selects RX4 yX4_cut yX4_cut, Cond.code yX4_cut cX4_cut 2 (some .int)]
def wsL_act_r7 : List Cond := [Cond.methodLink RX4 92 yX0_isWireCut, Cond.instanceMethod yX0_isWireCut, Cond.selects RX0 yX0_isWireCut yX0_isWireCut, Cond.code yX0_isWireCut cX0_isWireCut 2 (some .boolean), Cond.methodLink RX4 100 yX0_countCutWires, Cond.instanceMethod yX0_countCutWires, Cond.selects RX0 yX0_countCutWires yX0_countCutWires, Cond.code yX0_countCutWires cX0_countCutWires 3 (some .int), Cond.methodLink RL 52 yX5_cut, Cond.instanceMethod yX5_cut, Cond.selects RX5 yX5_cut yX5_cut, Cond.code yX5_cut cX5_cut 6 (some .int), Cond.methodLink RL 55 yX4_mend, Cond.instanceMethod yX4_mend, Cond.selects RX4 yX4_mend yX4_mend, Cond.code yX4_mend cX4_mend 2 (some .int), Cond.methodLink RL 62 yX4_recharge, Cond.instanceMethod yX4_recharge, Cond.selects RX4 yX4_recharge yX4_recharge, Cond.code yX4_recharge cX4_recharge 3 (some .int), Cond.methodLink RL 65 yX5_place, Cond.methodLink RL 68 yX5_up, Cond.instanceMethod yX5_up, Cond.selects RX5 yX5_up yX5_up]
def wsL_act_r8 : List Cond := [Cond.code yX5_up cX5_up 8 none, Cond.methodLink RL 72 yX4_putUp, Cond.instanceMethod yX4_putUp, Cond.selects RX4 yX4_putUp yX4_putUp, Cond.code yX4_putUp cX4_putUp 2 (some .int), Cond.methodLink RX4 115 yX1_placeOf, Cond.methodLink RX4 122 yX1_remove, Cond.instanceMethod yX1_remove, Cond.selects RX1 yX1_remove yX1_remove, Cond.code yX1_remove cX1_remove 4 none, Cond.methodLink RL 79 yX4_pass, Cond.instanceMethod yX4_pass, Cond.selects RX4 yX4_pass yX4_pass, Cond.code yX4_pass cX4_pass 4 (some .int), Cond.methodLink RX4 126 yX4_requireMinutes, Cond.static yX4_requireMinutes, Cond.code yX4_requireMinutes cX4_requireMinutes 1 none, Cond.methodLink RX4 129 yX0_letMinuteGoBy, Cond.instanceMethod yX0_letMinuteGoBy, Cond.selects RX0 yX0_letMinuteGoBy yX0_letMinuteGoBy, Cond.code yX0_letMinuteGoBy cX0_letMinuteGoBy 2 (some .int), Cond.fieldLink RX0 57 "HouseBells$House" "served" "I", Cond.fieldLink RX0 51 "HouseBells$House" "minute" "I", Cond.methodLink RX0 97 yX0_letRoomsWait]
def wsL_act_r9 : List Cond := [Cond.instanceMethod yX0_letRoomsWait, Cond.selects RX0 yX0_letRoomsWait yX0_letRoomsWait, Cond.code yX0_letRoomsWait cX0_letRoomsWait 3 none, Cond.fieldLink RX0 63 "HouseBells$House" "gaveUp" "I", Cond.methodLink RX0 106 yX0_isMultiple, Cond.static yX0_isMultiple, Cond.code yX0_isMultiple cX0_isMultiple 2 (some .boolean), Cond.methodLink RX0 110 yX0_pullBell, Cond.methodLink RX0 100 yX0_letServantsMove, Cond.instanceMethod yX0_letServantsMove, Cond.selects RX0 yX0_letServantsMove yX0_letServantsMove, Cond.code yX0_letServantsMove cX0_letServantsMove 4 none, Cond.fieldLink RX0 47 "HouseBells$House" "staff" "LHouseBells$Staff;", Cond.methodLink RX0 117 yX3_isIdle, Cond.instanceMethod yX3_isIdle, Cond.selects RX3 yX3_isIdle yX3_isIdle, Cond.code yX3_isIdle cX3_isIdle 2 (some .boolean), Cond.methodLink RX3 46 yX2_get, Cond.methodLink RX0 126 yX3_rest, Cond.methodLink RX0 129 yX0_arrive, Cond.instanceMethod yX0_arrive, Cond.selects RX0 yX0_arrive yX0_arrive, Cond.code yX0_arrive cX0_arrive 3 none, Cond.fieldLink RX0 60 "HouseBells$House" "inVain" "I"]
def wsL_act_r10 : List Cond := [Cond.methodLink RX0 103 yX0_sendIdleServants, Cond.instanceMethod yX0_sendIdleServants, Cond.selects RX0 yX0_sendIdleServants yX0_sendIdleServants, Cond.code yX0_sendIdleServants cX0_sendIdleServants 5 none, Cond.methodLink RX0 137 yX1_first, Cond.instanceMethod yX1_first, Cond.selects RX1 yX1_first yX1_first, Cond.code yX1_first cX1_first 1 (some .int), Cond.methodLink RX0 141 yX3_nearestTo, Cond.instanceMethod yX3_nearestTo, Cond.selects RX3 yX3_nearestTo yX3_nearestTo, Cond.code yX3_nearestTo cX3_nearestTo 6 (some .int), Cond.methodLink RX3 50 yX3_minutesOfWay, Cond.static yX3_minutesOfWay, Cond.code yX3_minutesOfWay cX3_minutesOfWay 5 (some .int), Cond.methodLink RX0 144 yX1_remove, Cond.methodLink RX0 147 yX3_wayToFloor, Cond.instanceMethod yX3_wayToFloor, Cond.selects RX3 yX3_wayToFloor yX3_wayToFloor, Cond.code yX3_wayToFloor cX3_wayToFloor 3 (some .int), Cond.methodLink RL 82 yX5_pass_, Cond.instanceMethod yX5_pass_, Cond.selects RX5 yX5_pass_ yX5_pass_, Cond.code yX5_pass_ cX5_pass_ 4 (some .int)]
def wsL_act_r11 : List Cond := [Cond.methodLink RX5 75 yX5_pass, Cond.instanceMethod yX5_pass, Cond.selects RX5 yX5_pass yX5_pass, Cond.code yX5_pass cX5_pass 5 (some .int), Cond.fieldLink RX5 33 "HouseBellsLaw$Sim" "served" "I", Cond.fieldLink RX5 39 "HouseBellsLaw$Sim" "gaveUp" "I", Cond.fieldLink RX5 15 "HouseBellsLaw$Sim" "servants" "[[I", Cond.fieldLink RX5 36 "HouseBellsLaw$Sim" "inVain" "I", Cond.fieldLink RX5 30 "HouseBellsLaw$Sim" "minute" "I", Cond.methodLink RX5 62 yX5_isIdle, Cond.instanceMethod yX5_isIdle, Cond.selects RX5 yX5_isIdle yX5_isIdle, Cond.code yX5_isIdle cX5_isIdle 2 (some .boolean), Cond.methodLink RX5 68 yX5_nearest, Cond.instanceMethod yX5_nearest, Cond.selects RX5 yX5_nearest yX5_nearest, Cond.code yX5_nearest cX5_nearest 4 (some .int), Cond.methodLink RX5 65 yX5_way, Cond.instanceMethod yX5_way, Cond.selects RX5 yX5_way yX5_way, Cond.code yX5_way cX5_way 5 (some .int), Cond.methodLink RX5 59 Lib.Math.abs.name, Cond.static Lib.Math.abs.name, Cond.code Lib.Math.abs.name Lib.Math.abs.code 1 (some .int)]
def wsL_act_r12 : List Cond := [Cond.methodLink RX5 71 yX5_up]
def wsL_act : List Cond := .codeWith yL_act cL_act 9 (some .boolean) [(16, 151, 643, 83), (152, 306, 643, 83), (307, 327, 643, 83), (328, 346, 643, 83), (347, 380, 643, 83), (381, 433, 643, 83), (434, 487, 643, 83), (488, 541, 643, 83), (542, 593, 643, 83), (594, 642, 643, 83)] :: ((wsL_act_r1 ++ (wsL_act_r2 ++ (wsL_act_r3 ++ (wsL_act_r4 ++ (wsL_act_r5 ++ (wsL_act_r6 ++ (wsL_act_r7 ++ (wsL_act_r8 ++ (wsL_act_r9 ++ (wsL_act_r10 ++ (wsL_act_r11 ++ wsL_act_r12))))))))))) ++ wsX50 ++ wsX40 ++ wsX00 ++ wsX20 ++ wsX30 ++ wsX10 ++ (vx_atS RX4 27 "java/lang/IllegalArgumentException" ["java/lang/RuntimeException", "java/lang/Exception"]).filter goodWord ++ (vx_atS RX4 38 "java/lang/IllegalStateException" ["java/lang/RuntimeException", "java/lang/Exception"]).filter goodWord ++ (vx_atS RX4 277 "java/lang/IndexOutOfBoundsException" ["java/lang/RuntimeException", "java/lang/Exception"]).filter goodWord)
def wsL_build_r1 : List Cond := [Cond.classLink RL 10 RX5, Cond.instantiable RX5 9, Cond.initialized RX5, Cond.constant RL 90 (16777215), Cond.instanceMethod yX5_init, Cond.code yX5_init cX5_init 1 none, Cond.methodLink RX5 1 objectInit, Cond.instanceMethod objectInit, Cond.code objectInit ⟨#[0xb1]⟩ 1 none, Cond.classLink RX5 7 "[I", Cond.fieldLink RX5 9 "HouseBellsLaw$Sim" "rooms" "[[I", Cond.fieldLink RX5 15 "HouseBellsLaw$Sim" "servants" "[[I", Cond.arrayClass .int, Cond.fieldLink RX5 18 "HouseBellsLaw$Sim" "line" "[I", Cond.fieldLink RX5 21 "HouseBellsLaw$Sim" "charge" "I", Cond.methodLink RL 86 yL_cell, Cond.static yL_cell, Cond.initialized RL, Cond.code yL_cell cL_cell 2 (some .int), Cond.constant RL 8 (790386105), Cond.methodLink RL 18 yL_below, Cond.static yL_below, Cond.code yL_below cL_below 2 (some .int), Cond.constant RL 7 (2147483647)]
def wsL_build_r2 : List Cond := [Cond.methodLink RL 91 yL_act, Cond.static yL_act, Cond.codeWith yL_act cL_act 9 (some .boolean) [(16, 151, 643, 83), (152, 306, 643, 83), (307, 327, 643, 83), (328, 346, 643, 83), (347, 380, 643, 83), (381, 433, 643, 83), (434, 487, 643, 83), (488, 541, 643, 83), (542, 593, 643, 83), (594, 642, 643, 83)], Cond.classLink RL 83 "java/lang/IllegalStateException", Cond.fieldLink RL 9 "HouseBellsLaw$Sim" "rooms" "[[I", Cond.fieldLink RL 15 "HouseBellsLaw$Sim" "servants" "[[I", Cond.fieldLink RL 58 "HouseBellsLaw$Sim" "charge" "I", Cond.fieldLink RL 75 "HouseBellsLaw$Sim" "line" "[I", Cond.methodLink RL 24 yX5_with, Cond.static yX5_with, Cond.code yX5_with cX5_with 4 (some (.array (.array .int))), Cond.methodLink RL 28 yX4_addRoom, Cond.instanceMethod yX4_addRoom, Cond.selects RX4 yX4_addRoom yX4_addRoom, Cond.initialized RX4, Cond.code yX4_addRoom cX4_addRoom 4 (some .int), Cond.classLink RX4 23 "java/lang/IllegalArgumentException", Cond.initialized "java/lang/IllegalArgumentException", Cond.classLink RX4 34 "java/lang/IllegalStateException", Cond.initialized "java/lang/IllegalStateException", Cond.fieldLink RX4 10 "HouseBells" "house" "LHouseBells$House;", Cond.methodLink RX4 19 yX4_isWithin, Cond.static yX4_isWithin, Cond.code yX4_isWithin cX4_isWithin 3 (some .boolean)]
def wsL_build_r3 : List Cond := [Cond.methodLink RX4 39 yX0_openRoom, Cond.instanceMethod yX0_openRoom, Cond.selects RX0 yX0_openRoom yX0_openRoom, Cond.initialized RX0, Cond.code yX0_openRoom cX0_openRoom 5 (some .int), Cond.fieldLink RX0 54 "HouseBells$House" "roomCount" "I", Cond.fieldLink RX0 18 "HouseBells$House" "floor" "LHouseBells$Row;", Cond.fieldLink RX0 22 "HouseBells$House" "patience" "LHouseBells$Row;", Cond.fieldLink RX0 25 "HouseBells$House" "need" "LHouseBells$Row;", Cond.fieldLink RX0 28 "HouseBells$House" "wire" "LHouseBells$Row;", Cond.fieldLink RX0 31 "HouseBells$House" "cut" "LHouseBells$Row;", Cond.fieldLink RX0 34 "HouseBells$House" "waited" "LHouseBells$Row;", Cond.methodLink RX0 79 yX2_set, Cond.instanceMethod yX2_set, Cond.selects RX2 yX2_set yX2_set, Cond.initialized RX2, Cond.code yX2_set cX2_set 3 none, Cond.fieldLink RX2 9 "HouseBells$Row" "cells" "[I", Cond.methodLink RL 34 yX4_addServant, Cond.instanceMethod yX4_addServant, Cond.selects RX4 yX4_addServant yX4_addServant, Cond.code yX4_addServant cX4_addServant 2 (some .int), Cond.methodLink RX4 56 yX3_hire, Cond.instanceMethod yX3_hire]
def wsL_build_r4 : List Cond := [Cond.selects RX3 yX3_hire yX3_hire, Cond.initialized RX3, Cond.code yX3_hire cX3_hire 3 (some .int), Cond.fieldLink RX3 30 "HouseBells$Staff" "count" "I", Cond.fieldLink RX3 12 "HouseBells$Staff" "pace" "LHouseBells$Row;", Cond.fieldLink RX3 18 "HouseBells$Staff" "floor" "LHouseBells$Row;", Cond.methodLink RX3 38 yX2_set, Cond.methodLink RX3 42 yX3_rest, Cond.instanceMethod yX3_rest, Cond.selects RX3 yX3_rest yX3_rest, Cond.code yX3_rest cX3_rest 2 none, Cond.fieldLink RX3 21 "HouseBells$Staff" "goal" "LHouseBells$Row;", Cond.fieldLink RX3 24 "HouseBells$Staff" "guest" "LHouseBells$Row;", Cond.fieldLink RX3 27 "HouseBells$Staff" "left" "LHouseBells$Row;", Cond.methodLink RL 38 yX4_ring, Cond.instanceMethod yX4_ring, Cond.selects RX4 yX4_ring yX4_ring, Cond.code yX4_ring cX4_ring 3 (some .boolean), Cond.methodLink RX4 60 yX4_requireRoom, Cond.instanceMethod yX4_requireRoom, Cond.selects RX4 yX4_requireRoom yX4_requireRoom, Cond.code yX4_requireRoom cX4_requireRoom 2 none, Cond.classLink RX4 273 "java/lang/IndexOutOfBoundsException", Cond.initialized "java/lang/IndexOutOfBoundsException"]
def wsL_build_r5 : List Cond := [Cond.methodLink RX4 64 yX0_pullBell, Cond.instanceMethod yX0_pullBell, Cond.selects RX0 yX0_pullBell yX0_pullBell, Cond.code yX0_pullBell cX0_pullBell 4 (some .boolean), Cond.fieldLink RX0 9 "HouseBells$House" "charge" "I", Cond.fieldLink RX0 66 "HouseBells$House" "unheard" "I", Cond.fieldLink RX0 40 "HouseBells$House" "line" "LHouseBells$Line;", Cond.methodLink RX0 83 yX2_get, Cond.instanceMethod yX2_get, Cond.selects RX2 yX2_get yX2_get, Cond.code yX2_get cX2_get 2 (some .int), Cond.methodLink RX0 87 yX0_costFrom, Cond.static yX0_costFrom, Cond.code yX0_costFrom cX0_costFrom 1 (some .int), Cond.methodLink RX0 90 yX1_placeOf, Cond.instanceMethod yX1_placeOf, Cond.selects RX1 yX1_placeOf yX1_placeOf, Cond.initialized RX1, Cond.code yX1_placeOf cX1_placeOf 3 (some .int), Cond.fieldLink RX1 15 "HouseBells$Line" "count" "I", Cond.fieldLink RX1 9 "HouseBells$Line" "drops" "[I", Cond.methodLink RX0 93 yX1_append, Cond.instanceMethod yX1_append, Cond.selects RX1 yX1_append yX1_append]
def wsL_build_r6 : List Cond := [Cond.code yX1_append cX1_append 2 none, Cond.methodLink RX4 68 yX0_isWaiting, Cond.instanceMethod yX0_isWaiting, Cond.selects RX0 yX0_isWaiting yX0_isWaiting, Cond.code yX0_isWaiting cX0_isWaiting 2 (some .boolean), Cond.methodLink RX4 75 yX2_set, Cond.methodLink RL 42 yX5_ring, Cond.instanceMethod yX5_ring, Cond.selects RX5 yX5_ring yX5_ring, Cond.code yX5_ring cX5_ring 2 (some .boolean), Cond.methodLink RX5 49 Lib.Math.max.name, Cond.static Lib.Math.max.name, Cond.initialized "java/lang/Math", Cond.code Lib.Math.max.name Lib.Math.max.code 2 (some .int), Cond.methodLink RX5 55 yX5_rings, Cond.instanceMethod yX5_rings, Cond.selects RX5 yX5_rings yX5_rings, Cond.code yX5_rings cX5_rings 5 (some .boolean), Cond.fieldLink RX5 42 "HouseBellsLaw$Sim" "unheard" "I", Cond.methodLink RX5 45 yX5_place, Cond.instanceMethod yX5_place, Cond.selects RX5 yX5_place yX5_place, Cond.code yX5_place cX5_place 3 (some .int), Cond.methodLink RL 43 yX5_cross]
def wsL_build_r7 : List Cond := [Cond.instanceMethod yX5_cross, Cond.selects RX5 yX5_cross yX5_cross, Cond.code yX5_cross cX5_cross 4 none, Cond.methodLink RL 47 yX4_cross, Cond.instanceMethod yX4_cross, Cond.selects RX4 yX4_cross yX4_cross, Cond.code yX4_cross cX4_cross 3 (some .int), Cond.methodLink RX4 83 yX0_swapWires, Cond.instanceMethod yX0_swapWires, Cond.selects RX0 yX0_swapWires yX0_swapWires, Cond.code yX0_swapWires cX0_swapWires 4 none, Cond.methodLink RX4 89 yX2_get, Cond.methodLink RL 49 yX4_cut, Cond.instanceMethod yX4_cut, Cond.selects RX4 yX4_cut yX4_cut, Cond.code yX4_cut cX4_cut 2 (some .int), Cond.methodLink RX4 92 yX0_isWireCut, Cond.instanceMethod yX0_isWireCut, Cond.selects RX0 yX0_isWireCut yX0_isWireCut, Cond.code yX0_isWireCut cX0_isWireCut 2 (some .boolean), Cond.methodLink RX4 100 yX0_countCutWires, Cond.instanceMethod yX0_countCutWires, Cond.selects RX0 yX0_countCutWires yX0_countCutWires, Cond.code yX0_countCutWires cX0_countCutWires 3 (some .int)]
def wsL_build_r8 : List Cond := [Cond.methodLink RL 52 yX5_cut, Cond.instanceMethod yX5_cut, Cond.selects RX5 yX5_cut yX5_cut, Cond.code yX5_cut cX5_cut 6 (some .int), Cond.methodLink RL 55 yX4_mend, Cond.instanceMethod yX4_mend, Cond.selects RX4 yX4_mend yX4_mend, Cond.code yX4_mend cX4_mend 2 (some .int), Cond.methodLink RL 62 yX4_recharge, Cond.instanceMethod yX4_recharge, Cond.selects RX4 yX4_recharge yX4_recharge, Cond.code yX4_recharge cX4_recharge 3 (some .int), Cond.methodLink RL 65 yX5_place, Cond.methodLink RL 68 yX5_up, Cond.instanceMethod yX5_up, Cond.selects RX5 yX5_up yX5_up, Cond.code yX5_up cX5_up 8 none, Cond.methodLink RL 72 yX4_putUp, Cond.instanceMethod yX4_putUp, Cond.selects RX4 yX4_putUp yX4_putUp, Cond.code yX4_putUp cX4_putUp 2 (some .int), Cond.methodLink RX4 115 yX1_placeOf, Cond.methodLink RX4 122 yX1_remove, Cond.instanceMethod yX1_remove]
def wsL_build_r9 : List Cond := [Cond.selects RX1 yX1_remove yX1_remove, Cond.code yX1_remove cX1_remove 4 none, Cond.methodLink RL 79 yX4_pass, Cond.instanceMethod yX4_pass, Cond.selects RX4 yX4_pass yX4_pass, Cond.code yX4_pass cX4_pass 4 (some .int), Cond.methodLink RX4 126 yX4_requireMinutes, Cond.static yX4_requireMinutes, Cond.code yX4_requireMinutes cX4_requireMinutes 1 none, Cond.methodLink RX4 129 yX0_letMinuteGoBy, Cond.instanceMethod yX0_letMinuteGoBy, Cond.selects RX0 yX0_letMinuteGoBy yX0_letMinuteGoBy, Cond.code yX0_letMinuteGoBy cX0_letMinuteGoBy 2 (some .int), Cond.fieldLink RX0 57 "HouseBells$House" "served" "I", Cond.fieldLink RX0 51 "HouseBells$House" "minute" "I", Cond.methodLink RX0 97 yX0_letRoomsWait, Cond.instanceMethod yX0_letRoomsWait, Cond.selects RX0 yX0_letRoomsWait yX0_letRoomsWait, Cond.code yX0_letRoomsWait cX0_letRoomsWait 3 none, Cond.fieldLink RX0 63 "HouseBells$House" "gaveUp" "I", Cond.methodLink RX0 106 yX0_isMultiple, Cond.static yX0_isMultiple, Cond.code yX0_isMultiple cX0_isMultiple 2 (some .boolean), Cond.methodLink RX0 110 yX0_pullBell]
def wsL_build_r10 : List Cond := [Cond.methodLink RX0 100 yX0_letServantsMove, Cond.instanceMethod yX0_letServantsMove, Cond.selects RX0 yX0_letServantsMove yX0_letServantsMove, Cond.code yX0_letServantsMove cX0_letServantsMove 4 none, Cond.fieldLink RX0 47 "HouseBells$House" "staff" "LHouseBells$Staff;", Cond.methodLink RX0 117 yX3_isIdle, Cond.instanceMethod yX3_isIdle, Cond.selects RX3 yX3_isIdle yX3_isIdle, Cond.code yX3_isIdle cX3_isIdle 2 (some .boolean), Cond.methodLink RX3 46 yX2_get, Cond.methodLink RX0 126 yX3_rest, Cond.methodLink RX0 129 yX0_arrive, Cond.instanceMethod yX0_arrive, Cond.selects RX0 yX0_arrive yX0_arrive, Cond.code yX0_arrive cX0_arrive 3 none, Cond.fieldLink RX0 60 "HouseBells$House" "inVain" "I", Cond.methodLink RX0 103 yX0_sendIdleServants, Cond.instanceMethod yX0_sendIdleServants, Cond.selects RX0 yX0_sendIdleServants yX0_sendIdleServants, Cond.code yX0_sendIdleServants cX0_sendIdleServants 5 none, Cond.methodLink RX0 137 yX1_first, Cond.instanceMethod yX1_first, Cond.selects RX1 yX1_first yX1_first, Cond.code yX1_first cX1_first 1 (some .int)]
def wsL_build_r11 : List Cond := [Cond.methodLink RX0 141 yX3_nearestTo, Cond.instanceMethod yX3_nearestTo, Cond.selects RX3 yX3_nearestTo yX3_nearestTo, Cond.code yX3_nearestTo cX3_nearestTo 6 (some .int), Cond.methodLink RX3 50 yX3_minutesOfWay, Cond.static yX3_minutesOfWay, Cond.code yX3_minutesOfWay cX3_minutesOfWay 5 (some .int), Cond.methodLink RX0 144 yX1_remove, Cond.methodLink RX0 147 yX3_wayToFloor, Cond.instanceMethod yX3_wayToFloor, Cond.selects RX3 yX3_wayToFloor yX3_wayToFloor, Cond.code yX3_wayToFloor cX3_wayToFloor 3 (some .int), Cond.methodLink RL 82 yX5_pass_, Cond.instanceMethod yX5_pass_, Cond.selects RX5 yX5_pass_ yX5_pass_, Cond.code yX5_pass_ cX5_pass_ 4 (some .int), Cond.methodLink RX5 75 yX5_pass, Cond.instanceMethod yX5_pass, Cond.selects RX5 yX5_pass yX5_pass, Cond.code yX5_pass cX5_pass 5 (some .int), Cond.fieldLink RX5 33 "HouseBellsLaw$Sim" "served" "I", Cond.fieldLink RX5 39 "HouseBellsLaw$Sim" "gaveUp" "I", Cond.fieldLink RX5 36 "HouseBellsLaw$Sim" "inVain" "I", Cond.fieldLink RX5 30 "HouseBellsLaw$Sim" "minute" "I"]
def wsL_build_r12 : List Cond := [Cond.methodLink RX5 62 yX5_isIdle, Cond.instanceMethod yX5_isIdle, Cond.selects RX5 yX5_isIdle yX5_isIdle, Cond.code yX5_isIdle cX5_isIdle 2 (some .boolean), Cond.methodLink RX5 68 yX5_nearest, Cond.instanceMethod yX5_nearest, Cond.selects RX5 yX5_nearest yX5_nearest, Cond.code yX5_nearest cX5_nearest 4 (some .int), Cond.methodLink RX5 65 yX5_way, Cond.instanceMethod yX5_way, Cond.selects RX5 yX5_way yX5_way, Cond.code yX5_way cX5_way 5 (some .int), Cond.methodLink RX5 59 Lib.Math.abs.name, Cond.static Lib.Math.abs.name, Cond.code Lib.Math.abs.name Lib.Math.abs.code 1 (some .int), Cond.methodLink RX5 71 yX5_up]
def wsL_build : List Cond := .code yL_build cL_build 6 (some (.object "HouseBellsLaw$Sim")) :: ((wsL_build_r1 ++ (wsL_build_r2 ++ (wsL_build_r3 ++ (wsL_build_r4 ++ (wsL_build_r5 ++ (wsL_build_r6 ++ (wsL_build_r7 ++ (wsL_build_r8 ++ (wsL_build_r9 ++ (wsL_build_r10 ++ (wsL_build_r11 ++ wsL_build_r12))))))))))) ++ wsX50 ++ wsX40 ++ wsX00 ++ wsX20 ++ wsX30 ++ wsX10 ++ (vx_atS RX4 27 "java/lang/IllegalArgumentException" ["java/lang/RuntimeException", "java/lang/Exception"]).filter goodWord ++ (vx_atS RX4 38 "java/lang/IllegalStateException" ["java/lang/RuntimeException", "java/lang/Exception"]).filter goodWord ++ (vx_atS RX4 277 "java/lang/IndexOutOfBoundsException" ["java/lang/RuntimeException", "java/lang/Exception"]).filter goodWord)
def wsL_law0_r1 : List Cond := [Cond.classLink RL 29 RX4, Cond.instantiable RX4 2, Cond.initialized RX4, Cond.arrayClass .boolean, Cond.fieldLink RL 9 "HouseBellsLaw$Sim" "rooms" "[[I", Cond.methodLink RL 152 Lib.Math.abs.name, Cond.static Lib.Math.abs.name, Cond.initialized "java/lang/Math", Cond.code Lib.Math.abs.name Lib.Math.abs.code 1 (some .int), Cond.fieldLink RL 15 "HouseBellsLaw$Sim" "servants" "[[I", Cond.arrayClass .int, Cond.methodLink RL 95 yX4_init, Cond.instanceMethod yX4_init, Cond.code yX4_init cX4_init 1 none, Cond.methodLink RX4 1 objectInit, Cond.instanceMethod objectInit, Cond.code objectInit ⟨#[0xb1]⟩ 1 none, Cond.classLink RX4 7 RX0, Cond.instantiable RX0 15, Cond.initialized RX0, Cond.fieldLink RX4 10 "HouseBells" "house" "LHouseBells$House;", Cond.fieldLink RX4 16 "HouseBells" "trial" "LHouseBells$House;", Cond.methodLink RX4 9 yX0_init, Cond.instanceMethod yX0_init]
def wsL_law0_r2 : List Cond := [Cond.code yX0_init cX0_init 1 none, Cond.methodLink RX0 3 objectInit, Cond.fieldLink RX0 9 "HouseBells$House" "charge" "I", Cond.classLink RX0 15 RX2, Cond.instantiable RX2 1, Cond.initialized RX2, Cond.fieldLink RX0 18 "HouseBells$House" "floor" "LHouseBells$Row;", Cond.fieldLink RX0 22 "HouseBells$House" "patience" "LHouseBells$Row;", Cond.fieldLink RX0 25 "HouseBells$House" "need" "LHouseBells$Row;", Cond.fieldLink RX0 28 "HouseBells$House" "wire" "LHouseBells$Row;", Cond.fieldLink RX0 31 "HouseBells$House" "cut" "LHouseBells$Row;", Cond.fieldLink RX0 34 "HouseBells$House" "waited" "LHouseBells$Row;", Cond.classLink RX0 37 RX1, Cond.instantiable RX1 2, Cond.initialized RX1, Cond.fieldLink RX0 40 "HouseBells$House" "line" "LHouseBells$Line;", Cond.classLink RX0 44 RX3, Cond.instantiable RX3 6, Cond.initialized RX3, Cond.fieldLink RX0 47 "HouseBells$House" "staff" "LHouseBells$Staff;", Cond.methodLink RX0 17 yX2_init, Cond.instanceMethod yX2_init, Cond.code yX2_init cX2_init 1 none, Cond.methodLink RX2 3 objectInit]
def wsL_law0_r3 : List Cond := [Cond.fieldLink RX2 9 "HouseBells$Row" "cells" "[I", Cond.methodLink RX0 39 yX1_init, Cond.instanceMethod yX1_init, Cond.code yX1_init cX1_init 1 none, Cond.methodLink RX1 3 objectInit, Cond.fieldLink RX1 9 "HouseBells$Line" "drops" "[I", Cond.methodLink RX0 46 yX3_init, Cond.instanceMethod yX3_init, Cond.code yX3_init cX3_init 1 none, Cond.methodLink RX3 3 objectInit, Cond.classLink RX3 9 RX2, Cond.fieldLink RX3 12 "HouseBells$Staff" "pace" "LHouseBells$Row;", Cond.fieldLink RX3 18 "HouseBells$Staff" "floor" "LHouseBells$Row;", Cond.fieldLink RX3 21 "HouseBells$Staff" "goal" "LHouseBells$Row;", Cond.fieldLink RX3 24 "HouseBells$Staff" "guest" "LHouseBells$Row;", Cond.fieldLink RX3 27 "HouseBells$Staff" "left" "LHouseBells$Row;", Cond.methodLink RX3 11 yX2_init, Cond.methodLink RL 96 yL_build, Cond.static yL_build, Cond.initialized RL, Cond.code yL_build cL_build 6 (some (.object "HouseBellsLaw$Sim")), Cond.classLink RL 10 RX5, Cond.instantiable RX5 9, Cond.initialized RX5]
def wsL_law0_r4 : List Cond := [Cond.constant RL 90 (16777215), Cond.instanceMethod yX5_init, Cond.code yX5_init cX5_init 1 none, Cond.methodLink RX5 1 objectInit, Cond.classLink RX5 7 "[I", Cond.fieldLink RX5 9 "HouseBellsLaw$Sim" "rooms" "[[I", Cond.fieldLink RX5 15 "HouseBellsLaw$Sim" "servants" "[[I", Cond.fieldLink RX5 18 "HouseBellsLaw$Sim" "line" "[I", Cond.fieldLink RX5 21 "HouseBellsLaw$Sim" "charge" "I", Cond.methodLink RL 86 yL_cell, Cond.static yL_cell, Cond.code yL_cell cL_cell 2 (some .int), Cond.constant RL 8 (790386105), Cond.methodLink RL 18 yL_below, Cond.static yL_below, Cond.code yL_below cL_below 2 (some .int), Cond.constant RL 7 (2147483647), Cond.methodLink RL 91 yL_act, Cond.static yL_act, Cond.codeWith yL_act cL_act 9 (some .boolean) [(16, 151, 643, 83), (152, 306, 643, 83), (307, 327, 643, 83), (328, 346, 643, 83), (347, 380, 643, 83), (381, 433, 643, 83), (434, 487, 643, 83), (488, 541, 643, 83), (542, 593, 643, 83), (594, 642, 643, 83)], Cond.classLink RL 83 "java/lang/IllegalStateException", Cond.fieldLink RL 58 "HouseBellsLaw$Sim" "charge" "I", Cond.fieldLink RL 75 "HouseBellsLaw$Sim" "line" "[I", Cond.methodLink RL 24 yX5_with]
def wsL_law0_r5 : List Cond := [Cond.static yX5_with, Cond.code yX5_with cX5_with 4 (some (.array (.array .int))), Cond.methodLink RL 28 yX4_addRoom, Cond.instanceMethod yX4_addRoom, Cond.selects RX4 yX4_addRoom yX4_addRoom, Cond.code yX4_addRoom cX4_addRoom 4 (some .int), Cond.classLink RX4 23 "java/lang/IllegalArgumentException", Cond.initialized "java/lang/IllegalArgumentException", Cond.classLink RX4 34 "java/lang/IllegalStateException", Cond.initialized "java/lang/IllegalStateException", Cond.methodLink RX4 19 yX4_isWithin, Cond.static yX4_isWithin, Cond.code yX4_isWithin cX4_isWithin 3 (some .boolean), Cond.methodLink RX4 39 yX0_openRoom, Cond.instanceMethod yX0_openRoom, Cond.selects RX0 yX0_openRoom yX0_openRoom, Cond.code yX0_openRoom cX0_openRoom 5 (some .int), Cond.fieldLink RX0 54 "HouseBells$House" "roomCount" "I", Cond.methodLink RX0 79 yX2_set, Cond.instanceMethod yX2_set, Cond.selects RX2 yX2_set yX2_set, Cond.code yX2_set cX2_set 3 none, Cond.methodLink RL 34 yX4_addServant, Cond.instanceMethod yX4_addServant]
def wsL_law0_r6 : List Cond := [Cond.selects RX4 yX4_addServant yX4_addServant, Cond.code yX4_addServant cX4_addServant 2 (some .int), Cond.methodLink RX4 56 yX3_hire, Cond.instanceMethod yX3_hire, Cond.selects RX3 yX3_hire yX3_hire, Cond.code yX3_hire cX3_hire 3 (some .int), Cond.fieldLink RX3 30 "HouseBells$Staff" "count" "I", Cond.methodLink RX3 38 yX2_set, Cond.methodLink RX3 42 yX3_rest, Cond.instanceMethod yX3_rest, Cond.selects RX3 yX3_rest yX3_rest, Cond.code yX3_rest cX3_rest 2 none, Cond.methodLink RL 38 yX4_ring, Cond.instanceMethod yX4_ring, Cond.selects RX4 yX4_ring yX4_ring, Cond.code yX4_ring cX4_ring 3 (some .boolean), Cond.methodLink RX4 60 yX4_requireRoom, Cond.instanceMethod yX4_requireRoom, Cond.selects RX4 yX4_requireRoom yX4_requireRoom, Cond.code yX4_requireRoom cX4_requireRoom 2 none, Cond.classLink RX4 273 "java/lang/IndexOutOfBoundsException", Cond.initialized "java/lang/IndexOutOfBoundsException", Cond.methodLink RX4 64 yX0_pullBell, Cond.instanceMethod yX0_pullBell]
def wsL_law0_r7 : List Cond := [Cond.selects RX0 yX0_pullBell yX0_pullBell, Cond.code yX0_pullBell cX0_pullBell 4 (some .boolean), Cond.fieldLink RX0 66 "HouseBells$House" "unheard" "I", Cond.methodLink RX0 83 yX2_get, Cond.instanceMethod yX2_get, Cond.selects RX2 yX2_get yX2_get, Cond.code yX2_get cX2_get 2 (some .int), Cond.methodLink RX0 87 yX0_costFrom, Cond.static yX0_costFrom, Cond.code yX0_costFrom cX0_costFrom 1 (some .int), Cond.methodLink RX0 90 yX1_placeOf, Cond.instanceMethod yX1_placeOf, Cond.selects RX1 yX1_placeOf yX1_placeOf, Cond.code yX1_placeOf cX1_placeOf 3 (some .int), Cond.fieldLink RX1 15 "HouseBells$Line" "count" "I", Cond.methodLink RX0 93 yX1_append, Cond.instanceMethod yX1_append, Cond.selects RX1 yX1_append yX1_append, Cond.code yX1_append cX1_append 2 none, Cond.methodLink RX4 68 yX0_isWaiting, Cond.instanceMethod yX0_isWaiting, Cond.selects RX0 yX0_isWaiting yX0_isWaiting, Cond.code yX0_isWaiting cX0_isWaiting 2 (some .boolean), Cond.methodLink RX4 75 yX2_set]
def wsL_law0_r8 : List Cond := [Cond.methodLink RL 42 yX5_ring, Cond.instanceMethod yX5_ring, Cond.selects RX5 yX5_ring yX5_ring, Cond.code yX5_ring cX5_ring 2 (some .boolean), Cond.methodLink RX5 49 Lib.Math.max.name, Cond.static Lib.Math.max.name, Cond.code Lib.Math.max.name Lib.Math.max.code 2 (some .int), Cond.methodLink RX5 55 yX5_rings, Cond.instanceMethod yX5_rings, Cond.selects RX5 yX5_rings yX5_rings, Cond.code yX5_rings cX5_rings 5 (some .boolean), Cond.fieldLink RX5 42 "HouseBellsLaw$Sim" "unheard" "I", Cond.methodLink RX5 45 yX5_place, Cond.instanceMethod yX5_place, Cond.selects RX5 yX5_place yX5_place, Cond.code yX5_place cX5_place 3 (some .int), Cond.methodLink RL 43 yX5_cross, Cond.instanceMethod yX5_cross, Cond.selects RX5 yX5_cross yX5_cross, Cond.code yX5_cross cX5_cross 4 none, Cond.methodLink RL 47 yX4_cross, Cond.instanceMethod yX4_cross, Cond.selects RX4 yX4_cross yX4_cross, Cond.code yX4_cross cX4_cross 3 (some .int)]
def wsL_law0_r9 : List Cond := [Cond.methodLink RX4 83 yX0_swapWires, Cond.instanceMethod yX0_swapWires, Cond.selects RX0 yX0_swapWires yX0_swapWires, Cond.code yX0_swapWires cX0_swapWires 4 none, Cond.methodLink RX4 89 yX2_get, Cond.methodLink RL 49 yX4_cut, Cond.instanceMethod yX4_cut, Cond.selects RX4 yX4_cut yX4_cut, Cond.code yX4_cut cX4_cut 2 (some .int), Cond.methodLink RX4 92 yX0_isWireCut, Cond.instanceMethod yX0_isWireCut, Cond.selects RX0 yX0_isWireCut yX0_isWireCut, Cond.code yX0_isWireCut cX0_isWireCut 2 (some .boolean), Cond.methodLink RX4 100 yX0_countCutWires, Cond.instanceMethod yX0_countCutWires, Cond.selects RX0 yX0_countCutWires yX0_countCutWires, Cond.code yX0_countCutWires cX0_countCutWires 3 (some .int), Cond.methodLink RL 52 yX5_cut, Cond.instanceMethod yX5_cut, Cond.selects RX5 yX5_cut yX5_cut, Cond.code yX5_cut cX5_cut 6 (some .int), Cond.methodLink RL 55 yX4_mend, Cond.instanceMethod yX4_mend, Cond.selects RX4 yX4_mend yX4_mend]
def wsL_law0_r10 : List Cond := [Cond.code yX4_mend cX4_mend 2 (some .int), Cond.methodLink RL 62 yX4_recharge, Cond.instanceMethod yX4_recharge, Cond.selects RX4 yX4_recharge yX4_recharge, Cond.code yX4_recharge cX4_recharge 3 (some .int), Cond.methodLink RL 65 yX5_place, Cond.methodLink RL 68 yX5_up, Cond.instanceMethod yX5_up, Cond.selects RX5 yX5_up yX5_up, Cond.code yX5_up cX5_up 8 none, Cond.methodLink RL 72 yX4_putUp, Cond.instanceMethod yX4_putUp, Cond.selects RX4 yX4_putUp yX4_putUp, Cond.code yX4_putUp cX4_putUp 2 (some .int), Cond.methodLink RX4 115 yX1_placeOf, Cond.methodLink RX4 122 yX1_remove, Cond.instanceMethod yX1_remove, Cond.selects RX1 yX1_remove yX1_remove, Cond.code yX1_remove cX1_remove 4 none, Cond.methodLink RL 79 yX4_pass, Cond.instanceMethod yX4_pass, Cond.selects RX4 yX4_pass yX4_pass, Cond.code yX4_pass cX4_pass 4 (some .int), Cond.methodLink RX4 126 yX4_requireMinutes]
def wsL_law0_r11 : List Cond := [Cond.static yX4_requireMinutes, Cond.code yX4_requireMinutes cX4_requireMinutes 1 none, Cond.methodLink RX4 129 yX0_letMinuteGoBy, Cond.instanceMethod yX0_letMinuteGoBy, Cond.selects RX0 yX0_letMinuteGoBy yX0_letMinuteGoBy, Cond.code yX0_letMinuteGoBy cX0_letMinuteGoBy 2 (some .int), Cond.fieldLink RX0 57 "HouseBells$House" "served" "I", Cond.fieldLink RX0 51 "HouseBells$House" "minute" "I", Cond.methodLink RX0 97 yX0_letRoomsWait, Cond.instanceMethod yX0_letRoomsWait, Cond.selects RX0 yX0_letRoomsWait yX0_letRoomsWait, Cond.code yX0_letRoomsWait cX0_letRoomsWait 3 none, Cond.fieldLink RX0 63 "HouseBells$House" "gaveUp" "I", Cond.methodLink RX0 106 yX0_isMultiple, Cond.static yX0_isMultiple, Cond.code yX0_isMultiple cX0_isMultiple 2 (some .boolean), Cond.methodLink RX0 110 yX0_pullBell, Cond.methodLink RX0 100 yX0_letServantsMove, Cond.instanceMethod yX0_letServantsMove, Cond.selects RX0 yX0_letServantsMove yX0_letServantsMove, Cond.code yX0_letServantsMove cX0_letServantsMove 4 none, Cond.methodLink RX0 117 yX3_isIdle, Cond.instanceMethod yX3_isIdle, Cond.selects RX3 yX3_isIdle yX3_isIdle]
def wsL_law0_r12 : List Cond := [Cond.code yX3_isIdle cX3_isIdle 2 (some .boolean), Cond.methodLink RX3 46 yX2_get, Cond.methodLink RX0 126 yX3_rest, Cond.methodLink RX0 129 yX0_arrive, Cond.instanceMethod yX0_arrive, Cond.selects RX0 yX0_arrive yX0_arrive, Cond.code yX0_arrive cX0_arrive 3 none, Cond.fieldLink RX0 60 "HouseBells$House" "inVain" "I", Cond.methodLink RX0 103 yX0_sendIdleServants, Cond.instanceMethod yX0_sendIdleServants, Cond.selects RX0 yX0_sendIdleServants yX0_sendIdleServants, Cond.code yX0_sendIdleServants cX0_sendIdleServants 5 none, Cond.methodLink RX0 137 yX1_first, Cond.instanceMethod yX1_first, Cond.selects RX1 yX1_first yX1_first, Cond.code yX1_first cX1_first 1 (some .int), Cond.methodLink RX0 141 yX3_nearestTo, Cond.instanceMethod yX3_nearestTo, Cond.selects RX3 yX3_nearestTo yX3_nearestTo, Cond.code yX3_nearestTo cX3_nearestTo 6 (some .int), Cond.methodLink RX3 50 yX3_minutesOfWay, Cond.static yX3_minutesOfWay, Cond.code yX3_minutesOfWay cX3_minutesOfWay 5 (some .int), Cond.methodLink RX0 144 yX1_remove]
def wsL_law0_r13 : List Cond := [Cond.methodLink RX0 147 yX3_wayToFloor, Cond.instanceMethod yX3_wayToFloor, Cond.selects RX3 yX3_wayToFloor yX3_wayToFloor, Cond.code yX3_wayToFloor cX3_wayToFloor 3 (some .int), Cond.methodLink RL 82 yX5_pass_, Cond.instanceMethod yX5_pass_, Cond.selects RX5 yX5_pass_ yX5_pass_, Cond.code yX5_pass_ cX5_pass_ 4 (some .int), Cond.methodLink RX5 75 yX5_pass, Cond.instanceMethod yX5_pass, Cond.selects RX5 yX5_pass yX5_pass, Cond.code yX5_pass cX5_pass 5 (some .int), Cond.fieldLink RX5 33 "HouseBellsLaw$Sim" "served" "I", Cond.fieldLink RX5 39 "HouseBellsLaw$Sim" "gaveUp" "I", Cond.fieldLink RX5 36 "HouseBellsLaw$Sim" "inVain" "I", Cond.fieldLink RX5 30 "HouseBellsLaw$Sim" "minute" "I", Cond.methodLink RX5 62 yX5_isIdle, Cond.instanceMethod yX5_isIdle, Cond.selects RX5 yX5_isIdle yX5_isIdle, Cond.code yX5_isIdle cX5_isIdle 2 (some .boolean), Cond.methodLink RX5 68 yX5_nearest, Cond.instanceMethod yX5_nearest, Cond.selects RX5 yX5_nearest yX5_nearest, Cond.code yX5_nearest cX5_nearest 4 (some .int)]
def wsL_law0_r14 : List Cond := [Cond.methodLink RX5 65 yX5_way, Cond.instanceMethod yX5_way, Cond.selects RX5 yX5_way yX5_way, Cond.code yX5_way cX5_way 5 (some .int), Cond.methodLink RX5 59 Lib.Math.abs.name, Cond.methodLink RX5 71 yX5_up, Cond.methodLink RL 100 yX4_digest, Cond.instanceMethod yX4_digest, Cond.selects RX4 yX4_digest yX4_digest, Cond.code yX4_digest cX4_digest 4 (some .long), Cond.constantLong RX4 192 (2377), Cond.methodLink RX4 194 yX4_minute, Cond.instanceMethod yX4_minute, Cond.selects RX4 yX4_minute yX4_minute, Cond.code yX4_minute cX4_minute 1 (some .int), Cond.methodLink RX4 196 yX4_mix, Cond.static yX4_mix, Cond.code yX4_mix cX4_mix 3 (some .long), Cond.constantLong RX4 286 (31), Cond.methodLink RX4 200 yX4_rooms, Cond.instanceMethod yX4_rooms, Cond.selects RX4 yX4_rooms yX4_rooms, Cond.code yX4_rooms cX4_rooms 1 (some .int), Cond.methodLink RX4 203 yX4_servants]
def wsL_law0_r15 : List Cond := [Cond.instanceMethod yX4_servants, Cond.selects RX4 yX4_servants yX4_servants, Cond.code yX4_servants cX4_servants 1 (some .int), Cond.methodLink RX4 206 yX4_charge, Cond.instanceMethod yX4_charge, Cond.selects RX4 yX4_charge yX4_charge, Cond.code yX4_charge cX4_charge 1 (some .int), Cond.methodLink RX4 208 yX4_served, Cond.instanceMethod yX4_served, Cond.selects RX4 yX4_served yX4_served, Cond.code yX4_served cX4_served 1 (some .int), Cond.methodLink RX4 210 yX4_inVain, Cond.instanceMethod yX4_inVain, Cond.selects RX4 yX4_inVain yX4_inVain, Cond.code yX4_inVain cX4_inVain 1 (some .int), Cond.methodLink RX4 212 yX4_gaveUp, Cond.instanceMethod yX4_gaveUp, Cond.selects RX4 yX4_gaveUp yX4_gaveUp, Cond.code yX4_gaveUp cX4_gaveUp 1 (some .int), Cond.methodLink RX4 214 yX4_unheard, Cond.instanceMethod yX4_unheard, Cond.selects RX4 yX4_unheard yX4_unheard, Cond.code yX4_unheard cX4_unheard 1 (some .int), Cond.methodLink RX4 216 yX4_longestWaiting]
def wsL_law0_r16 : List Cond := [Cond.instanceMethod yX4_longestWaiting, Cond.selects RX4 yX4_longestWaiting yX4_longestWaiting, Cond.code yX4_longestWaiting cX4_longestWaiting 4 (some .int), Cond.methodLink RX4 219 yX4_crossed, Cond.instanceMethod yX4_crossed, Cond.selects RX4 yX4_crossed yX4_crossed, Cond.code yX4_crossed cX4_crossed 3 (some .int), Cond.methodLink RX4 222 yX4_crossingsNeeded, Cond.instanceMethod yX4_crossingsNeeded, Cond.selects RX4 yX4_crossingsNeeded yX4_crossingsNeeded, Cond.code yX4_crossingsNeeded cX4_crossingsNeeded 3 (some .int), Cond.methodLink RX4 147 yX0_isFirstOfItsCircle, Cond.instanceMethod yX0_isFirstOfItsCircle, Cond.selects RX0 yX0_isFirstOfItsCircle yX0_isFirstOfItsCircle, Cond.code yX0_isFirstOfItsCircle cX0_isFirstOfItsCircle 4 (some .boolean), Cond.methodLink RX4 225 yX4_fallen, Cond.instanceMethod yX4_fallen, Cond.selects RX4 yX4_fallen yX4_fallen, Cond.code yX4_fallen cX4_fallen 1 (some .int), Cond.methodLink RX4 228 yX4_nextDrop, Cond.instanceMethod yX4_nextDrop, Cond.selects RX4 yX4_nextDrop yX4_nextDrop, Cond.code yX4_nextDrop cX4_nextDrop 1 (some .int), Cond.methodLink RX4 150 yX1_first]
def wsL_law0_r17 : List Cond := [Cond.methodLink RX4 231 yX4_servedIn, Cond.instanceMethod yX4_servedIn, Cond.selects RX4 yX4_servedIn yX4_servedIn, Cond.code yX4_servedIn cX4_servedIn 2 (some .int), Cond.methodLink RX4 182 yX0_copyFrom, Cond.instanceMethod yX0_copyFrom, Cond.selects RX0 yX0_copyFrom yX0_copyFrom, Cond.code yX0_copyFrom cX0_copyFrom 2 none, Cond.methodLink RX0 69 yX2_copyFrom, Cond.instanceMethod yX2_copyFrom, Cond.selects RX2 yX2_copyFrom yX2_copyFrom, Cond.code yX2_copyFrom cX2_copyFrom 3 none, Cond.methodLink RX0 73 yX1_copyFrom, Cond.instanceMethod yX1_copyFrom, Cond.selects RX1 yX1_copyFrom yX1_copyFrom, Cond.code yX1_copyFrom cX1_copyFrom 3 none, Cond.methodLink RX0 76 yX3_copyFrom, Cond.instanceMethod yX3_copyFrom, Cond.selects RX3 yX3_copyFrom yX3_copyFrom, Cond.code yX3_copyFrom cX3_copyFrom 2 none, Cond.methodLink RX3 34 yX2_copyFrom, Cond.methodLink RX4 189 yX4_serveInTrial, Cond.instanceMethod yX4_serveInTrial, Cond.selects RX4 yX4_serveInTrial yX4_serveInTrial]
def wsL_law0_r18 : List Cond := [Cond.code yX4_serveInTrial cX4_serveInTrial 4 (some .int), Cond.methodLink RX4 282 yX0_isAnyoneWaiting, Cond.instanceMethod yX0_isAnyoneWaiting, Cond.selects RX0 yX0_isAnyoneWaiting yX0_isAnyoneWaiting, Cond.code yX0_isAnyoneWaiting cX0_isAnyoneWaiting 2 (some .boolean), Cond.methodLink RX4 234 yX4_dropOf, Cond.instanceMethod yX4_dropOf, Cond.selects RX4 yX4_dropOf yX4_dropOf, Cond.code yX4_dropOf cX4_dropOf 2 (some .int), Cond.methodLink RX4 237 yX4_roomOf, Cond.instanceMethod yX4_roomOf, Cond.selects RX4 yX4_roomOf yX4_roomOf, Cond.code yX4_roomOf cX4_roomOf 3 (some .int), Cond.methodLink RX4 240 yX4_isCut, Cond.instanceMethod yX4_isCut, Cond.selects RX4 yX4_isCut yX4_isCut, Cond.code yX4_isCut cX4_isCut 2 (some .boolean), Cond.methodLink RX4 243 yX4_waitedFor, Cond.instanceMethod yX4_waitedFor, Cond.selects RX4 yX4_waitedFor yX4_waitedFor, Cond.code yX4_waitedFor cX4_waitedFor 2 (some .int), Cond.methodLink RX4 246 yX4_placeInLine, Cond.instanceMethod yX4_placeInLine, Cond.selects RX4 yX4_placeInLine yX4_placeInLine]
def wsL_law0_r19 : List Cond := [Cond.code yX4_placeInLine cX4_placeInLine 2 (some .int), Cond.methodLink RX4 249 yX4_ringsLeft, Cond.instanceMethod yX4_ringsLeft, Cond.selects RX4 yX4_ringsLeft yX4_ringsLeft, Cond.code yX4_ringsLeft cX4_ringsLeft 2 (some .int), Cond.methodLink RX4 156 yX0_costFrom, Cond.methodLink RX4 159 yX4_quotient, Cond.static yX4_quotient, Cond.code yX4_quotient cX4_quotient 2 (some .int), Cond.methodLink RX4 252 yX4_nearestIdle, Cond.instanceMethod yX4_nearestIdle, Cond.selects RX4 yX4_nearestIdle yX4_nearestIdle, Cond.code yX4_nearestIdle cX4_nearestIdle 2 (some .int), Cond.methodLink RX4 179 yX3_nearestTo, Cond.methodLink RX4 255 yX4_minutesUntilServed, Cond.instanceMethod yX4_minutesUntilServed, Cond.selects RX4 yX4_minutesUntilServed yX4_minutesUntilServed, Cond.code yX4_minutesUntilServed cX4_minutesUntilServed 3 (some .int), Cond.methodLink RX4 186 yX3_isServing, Cond.instanceMethod yX3_isServing, Cond.selects RX3 yX3_isServing yX3_isServing, Cond.code yX3_isServing cX3_isServing 3 (some .boolean), Cond.methodLink RX4 258 yX4_bestToCross, Cond.instanceMethod yX4_bestToCross]
def wsL_law0_r20 : List Cond := [Cond.selects RX4 yX4_bestToCross yX4_bestToCross, Cond.code yX4_bestToCross cX4_bestToCross 6 (some .int), Cond.methodLink RX4 261 yX4_floorOf, Cond.instanceMethod yX4_floorOf, Cond.selects RX4 yX4_floorOf yX4_floorOf, Cond.code yX4_floorOf cX4_floorOf 2 (some .int), Cond.methodLink RX4 163 yX4_requireServant, Cond.instanceMethod yX4_requireServant, Cond.selects RX4 yX4_requireServant yX4_requireServant, Cond.code yX4_requireServant cX4_requireServant 2 none, Cond.methodLink RX4 264 yX4_goesTo, Cond.instanceMethod yX4_goesTo, Cond.selects RX4 yX4_goesTo yX4_goesTo, Cond.code yX4_goesTo cX4_goesTo 2 (some .int), Cond.methodLink RX4 267 yX4_serves, Cond.instanceMethod yX4_serves, Cond.selects RX4 yX4_serves yX4_serves, Cond.code yX4_serves cX4_serves 2 (some .int), Cond.methodLink RX4 270 yX4_minutesLeft, Cond.instanceMethod yX4_minutesLeft, Cond.selects RX4 yX4_minutesLeft yX4_minutesLeft, Cond.code yX4_minutesLeft cX4_minutesLeft 2 (some .int), Cond.methodLink RL 104 yX4_rooms, Cond.methodLink RL 106 yX4_servants]
def wsL_law0_r21 : List Cond := [Cond.methodLink RL 108 yX4_placeInLine, Cond.methodLink RL 111 yX4_dropOf, Cond.methodLink RL 114 yX4_roomOf, Cond.methodLink RL 117 yX4_hasFallen, Cond.instanceMethod yX4_hasFallen, Cond.selects RX4 yX4_hasFallen yX4_hasFallen, Cond.code yX4_hasFallen cX4_hasFallen 2 (some .boolean), Cond.methodLink RL 120 yX4_fallen, Cond.methodLink RL 123 yX4_nextDrop, Cond.methodLink RL 126 yX4_waitedFor, Cond.methodLink RL 129 yX4_longestWaiting, Cond.methodLink RL 132 yX4_isCut, Cond.methodLink RL 135 yX4_ringsLeft, Cond.methodLink RL 138 yX4_charge, Cond.methodLink RL 140 yX4_nearestIdle, Cond.methodLink RL 143 yX4_goesTo, Cond.methodLink RL 146 yX4_serves, Cond.methodLink RL 149 yX4_floorOf, Cond.methodLink RL 157 yX4_wayTo, Cond.instanceMethod yX4_wayTo, Cond.selects RX4 yX4_wayTo yX4_wayTo, Cond.code yX4_wayTo cX4_wayTo 3 (some .int), Cond.methodLink RX4 176 yX3_wayToFloor, Cond.methodLink RL 160 yX4_minutesLeft]
def wsL_law0_r22 : List Cond := [Cond.methodLink RL 163 yX4_crossingsNeeded, Cond.methodLink RL 166 yX4_crossed, Cond.methodLink RL 169 yX4_minutesUntilServed, Cond.methodLink RL 172 yX4_bestToCross, Cond.methodLink RL 175 yX4_servedIn, Cond.methodLink RL 178 yX4_served, Cond.methodLink RL 181 yX4_inVain, Cond.methodLink RL 184 yX5_pass, Cond.methodLink RL 186 yX5_isSame, Cond.instanceMethod yX5_isSame, Cond.selects RX5 yX5_isSame yX5_isSame, Cond.code yX5_isSame cX5_isSame 9 (some .boolean), Cond.methodLink RX5 87 yX4_dropOf, Cond.methodLink RX5 92 yX4_roomOf, Cond.methodLink RX5 95 yX4_isCut, Cond.methodLink RX5 98 yX4_waitedFor, Cond.methodLink RX5 101 yX4_placeInLine, Cond.methodLink RX5 104 yX4_hasFallen, Cond.methodLink RX5 107 yX4_ringsLeft, Cond.methodLink RX5 110 yX4_nearestIdle, Cond.methodLink RX5 113 yX4_floorOf, Cond.methodLink RX5 116 yX4_goesTo, Cond.methodLink RX5 119 yX4_serves, Cond.methodLink RX5 122 yX4_minutesLeft]
def wsL_law0_r23 : List Cond := [Cond.methodLink RX5 125 yX4_wayTo, Cond.methodLink RX5 128 yX4_minute, Cond.methodLink RX5 130 yX4_rooms, Cond.methodLink RX5 132 yX4_servants, Cond.methodLink RX5 134 yX4_charge, Cond.methodLink RX5 136 yX4_served, Cond.methodLink RX5 138 yX4_inVain, Cond.methodLink RX5 140 yX4_gaveUp, Cond.methodLink RX5 142 yX4_unheard, Cond.methodLink RX5 144 yX4_longestWaiting, Cond.methodLink RX5 147 yX4_crossed, Cond.methodLink RX5 150 yX4_crossingsNeeded, Cond.methodLink RX5 153 yX5_crossings, Cond.instanceMethod yX5_crossings, Cond.selects RX5 yX5_crossings yX5_crossings, Cond.code yX5_crossings cX5_crossings 5 (some .int), Cond.methodLink RX5 79 yX5_copy, Cond.instanceMethod yX5_copy, Cond.selects RX5 yX5_copy yX5_copy, Cond.code yX5_copy cX5_copy 3 (some (.object "HouseBellsLaw$Sim")), Cond.classLink RX5 10 RX5, Cond.methodLink RX5 26 ⟨"[I", "clone", "()Ljava/lang/Object;"⟩, Cond.sameMethod "[I" "java/lang/Object" "clone" "()Ljava/lang/Object;", Cond.native ⟨"java/lang/Object", "clone", "()Ljava/lang/Object;"⟩]
def wsL_law0_r24 : List Cond := [Cond.instanceMethod ⟨"java/lang/Object", "clone", "()Ljava/lang/Object;"⟩, Cond.selects "[I" ⟨"[I", "clone", "()Ljava/lang/Object;"⟩ ⟨"java/lang/Object", "clone", "()Ljava/lang/Object;"⟩, Cond.methodLink RX5 25 yX5_init, Cond.methodLink RX5 83 yX5_cross, Cond.methodLink RX5 156 yX4_fallen, Cond.methodLink RX5 159 yX4_nextDrop, Cond.methodLink RX5 162 yX4_meanWait, Cond.instanceMethod yX4_meanWait, Cond.selects RX4 yX4_meanWait yX4_meanWait, Cond.code yX4_meanWait cX4_meanWait 4 (some .double)]
def wsL_law0 : List Cond := (wsL_law0_r1 ++ (wsL_law0_r2 ++ (wsL_law0_r3 ++ (wsL_law0_r4 ++ (wsL_law0_r5 ++ (wsL_law0_r6 ++ (wsL_law0_r7 ++ (wsL_law0_r8 ++ (wsL_law0_r9 ++ (wsL_law0_r10 ++ (wsL_law0_r11 ++ (wsL_law0_r12 ++ (wsL_law0_r13 ++ (wsL_law0_r14 ++ (wsL_law0_r15 ++ (wsL_law0_r16 ++ (wsL_law0_r17 ++ (wsL_law0_r18 ++ (wsL_law0_r19 ++ (wsL_law0_r20 ++ (wsL_law0_r21 ++ (wsL_law0_r22 ++ (wsL_law0_r23 ++ wsL_law0_r24))))))))))))))))))))))) ++ wsX40 ++ wsX50 ++ wsX00 ++ wsX20 ++ wsX10 ++ wsX30 ++ ([] : List Cond)
def wsL_law : List Cond := wsL_law0 ++ (vx_atS RX4 27 "java/lang/IllegalArgumentException" ["java/lang/RuntimeException", "java/lang/Exception"]).filter goodWord ++ (vx_atS RX4 38 "java/lang/IllegalStateException" ["java/lang/RuntimeException", "java/lang/Exception"]).filter goodWord ++ (vx_atS RX4 277 "java/lang/IndexOutOfBoundsException" ["java/lang/RuntimeException", "java/lang/Exception"]).filter goodWord
set_option maxRecDepth 20000 in
abbrev vwCl : List vw_C := [(RX0, TX0, 15), (RX1, TX1, 2), (RX2, TX2, 1), (RX3, TX3, 6), (RX4, TX4, 2), (RX5, TX5, 9)]
