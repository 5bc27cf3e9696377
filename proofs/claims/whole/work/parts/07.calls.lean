/-- a method that the tables know: its code word, its class, how many parameters -/
def MthG (μ : Mth) : Prop :=
  plainName μ.1.cls = true ∧ Cond.code μ.1 μ.2.1 μ.2.2.1 μ.2.2.2.1 ∈ goodT ∧ Cond.initialized μ.1.cls ∈ goodT ∧ (μ.1.cls ≠ "java/lang/invoke/MethodHandle" ∧ μ.1.cls ≠ "java/lang/invoke/VarHandle") ∧ (parseMethodDescriptor μ.1.desc).map (fun d => d.parameters.length) = some μ.2.2.2.2.1 ∧ μ.2.2.2.2.2.2 = []
def MthH (μ : Mth) : Prop :=
  plainName μ.1.cls = true ∧ Cond.codeWith μ.1 μ.2.1 μ.2.2.1 μ.2.2.2.1 μ.2.2.2.2.2.2 ∈ goodT ∧ Cond.initialized μ.1.cls ∈ goodT ∧ (μ.1.cls ≠ "java/lang/invoke/MethodHandle" ∧ μ.1.cls ≠ "java/lang/invoke/VarHandle") ∧ (parseMethodDescriptor μ.1.desc).map (fun d => d.parameters.length) = some μ.2.2.2.2.1
def lsI (av : List Value) (nL : Nat) : List Value := av ++ List.replicate (nL - av.length) hole
theorem lvP_init {vs : List Value} {n : Nat} (h1 : ∀ v ∈ vs, v.category = 1) (hn : vs.length ≤ n) : lvP ((lg_sl vs ++ List.replicate (n - (lg_sl vs).length) Slot.unset).toArray) n (lsI vs n) := by
  have e : ∀ l : List Value, (∀ v ∈ l, v.category = 1) → lg_sl l = l.map Slot.val := by
    intro l
    induction l with
    | nil => intro _; rfl
    | cons v t ih =>
      intro hl
      have h2 := ih (fun w hw => hl w (List.mem_cons_of_mem _ hw))
      have h3 := hl v List.mem_cons_self
      show (if v.category = 2 then [Slot.val v, .second] else [.val v]) ++ lg_sl t = _
      rw [h2, if_neg (by omega)]
      rfl
  have hl := lv_entry vs (n := n) (by rw [e vs h1]; simpa using hn)
  refine ⟨hl.1, hl.2.1, fun i v hv hh => ?_⟩
  unfold lsI at hv
  by_cases hi : i < vs.length
  · rw [List.getElem?_append_left hi] at hv
    rw [e vs h1]
    simp only [List.getElem?_toArray]
    rw [List.getElem?_append_left (by simpa using hi), List.getElem?_map, hv]
    rfl
  · rw [List.getElem?_append_right (by omega)] at hv
    have := List.mem_of_getElem? hv
    exact absurd (List.eq_of_mem_replicate this) hh
section LC
variable {E : Ev} {X : Cx0} {μ : Mth} {Q : State → Prop} {pc q : Nat} {ls st : List Value} {M : Hp} {nc ns : Nat} {P : Option Value → Hp → Prop} {PX : String → Hp → Prop}
/-- Q is what a return by P owes -/
def EndOf (E : Ev) (X : Cx0) (P : Option Value → Hp → Prop) (Q : State → Prop) : Prop := Q = EndM E X P ∨ ∃ PX, Q = EndX E X P PX
theorem gq_end (hQ : EndOf E X P Q) (k : Gq E X μ (EndM E X P) pc ls st M nc ns) : Gq E X μ Q pc ls st M nc ns := by
  intro H locs cells slots lsR hR hS hL h1 h2
  rcases hQ with rfl | ⟨PX, rfl⟩
  · exact k H locs cells slots lsR hR hS hL h1 h2
  · exact vx_ret (k H locs cells slots lsR hR hS hL h1 h2)
theorem gq_iret (hX : Cx E X μ) (hQ : EndOf E X P Q) {v : Int32} (d : decode μ.2.1 pc = .ok (.ireturn, 1)) (hr : μ.2.2.2.1 = some .int) (hp : P (some (.int v)) M) : Gq E X μ Q pc ls [.int v] M nc ns := by
  refine gq_end hQ ?_
  intro H locs cells slots lsR hR hS hL h1 h2
  refine W.widen (k := X.2.2.1.cells) (n := X.2.2.1.slots) (by omega) (by omega) ?_
  exact W.iret hX.1 hX.2.1 (hX.2.2.2.2.2.2.1.trans hr) (fun t ht hW => ⟨⟨_, _, rfl, hp, by rw [ht]; exact hR⟩, hS.F ht⟩) (fun q hq => hS.2.2 q hq) d hX.2.2.2.2.2.1
theorem gq_zret (hX : Cx E X μ) (hQ : EndOf E X P Q) {v : Int32} {ty : FieldType} (d : decode μ.2.1 pc = .ok (.ireturn, 1)) (hr : μ.2.2.2.1 = some ty) (hn : narrow ty (.int v) = .int v) (hp : P (some (.int v)) M) : Gq E X μ Q pc ls [.int v] M nc ns := by
  refine gq_end hQ ?_
  intro H locs cells slots lsR hR hS hL h1 h2
  refine W.widen (k := X.2.2.1.cells) (n := X.2.2.1.slots) (by omega) (by omega) ?_
  exact W.zret hX.1 hX.2.1 (hX.2.2.2.2.2.2.1.trans hr) hn (fun t ht hW => ⟨⟨_, _, rfl, hp, by rw [ht]; exact hR⟩, hS.F ht⟩) (fun q hq => hS.2.2 q hq) d hX.2.2.2.2.2.1
theorem gq_vret (hX : Cx E X μ) (hQ : EndOf E X P Q) (d : decode μ.2.1 pc = .ok (.return_, 1)) (hr : μ.2.2.2.1 = none) (hp : P none M) : Gq E X μ Q pc ls [] M nc ns := by
  refine gq_end hQ ?_
  intro H locs cells slots lsR hR hS hL h1 h2
  refine W.widen (k := X.2.2.1.cells) (n := X.2.2.1.slots) (by omega) (by omega) ?_
  exact W.vret hX.1 hX.2.1 (hX.2.2.2.2.2.2.1.trans hr) (fun t ht hW => ⟨⟨_, _, rfl, hp, by rw [ht]; exact hR⟩, hS.F ht⟩) (fun q hq => hS.2.2 q hq) d hX.2.2.2.2.2.1
theorem gq_aret (hX : Cx E X μ) (hQ : EndOf E X P Q) {a : Nat} {rt : FieldType} (d : decode μ.2.1 pc = .ok (.areturn, 1)) (hr : μ.2.2.2.1 = some rt) (hrt : (∃ n, rt = .object n) ∨ ∃ t, rt = .array t) (hp : P (some (.ref a)) M) : Gq E X μ Q pc ls [.ref a] M nc ns := by
  refine gq_end hQ ?_
  intro H locs cells slots lsR hR hS hL h1 h2
  refine W.widen (k := X.2.2.1.cells) (n := X.2.2.1.slots) (by omega) (by omega) ?_
  exact W.aret hX.1 hX.2.1 (hX.2.2.2.2.2.2.1.trans hr) hrt (Or.inr ⟨a, rfl⟩) (fun t ht hW => ⟨⟨_, _, rfl, hp, by rw [ht]; exact hR⟩, hS.F ht⟩) (fun q hq => hS.2.2 q hq) d hX.2.2.2.2.2.1
theorem gq_dret (hX : Cx E X μ) (hQ : EndOf E X P Q) {v : UInt64} (d : decode μ.2.1 pc = .ok (.dreturn, 1)) (hr : μ.2.2.2.1 = some .double) (hp : P (some (.double v)) M) : Gq E X μ Q pc ls [.double v] M nc ns := by
  refine gq_end hQ ?_
  intro H locs cells slots lsR hR hS hL h1 h2
  refine W.widen (k := X.2.2.1.cells) (n := X.2.2.1.slots) (by omega) (by omega) ?_
  exact W.dret hX.1 hX.2.1 (hX.2.2.2.2.2.2.1.trans hr) (fun t ht hW => ⟨⟨_, _, rfl, hp, by rw [ht]; exact hR⟩, hS.F ht⟩) (fun q hq => hS.2.2 q hq) d hX.2.2.2.2.2.1
theorem gq_fret (hX : Cx E X μ) (hQ : EndOf E X P Q) {v : UInt32} (d : decode μ.2.1 pc = .ok (.freturn, 1)) (hr : μ.2.2.2.1 = some .float) (hp : P (some (.float v)) M) : Gq E X μ Q pc ls [.float v] M nc ns := by
  refine gq_end hQ ?_
  intro H locs cells slots lsR hR hS hL h1 h2
  refine W.widen (k := X.2.2.1.cells) (n := X.2.2.1.slots) (by omega) (by omega) ?_
  exact W.fret hX.1 hX.2.1 (hX.2.2.2.2.2.2.1.trans hr) (fun t ht hW => ⟨⟨_, _, rfl, hp, by rw [ht]; exact hR⟩, hS.F ht⟩) (fun q hq => hS.2.2 q hq) d hX.2.2.2.2.2.1
/-- a contract out of a walk of the body -/
theorem Ct.of {av : List Value} {mc ms : Nat} (hm : MthG μ) {ls : List Value} (hls : lsI av μ.2.2.1 = ls) (hc : av.all (fun v => v.category == 1) = true) (hn : av.length ≤ μ.2.2.1) (body : ∀ (X : Cx0), Cx E X μ → ∀ Q, EndOf E X P Q → Gq E X μ Q 0 ls [] M mc ms) : Ct E μ av M P mc ms := by
  subst hls
  refine Met.ofW (cc := μ.2.1) (maxL := μ.2.2.1) (ret := μ.2.2.2.1) hm.1 rfl ?_
  intro p e s m args below meth c s₁ B hml hv
  obtain ⟨rfl, hG, hR⟩ := hv
  have hts := atoms_spec (ws := wsM μ) B.pre
  have ht : c.exceptionTable.toList = tableOf μ.2.2.2.2.2.2 := by
    obtain ⟨meth9, c9, h1, h2, -, -, -, -, h7, -⟩ := Cond.code_spec B.named (hts _ List.mem_cons_self)
    cases Option.some.inj (h1.symm.trans B.method)
    cases Option.some.inj (h2.symm.trans (Stand.of_body B).code)
    rw [Array.isEmpty_iff.mp h7, hm.2.2.2.2.2]
    rfl
  have hX : Cx E (p, e, rmM μ mc ms, s, m, av.toArray, below, meth, c) μ := ⟨B.exec, B.bytes, hml, findClass_of_methodNamed B.named, fun w hw => hts w (List.mem_cons_of_mem _ hw), B.notSynchronized, B.returns, ht, (name_of_methodNamed B.named B.method).1, hG, Nat.le_refl _, Nat.le_refl _⟩
  have k := body (p, e, rmM μ mc ms, s, m, av.toArray, below, meth, c) hX _ (Or.inl rfl) s.heap [] 0 0 _ hR va_S.rf (lvP_init (n := μ.2.2.1) (fun v hv => by simpa using List.all_eq_true.mp hc v hv) hn) (by show 0 + mc ≤ mc; omega) (by show 0 + ms ≤ ms; omega)
  rw [lg_entry_eq]
  exact k
theorem CtX.of {av : List Value} {mc ms : Nat} (hm : MthG μ) {ls : List Value} (hls : lsI av μ.2.2.1 = ls) (hc : av.all (fun v => v.category == 1) = true) (hn : av.length ≤ μ.2.2.1) (body : ∀ (X : Cx0), Cx E X μ → ∀ Q, EndOf E X P Q → Q = EndX E X P PX → Gq E X μ Q 0 ls [] M mc ms) : CtX E μ av M P PX mc ms := by
  subst hls
  refine vx_ofW (cc := μ.2.1) (maxL := μ.2.2.1) (ret := μ.2.2.2.1) hm.1 rfl ?_
  intro p e s m args below meth c s₁ B hml hx hv
  obtain ⟨rfl, hG, hR⟩ := hv
  have hts := atoms_spec (ws := wsM μ) B.pre
  have ht : c.exceptionTable.toList = tableOf μ.2.2.2.2.2.2 := by
    rw [hm.2.2.2.2.2]
    exact List.eq_nil_iff_forall_not_mem.mpr hx
  have hX : Cx E (p, e, rmM μ mc ms, s, m, av.toArray, below, meth, c) μ := ⟨B.exec, B.bytes, hml, findClass_of_methodNamed B.named, fun w hw => hts w (List.mem_cons_of_mem _ hw), B.notSynchronized, B.returns, ht, (name_of_methodNamed B.named B.method).1, hG, Nat.le_refl _, Nat.le_refl _⟩
  have k := body (p, e, rmM μ mc ms, s, m, av.toArray, below, meth, c) hX _ (Or.inr ⟨PX, rfl⟩) rfl s.heap [] 0 0 _ hR va_S.rf (lvP_init (n := μ.2.2.1) (fun v hv => by simpa using List.all_eq_true.mp hc v hv) hn) (by show 0 + mc ≤ mc; omega) (by show 0 + ms ≤ ms; omega)
  rw [lg_entry_eq]
  exact k
/-- behind a call that returns -/
theorem gq_run {mc ms nc1 ns1 : Nat} {rest : List Value} {a : Array Value} (hnc : mc + nc1 = nc) (hns : ms + ns1 = ns) (kk : ∀ (v : Option Value) (M1 : Hp), P v M1 → Gq E X μ Q (pc + 3) ls (v.toList ++ rest) M1 nc1 ns1)
    (hr : ∀ (H : Heap) (locs : List Loc) (cells slots : Nat) (lsR : Array Slot), Rel E M H → va_S (AE E) X.2.2.2.1.heap H locs → lvP lsR μ.2.2.1 ls → cells + nc ≤ X.2.2.1.cells → slots + ns ≤ X.2.2.1.slots →
      va_Run X.1 E.1 X.2.1 X.2.2.1 X.2.2.2.1 X.2.2.2.2.1 X.2.2.2.2.2.1 X.2.2.2.2.2.2.1 X.2.2.2.2.2.2.2.1 X.2.2.2.2.2.2.2.2 H locs cells slots mc ms (F0 X.2.2.2.2.1 pc lsR st) rest (QcM E P a) (AE E)) : Gq E X μ Q pc ls st M nc ns := by
  intro H locs cells slots lsR hR hS hL h1 h2
  intro T hT X0
  obtain ⟨v, st₀, t, T', L, g0, X', hL2, e1, e2, ⟨⟨v9, M1, hv, hp, hrl⟩, hF⟩, stp⟩ := hr H locs cells slots lsR hR hS hL h1 h2 T hT X0
  cases hv
  obtain ⟨k1, k2, k3⟩ := vx_keep g0 e1 hS (fun _ _ h => h) (fun _ h => h) hL2 hF
  obtain ⟨t2, a1, b1⟩ := kk v M1 hp T'.heap (locs ++ L) (cells + mc) (slots + ms) lsR (by rw [e1]; exact hrl) k3 hL (by omega) (by omega) T' rfl X'
  exact ⟨t2, stp t2 a1, b1⟩
/-- an exception of class x, thrown at pc -/
def Gx (E : Ev) (X : Cx0) (μ : Mth) (Q : State → Prop) (pc : Nat) (ls : List Value) (M : Hp) (nc ns : Nat) (x : String) : Prop :=
  ∀ (H : Heap) (locs : List Loc) (cells slots : Nat) (lsR : Array Slot) (rest : List Value) (qq : Addr) (ce : Cell), Rel E M H → va_S (AE E) X.2.2.2.1.heap H locs → lvP lsR μ.2.2.1 ls → cells + nc ≤ X.2.2.1.cells → slots + ns ≤ X.2.2.1.slots → H[qq]? = some ce → ce.vm = .none → X.2.2.2.1.vm.findClass x = some ce.cls →
    vx_W X.1 E.1 X.2.1 X.2.2.1 X.2.2.2.1 X.2.2.2.2.1 X.2.2.2.2.2.1 X.2.2.2.2.2.2.1 X.2.2.2.2.2.2.2.1 X.2.2.2.2.2.2.2.2 H locs cells slots Q (F0 X.2.2.2.2.1 pc lsR rest) qq
theorem gq_runX {mc ms nc1 ns1 : Nat} {rest : List Value} {a : Array Value} (hnc : mc + nc1 = nc) (hns : ms + ns1 = ns) (kk : ∀ (v : Option Value) (M1 : Hp), P v M1 → Gq E X μ Q (pc + 3) ls (v.toList ++ rest) M1 nc1 ns1) (kx : ∀ (x : String) (M1 : Hp), PX x M1 → Gx E X μ Q pc ls M1 nc1 ns1 x)
    (hr : ∀ (H : Heap) (locs : List Loc) (cells slots : Nat) (lsR : Array Slot), Rel E M H → va_S (AE E) X.2.2.2.1.heap H locs → lvP lsR μ.2.2.1 ls → cells + nc ≤ X.2.2.1.cells → slots + ns ≤ X.2.2.1.slots →
      vx_Run X.1 E.1 X.2.1 X.2.2.1 X.2.2.2.1 X.2.2.2.2.1 X.2.2.2.2.2.1 X.2.2.2.2.2.2.1 X.2.2.2.2.2.2.2.1 X.2.2.2.2.2.2.2.2 H locs cells slots mc ms (F0 X.2.2.2.2.1 pc lsR st) rest (QcM E P a) (XcM E PX) (AE E)) : Gq E X μ Q pc ls st M nc ns := by
  intro H locs cells slots lsR hR hS hL h1 h2
  intro T hT X0
  rcases hr H locs cells slots lsR hR hS hL h1 h2 T hT X0 with ⟨v, st₀, t, T', L, g0, X', hL2, e1, e2, ⟨⟨v9, M1, hv, hp, hrl⟩, hF⟩, stp⟩ | ⟨qq, st₀, t, T', L, x, ce, g0, X', hL2, e1, e2, ⟨⟨M1, hp, hrl⟩, hF⟩, hce, hcv, hcl, stp⟩
  · cases hv
    obtain ⟨k1, k2, k3⟩ := vx_keep g0 e1 hS (fun _ _ h => h) (fun _ h => h) hL2 hF
    obtain ⟨t2, a1, b1⟩ := kk v M1 hp T'.heap (locs ++ L) (cells + mc) (slots + ms) lsR (by rw [e1]; exact hrl) k3 hL (by omega) (by omega) T' rfl X'
    exact ⟨t2, stp t2 a1, b1⟩
  · obtain ⟨k1, k2, k3⟩ := vx_keep g0 e1 hS (fun _ _ h => h) (fun _ h => h) hL2 hF
    obtain ⟨t2, a1, b1⟩ := kx x M1 hp T'.heap (locs ++ L) (cells + mc) (slots + ms) lsR rest qq ce (by rw [e1]; exact hrl) k3 hL (by omega) (by omega) (by rw [e1]; exact hce) hcv hcl T' rfl X'
    exact ⟨t2, stp.trans a1, b1⟩
theorem gx_out (hX : Cx E X μ) (hQ : Q = EndX E X P PX) (ht : μ.2.2.2.2.2.2 = []) {x : String} (hp : PX x M) : Gx E X μ Q pc ls M nc ns x := by
  subst hQ
  intro H locs cells slots lsR rest qq ce hR hS hL h1 h2 hce hcv hcl
  refine vx_out (E := x) (fun z hz => ?_) hX.2.2.2.2.2.1 hce hcv hcl (fun t ht hW => ⟨⟨M, hp, by rw [ht]; exact hR⟩, hS.F ht⟩) (fun z hz => hS.2.2 z hz) (by omega) (by omega)
  rw [hX.2.2.2.2.2.2.2.1, ht] at hz
  cases hz
theorem gx_catch (hX : Cx E X μ) {x nm : String} (pre : List ExceptionTableEntry) (z : ExceptionTableEntry) (suf : List ExceptionTableEntry) (hsplit : tableOf μ.2.2.2.2.2.2 = pre ++ z :: suf)
    (hpass : ∀ y ∈ pre, y.catchType ≠ 0 ∧ ∃ n : String, Cond.classLink μ.1.cls y.catchType n ∈ goodT ∧ (x, n) ∈ ncC) (hcov : covers z pc = true) (h0 : z.catchType ≠ 0) (hlink : Cond.classLink μ.1.cls z.catchType nm ∈ goodT) (hcast : Cond.castable x nm ∈ nwT)
    (kk : ∀ qq : Nat, Gq E X μ Q z.handlerPc ls [.ref qq] M nc ns) : Gx E X μ Q pc ls M nc ns x := by
  intro H locs cells slots lsR rest qq ce hR hS hL h1 h2 hce hcv hcl
  refine vx_catch (own := μ.1.cls) hX.own pre z suf (hX.2.2.2.2.2.2.2.1.trans hsplit) (fun y hy => ?_) hcov h0 (hX.good _ hlink) (va_Nw.use rfl (hX.ge.2.2.2.2.2.2.1 _ hcast)) hce hcv hcl (kk qq H locs cells slots lsR hR hS hL h1 h2)
  obtain ⟨g1, n, g2, g3⟩ := hpass y hy
  exact Or.inr ⟨g1, n, hX.good _ g2, hX.ge.2.2.2.2.2.2.2.1 _ g3⟩
/-- calls: what the tables say of an entry -/
def CallV (own : String) (idx : Nat) (μ2 : Mth) : Prop := MthG μ2 ∧ Cond.methodLink own idx μ2.1 ∈ goodT ∧ Cond.instanceMethod μ2.1 ∈ goodT ∧ Cond.selects μ2.1.cls μ2.1 μ2.1 ∈ goodT
def CallS (own : String) (idx : Nat) (μ2 : Mth) : Prop := MthG μ2 ∧ Cond.methodLink own idx μ2.1 ∈ goodT ∧ Cond.static μ2.1 ∈ goodT
def CallI (own : String) (idx : Nat) (μ2 : Mth) : Prop := MthG μ2 ∧ Cond.methodLink own idx μ2.1 ∈ goodT ∧ Cond.instanceMethod μ2.1 ∈ goodT ∧ μ2.1.name = "<init>" ∧ μ2.2.2.2.1 = none
def CallN (own : String) (idx : Nat) (μ2 : Mth) (host : String) : Prop := MthG μ2 ∧ Cond.methodLinkNest own idx μ2.1 host ∈ nwT ∧ Cond.instanceMethod μ2.1 ∈ goodT ∧ μ2.1.name = "<init>" ∧ μ2.2.2.2.1 = none
theorem goodIn_wsM {μ2 : Mth} (hm : MthG μ2) : GoodIn goodT (wsM μ2) := goodT_in (fun w hw => (List.mem_cons.mp hw).elim (fun e => by rw [e]; exact hm.2.1) id)
theorem room_lt {X : Cx0} (hX : Cx E X μ) {μ2 : Mth} {mc ms : Nat} (hd : μ2.2.2.2.2.2.1 < μ.2.2.2.2.2.1 ∧ μ2.2.2.1 ≤ 45) : (rmM μ2 mc ms).frames + 1 ≤ X.2.2.1.frames ∧ 8 + (μ2.2.2.1 + 11) + (rmM μ2 mc ms).locals ≤ X.2.2.1.locals := by
  obtain ⟨-, -, -, -, -, -, -, -, -, -, h1, h2⟩ := hX
  show μ2.2.2.2.2.2.1 + 1 ≤ _ ∧ 8 + (μ2.2.2.1 + 11) + 64 * μ2.2.2.2.2.2.1 ≤ _
  omega
theorem PcM.pre {X : Cx0} (hX : Cx E X μ) {H : Heap} {locs : List Loc} (hR : Rel E M H) (hS : va_S (AE E) X.2.2.2.1.heap H locs) {av : List Value} {U : State} (hU : U.heap = H) (hW : X.2.2.2.1.WarmedH U.vm) : PcM E av M av.toArray U :=
  ⟨rfl, hX.ge.go hS hW hU, by rw [hU]; exact hR⟩
theorem gq_callV (hX : Cx E X μ) {idx a ci : Nat} {μ2 : Mth} {As rest fs : List Value} {mc ms nc1 ns1 : Nat} (d : decode μ.2.1 pc = .ok (.invokevirtual idx, 3)) (hc : CallV μ.1.cls idx μ2) (hct : Ct E μ2 (.ref a :: As) M P mc ms) (hst : st = As.reverse ++ .ref a :: rest) (hM : M a = some (.inr (ci, fs))) (hci : (vwCl[ci]?).map (·.1) = some μ2.1.cls) (hnp : As.length = μ2.2.2.2.2.1) (hw : (rest.map fun v => v.category).sum ≤ 8) (hd : μ2.2.2.2.2.2.1 < μ.2.2.2.2.2.1 ∧ μ2.2.2.1 ≤ 45) (hnc : mc + nc1 = nc) (hns : ms + ns1 = ns)
    (kk : ∀ (v : Option Value) (M1 : Hp), P v M1 → Gq E X μ Q (pc + 3) ls (v.toList ++ rest) M1 nc1 ns1) : Gq E X μ Q pc ls st M nc ns := by
  refine gq_run hnc hns kk (a := (Value.ref a :: As).toArray) ?_
  intro H locs cells slots lsR hR hS hL h1 h2
  obtain ⟨hm, hl, hi, hs⟩ := hc
  obtain ⟨r, hr⟩ := Option.map_eq_some_iff.mp hci
  have hrecv := va_recv hX.know (hR.one hM) (q0 := 0) hr.1 rfl
  rw [hr.2] at hrecv
  refine va_runV (C := μ2.1.cls) (As := As) (rest := rest) (n := μ2.2.2.2.2.1) ⟨hX.1, hX.2.1, hX.2.2.1, hX.own, hX.good⟩ hct (cwV μ2.2.2.2.2.1 hX.good (goodT_in ?_) rfl rfl rfl ⟨rfl, hm.2.2.2.1.1, hm.2.2.2.1.2, hm.2.2.2.2.1⟩ (room_lt hX hd)) ⟨PcM.blind, hrecv, fun U hU hW => PcM.pre hX hR hS hU hW⟩ rfl hnp hL.1 hst (lv_room hw) d ⟨by omega, by omega⟩
  intro w hw
  rcases List.mem_append.mp hw with h | h
  · simp only [List.mem_cons, List.not_mem_nil, or_false] at h
    rcases h with rfl | rfl | rfl | rfl
    · exact hl
    · exact hi
    · exact hs
    · exact hm.2.2.1
  · exact (goodIn_wsM hm w h).1
theorem gq_callVX (hX : Cx E X μ) {idx a ci : Nat} {μ2 : Mth} {As rest fs : List Value} {mc ms nc1 ns1 : Nat} (d : decode μ.2.1 pc = .ok (.invokevirtual idx, 3)) (hc : CallV μ.1.cls idx μ2) (hct : CtX E μ2 (.ref a :: As) M P PX mc ms) (hst : st = As.reverse ++ .ref a :: rest) (hM : M a = some (.inr (ci, fs))) (hci : (vwCl[ci]?).map (·.1) = some μ2.1.cls) (hnp : As.length = μ2.2.2.2.2.1) (hw : (rest.map fun v => v.category).sum ≤ 8) (hd : μ2.2.2.2.2.2.1 < μ.2.2.2.2.2.1 ∧ μ2.2.2.1 ≤ 45) (hnc : mc + nc1 = nc) (hns : ms + ns1 = ns)
    (kk : ∀ (v : Option Value) (M1 : Hp), P v M1 → Gq E X μ Q (pc + 3) ls (v.toList ++ rest) M1 nc1 ns1) (kx : ∀ (x : String) (M1 : Hp), PX x M1 → Gx E X μ Q pc ls M1 nc1 ns1 x) : Gq E X μ Q pc ls st M nc ns := by
  refine gq_runX hnc hns kk kx (a := (Value.ref a :: As).toArray) ?_
  intro H locs cells slots lsR hR hS hL h1 h2
  obtain ⟨hm, hl, hi, hs⟩ := hc
  obtain ⟨r, hr⟩ := Option.map_eq_some_iff.mp hci
  have hrecv := va_recv hX.know (hR.one hM) (q0 := 0) hr.1 rfl
  rw [hr.2] at hrecv
  refine vx_runV (C := μ2.1.cls) (As := As) (rest := rest) (n := μ2.2.2.2.2.1) ⟨hX.1, hX.2.1, hX.2.2.1, hX.own, hX.good⟩ hct (cwV μ2.2.2.2.2.1 hX.good (goodT_in ?_) rfl rfl rfl ⟨rfl, hm.2.2.2.1.1, hm.2.2.2.1.2, hm.2.2.2.2.1⟩ (room_lt hX hd)) ⟨PcM.blind, hrecv, fun U hU hW => PcM.pre hX hR hS hU hW⟩ rfl hnp hL.1 hst (lv_room hw) d ⟨by omega, by omega⟩
  intro w hw
  rcases List.mem_append.mp hw with h | h
  · simp only [List.mem_cons, List.not_mem_nil, or_false] at h
    rcases h with rfl | rfl | rfl | rfl
    · exact hl
    · exact hi
    · exact hs
    · exact hm.2.2.1
  · exact (goodIn_wsM hm w h).1
theorem gq_callS (hX : Cx E X μ) {idx : Nat} {μ2 : Mth} {As rest : List Value} {mc ms nc1 ns1 : Nat} (d : decode μ.2.1 pc = .ok (.invokestatic idx, 3)) (hc : CallS μ.1.cls idx μ2) (hct : Ct E μ2 As M P mc ms) (hst : st = As.reverse ++ rest) (hnp : As.length = μ2.2.2.2.2.1) (hw : (rest.map fun v => v.category).sum ≤ 8) (hd : μ2.2.2.2.2.2.1 < μ.2.2.2.2.2.1 ∧ μ2.2.2.1 ≤ 45) (hnc : mc + nc1 = nc) (hns : ms + ns1 = ns)
    (kk : ∀ (v : Option Value) (M1 : Hp), P v M1 → Gq E X μ Q (pc + 3) ls (v.toList ++ rest) M1 nc1 ns1) : Gq E X μ Q pc ls st M nc ns := by
  refine gq_run hnc hns kk (a := As.toArray) ?_
  intro H locs cells slots lsR hR hS hL h1 h2
  obtain ⟨hm, hl, hs⟩ := hc
  exact va_runS (As := As) (rest := rest) (n := μ2.2.2.2.2.1) ⟨hX.1, hX.2.1, hX.2.2.1, hX.own, hX.good⟩ hct ⟨callB_of μ2.2.2.2.2.1 hX.good (goodIn_wsM hm) rfl rfl rfl (hX.good _ hm.2.2.1) (hX.good _ hl) ⟨hm.2.2.2.1.1, hm.2.2.2.1.2, hm.2.2.2.2.1⟩ (room_lt hX hd), hX.good _ hs⟩ ⟨PcM.blind, fun U hU hW => PcM.pre hX hR hS hU hW⟩ rfl hnp hL.1 hst (lv_room hw) d ⟨by omega, by omega⟩
theorem gq_callI (hX : Cx E X μ) {idx a : Nat} {μ2 : Mth} {As rest : List Value} {mc ms nc1 ns1 : Nat} (d : decode μ.2.1 pc = .ok (.invokespecial idx, 3)) (hc : CallI μ.1.cls idx μ2) (hct : Ct E μ2 (.ref a :: As) M P mc ms) (hst : st = As.reverse ++ .ref a :: rest) (hnp : As.length = μ2.2.2.2.2.1) (hw : (rest.map fun v => v.category).sum ≤ 8) (hd : μ2.2.2.2.2.2.1 < μ.2.2.2.2.2.1 ∧ μ2.2.2.1 ≤ 45) (hnc : mc + nc1 = nc) (hns : ms + ns1 = ns)
    (kk : ∀ (v : Option Value) (M1 : Hp), P v M1 → Gq E X μ Q (pc + 3) ls (v.toList ++ rest) M1 nc1 ns1) : Gq E X μ Q pc ls st M nc ns := by
  refine gq_run hnc hns kk (a := (Value.ref a :: As).toArray) ?_
  intro H locs cells slots lsR hR hS hL h1 h2
  obtain ⟨hm, hl, hi, hn, hv⟩ := hc
  exact va_runI (As := As) (rest := rest) (n := μ2.2.2.2.2.1) ⟨hX.1, hX.2.1, hX.2.2.1, hX.own, hX.good⟩ hct (cwI μ2.2.2.2.2.1 hX.good (goodIn_wsM hm) (by unfold wsM; rw [hv]) rfl rfl (hX.good _ hm.2.2.1) (hX.good _ hl) (hX.good _ hi) hn ⟨hm.2.2.2.1.1, hm.2.2.2.1.2, hm.2.2.2.2.1⟩ (room_lt hX hd)) ⟨PcM.blind, fun U hU hW => PcM.pre hX hR hS hU hW⟩ rfl hnp hL.1 hst (lv_room hw) d ⟨by omega, by omega⟩
theorem gq_callN (hX : Cx E X μ) {idx a : Nat} {host : String} {μ2 : Mth} {As rest : List Value} {mc ms nc1 ns1 : Nat} (d : decode μ.2.1 pc = .ok (.invokespecial idx, 3)) (hc : CallN μ.1.cls idx μ2 host) (hct : Ct E μ2 (.ref a :: As) M P mc ms) (hst : st = As.reverse ++ .ref a :: rest) (hnp : As.length = μ2.2.2.2.2.1) (hw : (rest.map fun v => v.category).sum ≤ 8) (hd : μ2.2.2.2.2.2.1 < μ.2.2.2.2.2.1 ∧ μ2.2.2.1 ≤ 45) (hnc : mc + nc1 = nc) (hns : ms + ns1 = ns)
    (kk : ∀ (v : Option Value) (M1 : Hp), P v M1 → Gq E X μ Q (pc + 3) ls (v.toList ++ rest) M1 nc1 ns1) : Gq E X μ Q pc ls st M nc ns := by
  refine gq_run hnc hns kk (a := (Value.ref a :: As).toArray) ?_
  intro H locs cells slots lsR hR hS hL h1 h2
  obtain ⟨hm, hl, hi, hn, hv⟩ := hc
  exact va_runIN (As := As) (rest := rest) (n := μ2.2.2.2.2.1) ⟨hX.1, hX.2.1, hX.2.2.1, hX.own, hX.good⟩ hct ⟨va_cnB μ2.2.2.2.2.1 hX.good (goodIn_wsM hm) (by unfold wsM; rw [hv]) rfl rfl (hX.ge.2.2.2.2.2.2.1 _ hl) (hX.good _ hm.2.2.1) ⟨hm.2.2.2.1.1, hm.2.2.2.1.2, hm.2.2.2.2.1⟩ (room_lt hX hd), hn, hX.good _ hi⟩ ⟨PcM.blind, fun U hU hW => PcM.pre hX hR hS hU hW⟩ rfl hnp hL.1 hst (lv_room hw) d ⟨by omega, by omega⟩
theorem gq_objI (hX : Cx E X μ) {idx a : Nat} (d : decode μ.2.1 pc = .ok (.invokespecial idx, 3)) (hq : pc + 3 = q) (hl : Cond.methodLink μ.1.cls idx objectInit ∈ goodT) (hi : Cond.instanceMethod objectInit ∈ goodT) (hc : Cond.code objectInit ⟨#[0xb1]⟩ 1 none ∈ goodT) (hw : (st.map fun v => v.category).sum ≤ 8) (hd : 1 ≤ μ.2.2.2.2.2.1) (kk : Gq E X μ Q q ls st M nc ns) : Gq E X μ Q pc ls (.ref a :: st) M nc ns := by
  subst hq
  intro H locs cells slots lsR hR hS hL h1 h2
  obtain ⟨-, -, -, -, -, -, -, -, -, -, g1, g2⟩ := id hX
  have h9 := lv_room (pc := pc) (ls := lsR) (rest := (.ref a :: st)) (m := X.2.2.2.2.1) hw
  exact W.objInit hX.1 hX.2.1 hX.own (hX.good _ hl) (hX.good _ hi) (hX.good _ hc) rfl (hL.1.trans hX.2.2.1.symm) rfl d (by omega) (by omega) (kk H locs cells slots lsR hR hS hL h1 h2)
end LC
