/-! THE LAYER: a world is a map of addresses to cells, a frame's locals are a list; every row of it follows from a row of the kit -/
abbrev Hp : Type := Nat → Option va_E
/-- launch, class numbers and slots, the heap's size at the law's start, the array classes, the String constants and their bytes -/
abbrev Ev : Type := Launch × va_G × Nat × (Nat → ClassId) × (Nat → Nat) × (Nat → Nat)
/-- a method: name, code, locals, return type, parameters, depth, handlers -/
abbrev Mth : Type := MethodName × ByteArray × Nat × Option FieldType × Nat × Nat × List (Nat × Nat × Nat × Nat)
abbrev Cx0 : Type := Program × Env × Room × State × MethodId × Array Value × List Frame × Method × Code
def hole : Value := .retAddr 0
def goodT : List Cond := lw_tbl.filter goodWord
theorem goodT_mem {w : Cond} (h : w ∈ lw_tbl) (hg : goodWord w = true) : w ∈ goodT := List.mem_filter.mpr ⟨h, hg⟩
theorem goodT_good {w : Cond} (h : w ∈ goodT) : (w.onTables && w.keeps) = true ∨ ∃ ty, w = .arrayClass ty := good_of_word (List.mem_filter.mp h).2
theorem goodT_in {ws : List Cond} (h : ∀ w ∈ ws, w ∈ goodT) : GoodIn goodT ws := fun w hw => ⟨h w hw, goodT_good (h w hw)⟩
def tysE (E : Ev) : List (ClassId × FieldType) := [(E.2.2.2.1 0, .int), (E.2.2.2.1 1, .char), (E.2.2.2.1 2, .boolean), (E.2.2.2.1 3, .long), (E.2.2.2.1 4, .double), (E.2.2.2.1 5, .byte), (E.2.2.2.1 6, .object "KiteTailRental$State")]
def AE (E : Ev) : Nat → Prop := fun q => E.2.2.1 ≤ q
def Rel (E : Ev) (M : Hp) (H : Heap) : Prop := ∀ (a : Nat) (x : va_E), M a = some x → va_at E.2.1 vwCl (a, x) H
def hput (M : Hp) (a : Nat) (x : va_E) : Hp := fun q => if q = a then some x else M q
theorem hput_s (M : Hp) (a : Nat) (x : va_E) : hput M a x a = some x := if_pos rfl
theorem hput_n {M : Hp} {a q : Nat} {x : va_E} (h : q ≠ a) : hput M a x q = M q := if_neg h
theorem Rel.put {E : Ev} {M : Hp} {H H1 : Heap} {a : Nat} {x : va_E} (h : Rel E M H) (hx : va_at E.2.1 vwCl (a, x) H1) (oq : ∀ q : Nat, q ≠ a → H1[q]? = H[q]?) : Rel E (hput M a x) H1 := by
  intro b y hy
  by_cases hb : b = a
  · subst hb
    rw [hput_s] at hy
    cases hy
    exact hx
  · rw [hput_n hb] at hy
    exact (h b y hy).kept (oq b hb)
theorem Rel.one {E : Ev} {M : Hp} {H : Heap} {a : Nat} {x : va_E} (h : Rel E M H) (hM : M a = some x) : va_P E.2.1 vwCl [(a, x)] H := by
  intro k q hk
  have hz : k < 1 := (List.getElem?_eq_some_iff.mp hk).1
  rw [show k = 0 by omega] at hk
  cases hk
  exact h a x hM
theorem Rel.kept {E : Ev} {M : Hp} {H H1 : Heap} (h : Rel E M H) (oq : ∀ q : Nat, q < H.size → H1[q]? = H[q]?) : Rel E M H1 := fun a x hx => (h a x hx).kept (oq a (h a x hx).lt)
theorem Rel.new {E : Ev} {M : Hp} {H : Heap} (h : Rel E M H) : M H.size = none := by
  cases hx : M H.size with
  | none => rfl
  | some x => exact absurd (h _ _ hx).lt (Nat.lt_irrefl _)
/-- what stands below the law's start and is never written -/
def stC : List (String × Nat × String) := []
def KF (E : Ev) (s : State) (H : Heap) : Prop := vx_Zq Bundle.tN "UNASSIGNED_STACK" Bundle.steD (AE E) s H ∧ vx_Zq Bundle.tN "SUPPRESSED_SENTINEL" Bundle.listD (AE E) s H
theorem KF.moved {E : Ev} {u U : State} {H : Heap} (hvm : u.vm.Alike U.vm) (h : KF E u H) : KF E U H := ⟨vx_Zq.moved hvm h.1, vx_Zq.moved hvm h.2⟩
theorem KF.kept {E : Ev} {U : State} {H H1 : Heap} (h : KF E U H) (hq : ∀ a : Nat, a < H.size → ¬ AE E a → H1[a]? = H[a]?) : KF E U H1 := ⟨vx_Zq.kept h.1 hq, vx_Zq.kept h.2 hq⟩
def GE (E : Ev) (s : State) : Prop := E.1.stackTraces = false ∧ E.2.2.1 ≤ s.heap.size ∧ va_K E.2.1 vwCl (tysE E) s ∧ KF E s s.heap ∧ (∀ q ∈ stC, ∃ sa, vk_R q.1 q.2.1 q.2.2 sa s)
theorem GE.go {E : Ev} {s U : State} {H : Heap} {locs : List Loc} (h : GE E s) (hS : va_S (AE E) s.heap H locs) (hW : s.WarmedH U.vm) (hU : U.heap = H) : GE E U :=
  ⟨h.1, by rw [hU]; exact Nat.le_trans h.2.1 hS.1, va_K.moved hW.alike h.2.2.1, by rw [hU]; exact (KF.moved hW.alike h.2.2.2.1).kept hS.2.1, fun q hq => by obtain ⟨sa, hsa⟩ := h.2.2.2.2 q hq; exact ⟨sa, vk_R.warm hW hsa⟩⟩
theorem GE.call {E : Ev} {U : State} {g : JFrame} {mk : MethodId} {a : Array Value} (h : GE E U) : GE E (U.calling g mk a) :=
  ⟨h.1, h.2.1, va_K.moved (u := U) (U := U.calling g mk a) (Vm.Alike.refl U.vm) h.2.2.1, KF.moved (u := U) (U := U.calling g mk a) (Vm.Alike.refl U.vm) h.2.2.2.1, fun q hq => by obtain ⟨sa, hsa⟩ := h.2.2.2.2 q hq; exact ⟨sa, vk_R.same (u := U) (U := U.calling g mk a) rfl hsa⟩⟩
/-- the words of a method: its own code, and all good words of the tables -/
def wsM (μ : Mth) : List Cond := Cond.code μ.1 μ.2.1 μ.2.2.1 μ.2.2.2.1 :: goodT
def wsH (μ : Mth) : List Cond := Cond.codeWith μ.1 μ.2.1 μ.2.2.1 μ.2.2.2.1 μ.2.2.2.2.2.2 :: goodT
def rmM (μ : Mth) (mc ms : Nat) : Room := { frames := μ.2.2.2.2.2.1, cells := mc, slots := ms, locals := 64 * μ.2.2.2.2.2.1 }
def PcM (E : Ev) (av : List Value) (M : Hp) : Array Value → State → Prop := va_Pc av (fun U => GE E U ∧ Rel E M U.heap)
def QcM (E : Ev) (P : Option Value → Hp → Prop) : Array Value → State → Outcome → State → Prop := fun _ st o t => (∃ (v : Option Value) (M1 : Hp), o = .returned v ∧ P v M1 ∧ Rel E M1 t.heap) ∧ va_F (AE E) st t
def XcM (E : Ev) (PX : String → Hp → Prop) : String → State → State → Prop := fun x st t => (∃ M1 : Hp, PX x M1 ∧ Rel E M1 t.heap) ∧ va_F (AE E) st t
/-- a contract: from the world M, with these arguments, the method returns by P -/
def Ct (E : Ev) (μ : Mth) (av : List Value) (M : Hp) (P : Option Value → Hp → Prop) (mc ms : Nat) : Prop :=
  Met E.1 μ.1 (wsM μ) (rmM μ mc ms) (PcM E av M) (QcM E P) mc ms (AE E)
def CtX (E : Ev) (μ : Mth) (av : List Value) (M : Hp) (P : Option Value → Hp → Prop) (PX : String → Hp → Prop) (mc ms : Nat) : Prop :=
  vx_Met E.1 μ.1 (wsM μ) (rmM μ mc ms) (PcM E av M) (QcM E P) (XcM E PX) mc ms (AE E)
def CtH (E : Ev) (μ : Mth) (av : List Value) (M : Hp) (P : Option Value → Hp → Prop) (mc ms : Nat) : Prop :=
  Met E.1 μ.1 (wsH μ) (rmM μ mc ms) (PcM E av M) (QcM E P) mc ms (AE E)
def eqR (v : Option Value) (M : Hp) : Option Value → Hp → Prop := fun v1 M1 => v1 = v ∧ M1 = M
theorem PcM.blind {E : Ev} {av : List Value} {M : Hp} : FrameBlind (PcM E av M) := fun _ _ _ _ h => ⟨h.1, h.2.1.call, h.2.2⟩
/-- the locals -/
def lvP (lsR : Array Slot) (nL : Nat) (ls : List Value) : Prop := lsR.size = nL ∧ lv_wf lsR ∧ ∀ (i : Nat) (v : Value), ls[i]? = some v → v ≠ hole → lsR[i]? = some (.val v)
/-- what a body stands on -/
def Cx (E : Ev) (X : Cx0) (μ : Mth) : Prop :=
  X.1.tables.exec = Jvm.exec ∧ X.2.2.2.2.2.2.2.2.code = μ.2.1 ∧ X.2.2.2.2.2.2.2.2.maxLocals = μ.2.2.1 ∧ X.2.2.2.1.vm.findClass μ.1.cls = some X.2.2.2.2.1.cls ∧ (∀ w ∈ goodT, w.before X.2.2.2.2.2.1 X.2.2.2.1 = true) ∧
  X.2.2.2.2.2.2.2.1.locks = false ∧ X.2.2.2.2.2.2.2.1.sig.returnType = μ.2.2.2.1 ∧ X.2.2.2.2.2.2.2.2.exceptionTable.toList = tableOf μ.2.2.2.2.2.2 ∧ X.2.2.2.2.2.2.2.1.name = μ.1.name ∧ GE E X.2.2.2.1 ∧ μ.2.2.2.2.2.1 ≤ X.2.2.1.frames ∧ 64 * μ.2.2.2.2.2.1 ≤ X.2.2.1.locals
/-- the machine, now at pc over the world M with nc cells and ns slots left to make, comes to a state with Q -/
def Gq (E : Ev) (X : Cx0) (μ : Mth) (Q : State → Prop) (pc : Nat) (ls st : List Value) (M : Hp) (nc ns : Nat) : Prop :=
  ∀ (H : Heap) (locs : List Loc) (cells slots : Nat) (lsR : Array Slot), Rel E M H → va_S (AE E) X.2.2.2.1.heap H locs → lvP lsR μ.2.2.1 ls → cells + nc ≤ X.2.2.1.cells → slots + ns ≤ X.2.2.1.slots →
    W X.1 E.1 X.2.1 X.2.2.1 X.2.2.2.1 X.2.2.2.2.1 X.2.2.2.2.2.1 X.2.2.2.2.2.2.1 X.2.2.2.2.2.2.2.1 X.2.2.2.2.2.2.2.2 H locs cells slots Q (F0 X.2.2.2.2.1 pc lsR st)
def EndM (E : Ev) (X : Cx0) (P : Option Value → Hp → Prop) : State → Prop := MQ X.2.2.2.2.2.2.1 (QcM E P) X.2.2.2.2.2.1 X.2.2.2.1 X.2.2.1.cells X.2.2.1.slots (AE E)
def EndX (E : Ev) (X : Cx0) (P : Option Value → Hp → Prop) (PX : String → Hp → Prop) : State → Prop := vx_MQ X.2.2.2.2.2.2.1 (QcM E P) (XcM E PX) X.2.2.2.2.2.1 X.2.2.2.1 X.2.2.1.cells X.2.2.1.slots (AE E)
section LY
variable {E : Ev} {X : Cx0} {μ : Mth} {Q : State → Prop} {pc q : Nat} {ls st : List Value} {M : Hp} {nc ns : Nat}
theorem lvP.get {lsR : Array Slot} {nL i : Nat} {v : Value} (h : lvP lsR nL ls) (hv : ls[i]? = some v) (hn : v ≠ hole) : lsR[i]? = some (.val v) := h.2.2 i v hv hn
theorem gq_aload_n (hX : Cx E X μ) {k : Fin 4} {i x : Nat} (d : decode μ.2.1 pc = .ok (.aload_n k, 1)) (hq : pc + 1 = q) (hi : (k : Nat) = i) (hl : ls[i]? = some (.ref x)) (kk : Gq E X μ Q q ls (.ref x :: st) M nc ns) : Gq E X μ Q pc ls st M nc ns := by
  subst hq
  exact fun H locs cells slots lsR hR hS hL h1 h2 => lv_aload_n hX.1 hX.2.1 d hi (hL.get hl (by intro h; cases h)) (kk H locs cells slots lsR hR hS hL h1 h2)
theorem gq_iload_n (hX : Cx E X μ) {k : Fin 4} {i : Nat} {x : Int32} (d : decode μ.2.1 pc = .ok (.iload_n k, 1)) (hq : pc + 1 = q) (hi : (k : Nat) = i) (hl : ls[i]? = some (.int x)) (kk : Gq E X μ Q q ls (.int x :: st) M nc ns) : Gq E X μ Q pc ls st M nc ns := by
  subst hq
  exact fun H locs cells slots lsR hR hS hL h1 h2 => lv_iload_n hX.1 hX.2.1 d hi (hL.get hl (by intro h; cases h)) (kk H locs cells slots lsR hR hS hL h1 h2)
end LY
