/-! THE LAYER: a world is a map of addresses to cells, a frame's locals are a list; every row of it follows from a row of the kit -/
abbrev Hp : Type := Nat → Option va_E
/-- launch, class numbers and slots, the heap's size at the law's start, the array classes, the String constants and their bytes -/
abbrev Ev : Type := Launch × va_G × Nat × (Nat → ClassId) × (Nat → Nat) × (Nat → Nat)
/-- a method: name, code, locals, return type, parameters, depth, handlers -/
abbrev Mth : Type := MethodName × ByteArray × Nat × Option FieldType × Nat × Nat × List (Nat × Nat × Nat × Nat)
abbrev Cx0 : Type := Program × Env × Room × State × MethodId × Array Value × List Frame × Method × Code
def hole : Value := .retAddr 0
def goodT : List Cond := lw_tbl.filter goodWord
theorem goodT_mem {w : Cond} (h : w ∈ lw_tbl) (hg : goodWord w = true) : w ∈ goodT := List.mem_filter.mpr ⟨h, hg⟩
theorem goodT_good {w : Cond} (h : w ∈ goodT) : (w.onTables && w.keeps) = true ∨ ∃ ty, w = .arrayClass ty := good_of_word (List.mem_filter.mp h).2
theorem goodT_in {ws : List Cond} (h : ∀ w ∈ ws, w ∈ goodT) : GoodIn goodT ws := fun w hw => ⟨h w hw, goodT_good (h w hw)⟩
def tysE (E : Ev) : List (ClassId × FieldType) := [(E.2.2.2.1 0, .int), (E.2.2.2.1 1, .char), (E.2.2.2.1 2, .boolean), (E.2.2.2.1 3, .long), (E.2.2.2.1 4, .double), (E.2.2.2.1 5, .byte), (E.2.2.2.1 6, .object "KiteTailRental$State")]
def AE (E : Ev) : Nat → Prop := fun q => E.2.2.1 ≤ q
def Rel (E : Ev) (M : Hp) (H : Heap) : Prop := ∀ (a : Nat) (x : va_E), M a = some x → va_at E.2.1 vwCl (a, x) H
def hput (M : Hp) (a : Nat) (x : va_E) : Hp := fun q => if q = a then some x else M q
theorem hput_s (M : Hp) (a : Nat) (x : va_E) : hput M a x a = some x := if_pos rfl
theorem hput_n {M : Hp} {a q : Nat} {x : va_E} (h : q ≠ a) : hput M a x q = M q := if_neg h
theorem Rel.put {E : Ev} {M : Hp} {H H1 : Heap} {a : Nat} {x : va_E} (h : Rel E M H) (hx : va_at E.2.1 vwCl (a, x) H1) (oq : ∀ q : Nat, q ≠ a → H1[q]? = H[q]?) : Rel E (hput M a x) H1 := by
  intro b y hy
  by_cases hb : b = a
  · subst hb
    rw [hput_s] at hy
    cases hy
    exact hx
  · rw [hput_n hb] at hy
    exact (h b y hy).kept (oq b hb)
theorem Rel.one {E : Ev} {M : Hp} {H : Heap} {a : Nat} {x : va_E} (h : Rel E M H) (hM : M a = some x) : va_P E.2.1 vwCl [(a, x)] H := by
  intro k q hk
  have hz : k < 1 := (List.getElem?_eq_some_iff.mp hk).1
  rw [show k = 0 by omega] at hk
  cases hk
  exact h a x hM
theorem Rel.kept {E : Ev} {M : Hp} {H H1 : Heap} (h : Rel E M H) (oq : ∀ q : Nat, q < H.size → H1[q]? = H[q]?) : Rel E M H1 := fun a x hx => (h a x hx).kept (oq a (h a x hx).lt)
theorem Rel.new {E : Ev} {M : Hp} {H : Heap} (h : Rel E M H) : M H.size = none := by
  cases hx : M H.size with
  | none => rfl
  | some x => exact absurd (h _ _ hx).lt (Nat.lt_irrefl _)
/-- what stands below the law's start and is never written -/
def stC : List (String × Nat × String) := [("KiteTailRental", 96, "no such committee"), ("KiteTailRental", 404, "the number of hours is not from 0 to 24"), ("KiteTailRental", 63, "a committee has 1 to 9 members"), ("KiteTailRental", 70, "there are 6 committees"), ("KiteTailRental", 83, "a tail has a length from 1 to 9"), ("KiteTailRental", 85, "there are 8 tails"), ("KiteTailRental", 99, "1 to 99 coins can be paid"), ("KiteTailRental", 103, "more coins than arrears"), ("KiteTailRental", 112, "the kite flies, or the committee has arrears"), ("KiteTailRental", 399, "no such tail"), ("KiteTailRental", 155, "the tail is free"), ("KiteTailRental", 162, "no tail is free"), ("KiteTailRental", 406, "no such committee or tail"), ("KiteTailRental", 408, "8 motions are open"), ("KiteTailRental", 177, "no open motion has this id"), ("KiteTailRental", 179, "the mover cannot second"), ("KiteTailRental", 181, "the motion has a seconder"), ("KiteTailRental", 189, "the motion is not tabled"), ("KiteTailRental", 203, "the motion has no seconder or is tabled"), ("KiteTailRental", 218, "no such position"), ("KiteTailRental", 232, "the motion has no seconder"), ("KiteTailRental", 249, "a gust has a strength from 0 to 20"), ("KiteTailRental", 257, "1 to 12 hours can pass"), ("KiteTailRental", 278, "no such rank"), ("KiteTailRental", 292, "the code of the character is not from 32 to 126"), ("KiteTailRental", 298, "the command text has 60 characters"), ("KiteTailRental", 313, "the text is not a command text"), ("KiteTailRental", 322, "a command fails"), ("KiteTailRental", 328, "no error position was set"), ("KiteTailRental", 330, "no command has failed"), ("KiteTailRental", 352, "no such index"), ("KiteTailRental", 360, "there are no committees"), ("KiteTailRental", 366, "there are no tails"), ("KiteTailRental", 383, "there is no change to undo"), ("KiteTailRental", 388, "there is no snapshot")]
def frmC : List (Nat × String) := [(44, "committee 9"), (46, "tail 9"), (48, "pay 9 #"), (50, "launch 9"), (52, "rent 99"), (54, "return 99"), (56, "ground 99"), (58, "second 9 #"), (60, "untable #"), (62, "withdraw #"), (64, "vote #"), (66, "gust #"), (68, "pass #")]
def frmL : List Nat := [11, 6, 7, 8, 7, 9, 9, 10, 9, 10, 6, 6, 6]
def frmB : List (List Int32) := [[99, 111, 109, 109, 105, 116, 116, 101, 101, 32, 57], [116, 97, 105, 108, 32, 57], [112, 97, 121, 32, 57, 32, 35], [108, 97, 117, 110, 99, 104, 32, 57], [114, 101, 110, 116, 32, 57, 57], [114, 101, 116, 117, 114, 110, 32, 57, 57], [103, 114, 111, 117, 110, 100, 32, 57, 57], [115, 101, 99, 111, 110, 100, 32, 57, 32, 35], [117, 110, 116, 97, 98, 108, 101, 32, 35], [119, 105, 116, 104, 100, 114, 97, 119, 32, 35], [118, 111, 116, 101, 32, 35], [103, 117, 115, 116, 32, 35], [112, 97, 115, 115, 32, 35]]
def ncC : List (String × String) := [("java/lang/IllegalArgumentException", "java/lang/IllegalStateException"), ("java/lang/IllegalArgumentException", "java/lang/IndexOutOfBoundsException"), ("java/lang/IllegalArgumentException", "java/lang/UnsupportedOperationException"), ("java/lang/IllegalArgumentException", "java/util/NoSuchElementException"), ("java/lang/IllegalStateException", "java/lang/IllegalArgumentException"), ("java/lang/IllegalStateException", "java/lang/IndexOutOfBoundsException"), ("java/lang/IllegalStateException", "java/lang/UnsupportedOperationException"), ("java/lang/IllegalStateException", "java/util/NoSuchElementException"), ("java/lang/IndexOutOfBoundsException", "java/lang/IllegalArgumentException"), ("java/lang/IndexOutOfBoundsException", "java/lang/IllegalStateException"), ("java/lang/IndexOutOfBoundsException", "java/lang/UnsupportedOperationException"), ("java/lang/IndexOutOfBoundsException", "java/util/NoSuchElementException"), ("java/lang/UnsupportedOperationException", "java/lang/IllegalArgumentException"), ("java/lang/UnsupportedOperationException", "java/lang/IllegalStateException"), ("java/lang/UnsupportedOperationException", "java/lang/IndexOutOfBoundsException"), ("java/lang/UnsupportedOperationException", "java/util/NoSuchElementException"), ("java/util/NoSuchElementException", "java/lang/IllegalArgumentException"), ("java/util/NoSuchElementException", "java/lang/IllegalStateException"), ("java/util/NoSuchElementException", "java/lang/IndexOutOfBoundsException"), ("java/util/NoSuchElementException", "java/lang/UnsupportedOperationException")]
def nwK (w : Cond) : Bool := match w with
  | .declares _ => true
  | .privateMethod _ => true
  | .castable _ _ => true
  | .methodLinkNest _ _ _ _ => true
  | _ => false
def nwT : List Cond := lw_tbl.filter nwK
theorem nw_warmP {x : MethodName} {s U : State} (hW : s.WarmedH U.vm) (hZ : va_Nw (.privateMethod x) s) : va_Nw (.privateMethod x) U := va_tabs rfl (rfl : (s.setVm U.vm).vm = U.vm) (by rw [Cond.privateMethod_setVm hW.alike]; exact hZ)
theorem nw_warm {s U : State} (hW : s.WarmedH U.vm) {w : Cond} (hk : nwK w = true) (h : va_Nw w s) : va_Nw w U := by
  cases w <;> first | exact absurd (show false = true from hk) Bool.false_ne_true | exact va_Nw.warmD hW h | exact va_Nw.warmC hW h | exact va_Nw.warmM hW h | exact nw_warmP hW h
def KF (E : Ev) (s : State) (H : Heap) : Prop := vx_Zq Bundle.tN "UNASSIGNED_STACK" Bundle.steD (AE E) s H ∧ vx_Zq Bundle.tN "SUPPRESSED_SENTINEL" Bundle.listD (AE E) s H ∧ va_Z "java/lang/String" "COMPACT_STRINGS" "Z" (.int 1) (AE E) s H ∧
  (∃ t : Nat, va_Z "java/lang/Integer" "DigitTens" "[B" (.ref t) (AE E) s H ∧ va_T .byte t 100 (fun j => .int (nI (48 + j / 10))) (AE E) s H) ∧ (∃ t : Nat, va_Z "java/lang/Integer" "DigitOnes" "[B" (.ref t) (AE E) s H ∧ va_T .byte t 100 (fun j => .int (nI (48 + j % 10))) (AE E) s H) ∧
  va_Zq "jdk/internal/util/Preconditions" "SIOOBE_FORMATTER" "Ljava/util/function/BiFunction;" (AE E) s H ∧ vk_S 13 frmL frmB E.2.2.2.2.1 E.2.2.2.2.2 (AE E) s H
theorem KF.moved {E : Ev} {u U : State} {H : Heap} (hvm : u.vm.Alike U.vm) (h : KF E u H) : KF E U H := by
  obtain ⟨h1, h2, h3, ⟨t4, h4, g4⟩, ⟨t5, h5, g5⟩, h6, h7⟩ := h
  exact ⟨vx_Zq.moved hvm h1, vx_Zq.moved hvm h2, va_Z.moved hvm h3, ⟨t4, va_Z.moved hvm h4, va_T.moved hvm g4⟩, ⟨t5, va_Z.moved hvm h5, va_T.moved hvm g5⟩, va_Zq.moved hvm h6, vk_S.moved hvm h7⟩
theorem KF.kept {E : Ev} {U : State} {H H1 : Heap} (h : KF E U H) (hq : ∀ a : Nat, a < H.size → ¬ AE E a → H1[a]? = H[a]?) : KF E U H1 := by
  obtain ⟨h1, h2, h3, ⟨t4, h4, g4⟩, ⟨t5, h5, g5⟩, h6, h7⟩ := h
  exact ⟨vx_Zq.kept h1 hq, vx_Zq.kept h2 hq, va_Z.kept h3 hq, ⟨t4, va_Z.kept h4 hq, va_T.kept g4 hq⟩, ⟨t5, va_Z.kept h5 hq, va_T.kept g5 hq⟩, va_Zq.kept h6 hq, vk_S.kept h7 hq⟩
/-- the facts that hold in every state from the law's start on -/
def GE (E : Ev) (s : State) : Prop := E.1.stackTraces = false ∧ E.2.2.1 ≤ s.heap.size ∧ va_K E.2.1 vwCl (tysE E) s ∧ KF E s s.heap ∧ (∀ q ∈ stC, ∃ sa, vk_R "KiteTailRental" q.2.1 q.2.2 sa s) ∧ (∀ (i : Nat) (q : Nat × String), frmC[i]? = some q → vk_R "KiteTailRental$Commands" q.1 q.2 (E.2.2.2.2.1 i) s) ∧ (∀ w ∈ nwT, va_Nw w s) ∧ (∀ q ∈ ncC, va_Nc q.1 q.2 s) ∧ va_AO "KiteTailRental$State" s
theorem GE.go {E : Ev} {s U : State} {H : Heap} {locs : List Loc} (h : GE E s) (hS : va_S (AE E) s.heap H locs) (hW : s.WarmedH U.vm) (hU : U.heap = H) : GE E U :=
  ⟨h.1, by rw [hU]; exact Nat.le_trans h.2.1 hS.1, va_K.moved hW.alike h.2.2.1, by rw [hU]; exact (KF.moved hW.alike h.2.2.2.1).kept hS.2.1, fun q hq => by obtain ⟨sa, hsa⟩ := h.2.2.2.2.1 q hq; exact ⟨sa, vk_R.warm hW hsa⟩, fun i q hq => vk_R.warm hW (h.2.2.2.2.2.1 i q hq), fun w hw => nw_warm hW (List.mem_filter.mp hw).2 (h.2.2.2.2.2.2.1 w hw), fun q hq => va_Nc.moved hW.alike (h.2.2.2.2.2.2.2.1 q hq), va_AO.moved hW.alike h.2.2.2.2.2.2.2.2⟩
theorem GE.same {E : Ev} {u U : State} (h : GE E u) (hv : U.vm = u.vm) (hh : U.heap = u.heap) : GE E U := by
  have hal : u.vm.Alike U.vm := by rw [hv]; exact Vm.Alike.refl u.vm
  exact ⟨h.1, by rw [hh]; exact h.2.1, va_K.moved hal h.2.2.1, by rw [hh]; exact KF.moved hal h.2.2.2.1, fun q hq => by obtain ⟨sa, hsa⟩ := h.2.2.2.2.1 q hq; exact ⟨sa, vk_R.same hv hsa⟩, fun i q hq => vk_R.same hv (h.2.2.2.2.2.1 i q hq), fun w hw => va_tabs (by
    have hk := (List.mem_filter.mp hw).2
    cases w <;> first | rfl | exact absurd (show false = true from hk) Bool.false_ne_true) hv.symm (h.2.2.2.2.2.2.1 w hw), fun q hq => va_Nc.moved hal (h.2.2.2.2.2.2.2.1 q hq), va_AO.moved hal h.2.2.2.2.2.2.2.2⟩
theorem GE.call {E : Ev} {U : State} {g : JFrame} {mk : MethodId} {a : Array Value} (h : GE E U) : GE E (U.calling g mk a) := h.same rfl rfl
/-- the words of a method: its own code, and all good words of the tables -/
def wsM (μ : Mth) : List Cond := Cond.code μ.1 μ.2.1 μ.2.2.1 μ.2.2.2.1 :: goodT
def wsH (μ : Mth) : List Cond := Cond.codeWith μ.1 μ.2.1 μ.2.2.1 μ.2.2.2.1 μ.2.2.2.2.2.2 :: goodT
def rmM (μ : Mth) (mc ms : Nat) : Room := { frames := μ.2.2.2.2.2.1, cells := mc, slots := ms, locals := 64 * μ.2.2.2.2.2.1 }
def PcM (E : Ev) (av : List Value) (M : Hp) : Array Value → State → Prop := va_Pc av (fun U => GE E U ∧ Rel E M U.heap)
def QcM (E : Ev) (P : Option Value → Hp → Prop) : Array Value → State → Outcome → State → Prop := fun _ st o t => (∃ (v : Option Value) (M1 : Hp), o = .returned v ∧ P v M1 ∧ Rel E M1 t.heap) ∧ va_F (AE E) st t
def XcM (E : Ev) (PX : String → Hp → Prop) : String → State → State → Prop := fun x st t => (∃ M1 : Hp, PX x M1 ∧ Rel E M1 t.heap) ∧ va_F (AE E) st t
/-- a contract: from the world M, with these arguments, the method returns by P -/
def Ct (E : Ev) (μ : Mth) (av : List Value) (M : Hp) (P : Option Value → Hp → Prop) (mc ms : Nat) : Prop :=
  Met E.1 μ.1 (wsM μ) (rmM μ mc ms) (PcM E av M) (QcM E P) mc ms (AE E)
def CtX (E : Ev) (μ : Mth) (av : List Value) (M : Hp) (P : Option Value → Hp → Prop) (PX : String → Hp → Prop) (mc ms : Nat) : Prop :=
  vx_Met E.1 μ.1 (wsM μ) (rmM μ mc ms) (PcM E av M) (QcM E P) (XcM E PX) mc ms (AE E)
def CtH (E : Ev) (μ : Mth) (av : List Value) (M : Hp) (P : Option Value → Hp → Prop) (mc ms : Nat) : Prop :=
  Met E.1 μ.1 (wsH μ) (rmM μ mc ms) (PcM E av M) (QcM E P) mc ms (AE E)
def eqR (v : Option Value) (M : Hp) : Option Value → Hp → Prop := fun v1 M1 => v1 = v ∧ M1 = M
theorem PcM.blind {E : Ev} {av : List Value} {M : Hp} : FrameBlind (PcM E av M) := fun _ _ _ _ h => ⟨h.1, h.2.1.call, h.2.2⟩
/-- the locals -/
def lvP (lsR : Array Slot) (nL : Nat) (ls : List Value) : Prop := lsR.size = nL ∧ lv_wf lsR ∧ ∀ (i : Nat) (v : Value), ls[i]? = some v → v ≠ hole → lsR[i]? = some (.val v)
/-- what a body stands on -/
def Cx (E : Ev) (X : Cx0) (μ : Mth) : Prop :=
  X.1.tables.exec = Jvm.exec ∧ X.2.2.2.2.2.2.2.2.code = μ.2.1 ∧ X.2.2.2.2.2.2.2.2.maxLocals = μ.2.2.1 ∧ X.2.2.2.1.vm.findClass μ.1.cls = some X.2.2.2.2.1.cls ∧ (∀ w ∈ goodT, w.before X.2.2.2.2.2.1 X.2.2.2.1 = true) ∧
  X.2.2.2.2.2.2.2.1.locks = false ∧ X.2.2.2.2.2.2.2.1.sig.returnType = μ.2.2.2.1 ∧ X.2.2.2.2.2.2.2.2.exceptionTable.toList = tableOf μ.2.2.2.2.2.2 ∧ X.2.2.2.2.2.2.2.1.name = μ.1.name ∧ GE E X.2.2.2.1 ∧ μ.2.2.2.2.2.1 ≤ X.2.2.1.frames ∧ 64 * μ.2.2.2.2.2.1 ≤ X.2.2.1.locals
/-- the machine, now at pc over the world M with nc cells and ns slots left to make, comes to a state with Q -/
def Gq (E : Ev) (X : Cx0) (μ : Mth) (Q : State → Prop) (pc : Nat) (ls st : List Value) (M : Hp) (nc ns : Nat) : Prop :=
  ∀ (H : Heap) (locs : List Loc) (cells slots : Nat) (lsR : Array Slot), Rel E M H → va_S (AE E) X.2.2.2.1.heap H locs → lvP lsR μ.2.2.1 ls → cells + nc ≤ X.2.2.1.cells → slots + ns ≤ X.2.2.1.slots →
    W X.1 E.1 X.2.1 X.2.2.1 X.2.2.2.1 X.2.2.2.2.1 X.2.2.2.2.2.1 X.2.2.2.2.2.2.1 X.2.2.2.2.2.2.2.1 X.2.2.2.2.2.2.2.2 H locs cells slots Q (F0 X.2.2.2.2.1 pc lsR st)
def EndM (E : Ev) (X : Cx0) (P : Option Value → Hp → Prop) : State → Prop := MQ X.2.2.2.2.2.2.1 (QcM E P) X.2.2.2.2.2.1 X.2.2.2.1 X.2.2.1.cells X.2.2.1.slots (AE E)
def EndX (E : Ev) (X : Cx0) (P : Option Value → Hp → Prop) (PX : String → Hp → Prop) : State → Prop := vx_MQ X.2.2.2.2.2.2.1 (QcM E P) (XcM E PX) X.2.2.2.2.2.1 X.2.2.2.1 X.2.2.1.cells X.2.2.1.slots (AE E)
section LY
variable {E : Ev} {X : Cx0} {μ : Mth} {Q : State → Prop} {pc q : Nat} {ls st : List Value} {M : Hp} {nc ns : Nat}
theorem lvP.get {lsR : Array Slot} {nL i : Nat} {v : Value} (h : lvP lsR nL ls) (hv : ls[i]? = some v) (hn : v ≠ hole) : lsR[i]? = some (.val v) := h.2.2 i v hv hn
theorem gq_aload_n (hX : Cx E X μ) {k : Fin 4} {i x : Nat} (d : decode μ.2.1 pc = .ok (.aload_n k, 1)) (hq : pc + 1 = q) (hi : (k : Nat) = i) (hl : ls[i]? = some (.ref x)) (kk : Gq E X μ Q q ls (.ref x :: st) M nc ns) : Gq E X μ Q pc ls st M nc ns := by
  subst hq
  exact fun H locs cells slots lsR hR hS hL h1 h2 => lv_aload_n hX.1 hX.2.1 d hi (hL.get hl (by intro h; cases h)) (kk H locs cells slots lsR hR hS hL h1 h2)
theorem gq_iload_n (hX : Cx E X μ) {k : Fin 4} {i : Nat} {x : Int32} (d : decode μ.2.1 pc = .ok (.iload_n k, 1)) (hq : pc + 1 = q) (hi : (k : Nat) = i) (hl : ls[i]? = some (.int x)) (kk : Gq E X μ Q q ls (.int x :: st) M nc ns) : Gq E X μ Q pc ls st M nc ns := by
  subst hq
  exact fun H locs cells slots lsR hR hS hL h1 h2 => lv_iload_n hX.1 hX.2.1 d hi (hL.get hl (by intro h; cases h)) (kk H locs cells slots lsR hR hS hL h1 h2)
end LY
