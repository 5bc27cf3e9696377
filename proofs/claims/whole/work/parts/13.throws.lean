/-! an exception whose constructor links its super constructor by another number: after the library's ctorThrowS, the first class apart -/
def yx_words (own : String) (ic : Nat) (X Y : String) (ix : Nat) (rx : ByteArray) (r : List String) : List Cond :=
  Bundle.throwableAtoms ++ Bundle.throwableSAtoms ++ (Bundle.passSAtoms X Y ix rx ++ Bundle.chainSAtoms Y r) ++
  [.methodLink own ic (Bundle.initS X), .instantiable X 6, .selects X Bundle.tFill0 Bundle.tFill0, .selects X Bundle.tFill Bundle.tFill,
   .lays X Bundle.tN "cause" "Ljava/lang/Throwable;", .lays X Bundle.tN "stackTrace" Bundle.steD, .lays X Bundle.tN "suppressedExceptions" Bundle.listD, .lays X Bundle.tN "detailMessage" "Ljava/lang/String;",
   .isRef (.static Bundle.tN "UNASSIGNED_STACK" Bundle.steD), .isRef (.static Bundle.tN "SUPPRESSED_SENTINEL" Bundle.listD),
   .fieldLink Bundle.tN 198 Bundle.tN "backtrace" "Ljava/lang/Object;", .lays Bundle.tN Bundle.tN "backtrace" "Ljava/lang/Object;", .lays X Bundle.tN "backtrace" "Ljava/lang/Object;"]
section YX
variable {p : Program} {l : Launch} {e : Env} {R : Room} {s : State} {m₀ : MethodId} {args : Array Value} {below : List Frame} {meth : Method} {c : Code} {W : State} {locs : List Loc} {cells slots : Nat}
set_option maxHeartbeats 1000000 in
theorem yx_ctor (X : Stand p l e R s m₀ args below meth c W locs cells slots) (hexec : p.tables.exec = Jvm.exec) (htr : e.platform.stackTraces = false) {own cls Y0 : String} {r : List String} {ic ix : Nat} {rx : ByteArray}
    (x0 : decode rx 0 = .ok (.aload_n 0, 1)) (x1 : decode rx 1 = .ok (.aload_n 1, 1)) (x2 : decode rx 2 = .ok (.invokespecial ix, 3)) (x5 : decode rx 5 = .ok (.return_, 1))
    (hown : s.vm.findClass own = some m₀.cls) (hcls : Bundle.fit cls = true) (hY0 : Bundle.fit Y0 = true) (hnames : ∀ n ∈ r, Bundle.fit n = true)
    (h : ∀ a ∈ yx_words own ic cls Y0 ix rx r, a.before args s = true)
    (hlocs : ∀ x ∈ locs, ∀ cell, s.heap[x.base]? = some cell → cell.vm.isStatics = false)
    {a : Addr} {cX : ClassId} {kX : Class} (hfoundX : s.vm.findClass cls = some cX) (hkX : s.vm.classes[cX]? = some kX) (hcell : W.heap[a]? = some (freshCell cX kX)) (hnew : s.heap.size ≤ a)
    {msg : Value} (hmsg : msg.isRef = true)
    {g : JFrame} (hg : g.method = m₀) (hsize : g.locals.size = c.maxLocals) (hlocked : g.locked = none) (hentered : g.entered = []) {rest : List Value} (hstack : g.stack = msg :: .ref a :: .ref a :: rest)
    (hd6 : decode c.code g.pc = .ok (.invokespecial ic, 3)) (hd9 : decode c.code (g.pc + 3) = .ok (.athrow, 1)) (hout : ∀ x ∈ c.exceptionTable.toList, covers x (g.pc + 3) = false)
    (hRframes : r.length + 4 < R.frames) (hRlocals : 2 * g.monitorRoom + ((Value.ref a :: rest).map fun v => v.category).sum + (13 * (r.length + 2) + 42) ≤ R.locals) (hlocks : meth.locks = false) :
    ∃ U : State, Steps p.tables e below (W.setTop g) U ∧ U.status = .running ∧ Ended U below (.threw a) ∧ s.WarmedH U.vm ∧ s.sameButNew ({ U with vm := s.vm } : State) locs cells slots ∧
      ∃ ce, U.heap[a]? = some ce ∧ ce.vm = .none ∧ s.vm.findClass cls = some ce.cls := by
  have howns : e.platform.frameOwnsMonitors = true := by rw [X.admits.platform]
  have hfin : e.platform.finalization = false := by rw [X.admits.platform]
  have hpl : e.platform.magicAccessors = ({} : Platform).magicAccessors := by rw [X.admits.platform]
  have a' : ∀ x, x ∈ yx_words own ic cls Y0 ix rx r → x.holds args s none s [] = true := fun x hx => h x hx
  obtain ⟨T, Z0, L, -, Y⟩ := ThrowableC.of_atoms (args := args) howns hfin hpl (fun x hx => h x (by simp [yx_words, hx]))
  obtain ⟨Z, M, LZ, LM, hnZ⟩ := Init0T.ofS_atoms (args := args) hpl L Y (fun x hx => h x (by simp [yx_words, hx]))
  obtain ⟨P1, L1, hP1m, hs1⟩ := PassC.ofS_atoms (args := args) (s := s) hpl (X := cls) (Y := Y0) (Bundle.fit_spec hcls).1 (Bundle.fit_spec hY0).2 x0 x1 x2 x5 (fun x hx => h x (by simp [yx_words, hx]))
  obtain ⟨P2, Ps, hlen, L2, hL, hm2, hlink1, hlink⟩ := Bundle.chainS (args := args) hpl hnZ r Y0 hY0 hnames (fun x hx => h x (by simp [yx_words, hx]))
  have hlk : P1.sup = P2.m := Option.some.inj (hs1.symm.trans hm2)
  have hfound : s.vm.findClass cls = some P1.m.cls := findClass_of_methodNamed hP1m
  cases Option.some.inj (hfoundX.symm.trans hfound)
  obtain ⟨c1, kX', hc1, hk, hord, -, -, hn6⟩ := Cond.instantiable_spec (a' (.instantiable cls 6) (by simp [yx_words]))
  cases Option.some.inj (hc1.symm.trans hfound)
  cases Option.some.inj (hkX.symm.trans hk)
  have hsel0 : selectMethod e.platform s.vm P1.m.cls T.fill0 = .method T.fill0 := by
    obtain ⟨c2, r2, m2, q1, q2, q3, q4, -⟩ := Cond.selects_spec (a' (.selects cls Bundle.tFill0 Bundle.tFill0) (by simp [yx_words]))
    cases Option.some.inj (q1.symm.trans hfound)
    cases Option.some.inj (q2.symm.trans (State.methodFound?_of_named Y.fill0 (by decide)))
    cases Option.some.inj (q3.symm.trans Y.fill0)
    rw [Launch.admits_selectMethod X.admits]; exact q4
  have hselF : selectMethod e.platform s.vm P1.m.cls T.fill = .method T.fill := by
    obtain ⟨c2, r2, m2, q1, q2, q3, q4, -⟩ := Cond.selects_spec (a' (.selects cls Bundle.tFill Bundle.tFill) (by simp [yx_words]))
    cases Option.some.inj (q1.symm.trans hfound)
    cases Option.some.inj (q2.symm.trans (State.methodFound?_of_named Y.fill (by decide)))
    cases Option.some.inj (q3.symm.trans Y.fill)
    rw [Launch.admits_selectMethod X.admits]; exact q4
  obtain ⟨cellS0, hcS0, hiss⟩ := Y.statics
  obtain ⟨u0, hu0⟩ := Cond.staticRefV Y.unassigned L.unassignedStatic L.statics hcS0 hiss (a' (.isRef (.static Bundle.tN "UNASSIGNED_STACK" Bundle.steD)) (by simp [yx_words]))
  obtain ⟨sen, hsen⟩ := Cond.staticRefV Y.sentinel L.sentinelStatic L.statics hcS0 hiss (a' (.isRef (.static Bundle.tN "SUPPRESSED_SENTINEL" Bundle.listD)) (by simp [yx_words]))
  obtain ⟨ci198, i198, fB, hk198, hg198, ha198, hsB, -, hnB, htB, hffB⟩ := Cond.ownField (t := .object "java/lang/Object") Y.found L.cls (by decide +kernel) (a' (.fieldLink Bundle.tN 198 Bundle.tN "backtrace" "Ljava/lang/Object;") (by simp [yx_words])) (a' (.lays Bundle.tN Bundle.tN "backtrace" "Ljava/lang/Object;") (by simp [yx_words])) e.platform hpl
  obtain ⟨cellS, hcS', heS, -, hkeep⟩ := X.same.2.2.2.2.2 T.aS cellS0 hcS0
  have hcellS : W.heap[T.aS]? = some cellS := hcS'
  have hout' : ∀ i, (⟨T.aS, i⟩ : Loc) ∉ locs := fun i hmem => by
    have := hlocs _ hmem cellS0 hcS0
    rw [hiss] at this; cases this
  have hknownS : cellS.vm ≠ .unknown := by
    rw [heS]; intro hu
    rw [show cellS0.vm = .unknown from hu] at hiss
    cases hiss
  have hneS : T.aS ≠ a := Nat.ne_of_lt (Nat.lt_of_lt_of_le (Array.getElem?_eq_some_iff.mp hcS0).1 hnew)
  obtain ⟨iM, hffM⟩ := Y.msg
  obtain ⟨tyC, dC, hdC, hdnC⟩ := Cond.laysAt hfound hk Y.cause (a' (.lays cls Bundle.tN "cause" "Ljava/lang/Throwable;") (by simp [yx_words]))
  obtain ⟨tyS, dS, hdS, hdnS⟩ := Cond.laysAt hfound hk Y.stack (a' (.lays cls Bundle.tN "stackTrace" Bundle.steD) (by simp [yx_words]))
  obtain ⟨tyP, dP, hdP, hdnP⟩ := Cond.laysAt hfound hk Y.supp (a' (.lays cls Bundle.tN "suppressedExceptions" Bundle.listD) (by simp [yx_words]))
  obtain ⟨tyM, dM, hdM, hdnM⟩ := Cond.laysAt hfound hk hffM (a' (.lays cls Bundle.tN "detailMessage" "Ljava/lang/String;") (by simp [yx_words]))
  obtain ⟨tyB, dB, hdB, hdnB⟩ := Cond.laysAt hfound hk hffB (a' (.lays cls Bundle.tN "backtrace" "Ljava/lang/Object;") (by simp [yx_words]))
  have bC := Cond.laysApart hdB hdC hdnB hdnC (by rw [hnB, Y.causeName]; decide)
  have bS := Cond.laysApart hdB hdS hdnB hdnS (by rw [hnB, Y.stackName]; decide)
  have bP := Cond.laysApart hdB hdP hdnB hdnP (by rw [hnB, Y.suppName]; decide)
  have hskip : SkipFacts T e.platform s (fun u => u) u0 ((preparedCellV T.toThrowableT (freshCell P1.m.cls kX) a u0 sen).withEntry W.cur) :=
    ⟨{ ci198 := ci198, i198 := i198, fBack := fB }, ⟨hk198, hg198, ha198, hsB⟩, by
      have := fresh_default (c := P1.m.cls) tyB
      rw [htB] at this
      simpa [preparedCellV, Cell.setSlot, Cell.withEntry, Array.getElem?_setIfInBounds, bC, bS, bP, bC.symm, bS.symm, bP.symm, defaultValue] using this, fun _ _ => rfl⟩
  obtain ⟨tm, methC, cdC, kC, vm₁, hnC, -, -, -, -, -, -, -, hW₁, st1⟩ := Steps.initColdS (tb := p.tables) (e := e) (below := below) (s := s) (U := W) X.here hexec X.warmed hpl hown (t := Bundle.initS cls) rfl rfl (Bundle.fit_spec hcls).2
    (a' (.methodLink own ic (Bundle.initS cls)) (by simp [yx_words])) (h (.instanceMethod (Bundle.initS cls)) (by simp [yx_words, Bundle.passSAtoms])) (bytes := rx) (maxL := 2) (h (.code (Bundle.initS cls) rx 2 none) (by simp [yx_words, Bundle.passSAtoms]))
    (f := g) hg (a := a) (msg := msg) (rest := .ref a :: rest) hstack hd6
  cases Option.some.inj (hnC.symm.trans hP1m)
  have X₁ := X.noted hW₁
  obtain ⟨vm₂, X₂, st2⟩ := X₁.ctorMessageOffV hexec (g := { g with stack := .ref a :: rest }) hg hsize T L Z LZ M LM (P1 :: P2 :: Ps)
    (fun P hP => by
      rcases List.mem_cons.mp hP with rfl | hP
      · exact L1
      · rcases List.mem_cons.mp hP with rfl | hP
        · exact L2
        · exact hL P hP) ⟨hlk, hlink1, hlink⟩ (u0 := u0) (sen := sen) (self := a) hmsg (cell := freshCell P1.m.cls kX) (cellS := cellS)
    hcell (fun _ => by simp) (by simp) rfl rfl hsel0 hselF hcellS hneS hknownS (by rw [hkeep _ (hout' _)]; exact hu0) (by rw [hkeep _ (hout' _)]; exact hsen)
    (Takes.of_laid hk hord tyC (by rw [Y.causeType]; rfl)) (Takes.of_laid hk hord tyS (by rw [Y.stackType]; exact fits_refV_array _ u0)) (Takes.of_laid hk hord tyP (by rw [Y.suppType]; exact fits_refV_object _ sen))
    (Takes.of_laid hk hord tyM (by rw [Y.msgType]; exact fits_refV_object _ ⟨msg, hmsg⟩)) Y.objLocals hskip htr [] hd6
    (by simp only [List.length_cons, hlen]; omega) (by simp only [List.length_cons, hlen]; exact hRlocals)
  obtain ⟨hwalk, hrun, hended, hWU, hsame⟩ := X₂.athrowLeaves hexec (g := { g with stack := .ref a :: rest, pc := g.pc + 3 }) hg hlocked hentered hout (a := a) (rest := rest) rfl hd9
  have hlt : a < ((W.setVm vm₁).setVm vm₂).heap.size := (Array.getElem?_eq_some_iff.mp hcell).1
  have hU := heapAt_setCell_self (s := (W.setVm vm₁).setVm vm₂) (plainBareV T.toThrowableT (freshCell P1.m.cls kX) a u0 sen msg) hlt
  refine ⟨_, st1 _ (fun acts => ?_), hrun, hended, hWU, hsame.weaken (fun y hy hlt' => ?_) (Nat.le_refl _) (Nat.le_refl _), _, hU, rfl, hfound⟩
  · rw [doInvoke_state]
    exact st2 _ hwalk
  · rcases List.mem_append.mp hy with h1 | h1
    · exact h1
    · exfalso
      have hb : y.base = a := by
        simp only [List.mem_cons, List.not_mem_nil, or_false] at h1
        rcases h1 with rfl | rfl | rfl | rfl | rfl <;> rfl
      rw [hb] at hlt'
      exact Nat.not_lt.mpr hnew hlt'
end YX
def yx_at (own : String) (ic : Nat) (X Y : String) (ix : Nat) (rx : ByteArray) (r : List String) : List Cond := (yx_words own ic X Y ix rx r).filter vx_no

def chk : Nat → List Cond
  | 1 => tables_1_1
  | 2 => tables_1_2
  | 3 => tables_1_3
  | 4 => tables_1_4
  | 5 => tables_1_5
  | 6 => tables_1_6
  | 7 => tables_1_7
  | 8 => tables_1_8
  | _ => tables_1_9
theorem chk_in : ∀ (k i : Nat) (w : Cond), (chk k)[i]? = some w → w ∈ lw_tbl
  | 1, _, _, h => lw_in (List.mem_append_left _ (List.mem_of_getElem? h))
  | 2, _, _, h => lw_in (List.mem_append_right _ (List.mem_append_left _ (List.mem_of_getElem? h)))
  | 3, _, _, h => lw_in (List.mem_append_right _ (List.mem_append_right _ (List.mem_append_left _ (List.mem_of_getElem? h))))
  | 4, _, _, h => lw_in (List.mem_append_right _ (List.mem_append_right _ (List.mem_append_right _ (List.mem_append_left _ (List.mem_of_getElem? h)))))
  | 5, _, _, h => lw_in (List.mem_append_right _ (List.mem_append_right _ (List.mem_append_right _ (List.mem_append_right _ (List.mem_append_left _ (List.mem_of_getElem? h))))))
  | 6, _, _, h => lw_in (List.mem_append_right _ (List.mem_append_right _ (List.mem_append_right _ (List.mem_append_right _ (List.mem_append_right _ (List.mem_append_left _ (List.mem_of_getElem? h)))))))
  | 7, _, _, h => lw_in (List.mem_append_right _ (List.mem_append_right _ (List.mem_append_right _ (List.mem_append_right _ (List.mem_append_right _ (List.mem_append_right _ (List.mem_append_left _ (List.mem_of_getElem? h))))))))
  | 8, _, _, h => lw_in (List.mem_append_right _ (List.mem_append_right _ (List.mem_append_right _ (List.mem_append_right _ (List.mem_append_right _ (List.mem_append_right _ (List.mem_append_right _ (List.mem_append_left _ (List.mem_of_getElem? h)))))))))
  | 9, _, _, h => lw_in (List.mem_append_right _ (List.mem_append_right _ (List.mem_append_right _ (List.mem_append_right _ (List.mem_append_right _ (List.mem_append_right _ (List.mem_append_right _ (List.mem_append_right _ (List.mem_of_getElem? h)))))))))
  | 0, _, _, h => lw_in (List.mem_append_right _ (List.mem_append_right _ (List.mem_append_right _ (List.mem_append_right _ (List.mem_append_right _ (List.mem_append_right _ (List.mem_append_right _ (List.mem_append_right _ (List.mem_of_getElem? h)))))))))
  | _ + 10, _, _, h => lw_in (List.mem_append_right _ (List.mem_append_right _ (List.mem_append_right _ (List.mem_append_right _ (List.mem_append_right _ (List.mem_append_right _ (List.mem_append_right _ (List.mem_append_right _ (List.mem_of_getElem? h)))))))))
theorem ps_in {ws : List Cond} (ps : List (Nat × Nat)) (hp : ws = ps.filterMap (fun q => (chk q.1)[q.2]?)) : ∀ w ∈ ws, w ∈ lw_tbl := by
  intro w hw
  rw [hp] at hw
  obtain ⟨q, -, hq⟩ := List.mem_filterMap.mp hw
  exact chk_in _ _ _ hq
theorem nw_use {w : Cond} {A : Array Value} {U : State} (hk : nwK w = true) (h : va_Nw w U) : w.before A U = true := by
  cases w <;> first | exact absurd (show false = true from hk) Bool.false_ne_true | exact va_Nw.use rfl h
/-- what the tables say of a class of exceptions, as KiteTailRental throws it; ix: the number by which its constructor links the super constructor -/
def thrW (ik ic ix : Nat) (rx : ByteArray) (x : String) : List Cond := Cond.classLink "KiteTailRental" ik x :: Cond.initialized x :: (if ix = 7 then vx_atS "KiteTailRental" ic x ["java/lang/RuntimeException", "java/lang/Exception"] else yx_at "KiteTailRental" ic x "java/lang/RuntimeException" ix rx ["java/lang/Exception"])
def ThrG (ik ic ix : Nat) (rx : ByteArray) (x : String) : Prop := Bundle.fit x = true ∧ (decode rx 0 = .ok (.aload_n 0, 1) ∧ decode rx 1 = .ok (.aload_n 1, 1) ∧ decode rx 2 = .ok (.invokespecial ix, 3) ∧ decode rx 5 = .ok (.return_, 1)) ∧ ∀ w ∈ thrW ik ic ix rx x, w ∈ lw_tbl ∧ (goodWord w || nwK w) = true ∧ vx_ot w = true
theorem ThrG.of {ik ic ix : Nat} {rx : ByteArray} {x : String} (ps : List (Nat × Nat)) (hx : Bundle.fit x = true) (hd : decode rx 0 = .ok (.aload_n 0, 1) ∧ decode rx 1 = .ok (.aload_n 1, 1) ∧ decode rx 2 = .ok (.invokespecial ix, 3) ∧ decode rx 5 = .ok (.return_, 1)) (hp : thrW ik ic ix rx x = ps.filterMap (fun q => (chk q.1)[q.2]?)) (hall : (ps.filterMap (fun q => (chk q.1)[q.2]?)).all (fun w => (goodWord w || nwK w) && vx_ot w) = true) : ThrG ik ic ix rx x := by
  refine ⟨hx, hd, fun w hw => ⟨ps_in ps hp w hw, ?_⟩⟩
  rw [hp] at hw
  have h := List.all_eq_true.mp hall w hw
  exact Bool.and_eq_true_iff.mp h
theorem ThrG.ok {E : Ev} {X : Cx0} {μ : Mth} (hX : Cx E X μ) {ik ic ix : Nat} {rx : ByteArray} {x : String} (h : ThrG ik ic ix rx x) : ∀ w ∈ thrW ik ic ix rx x, w.before X.2.2.2.2.2.1 X.2.2.2.1 = true := by
  intro w hw
  obtain ⟨h1, h2, -⟩ := h.2.2 w hw
  rcases Bool.or_eq_true_iff.mp h2 with h3 | h3
  · exact hX.good _ (goodT_mem h1 h3)
  · exact nw_use h3 (hX.ge.2.2.2.2.2.2.1 _ (List.mem_filter.mpr ⟨h1, h3⟩))
set_option maxRecDepth 100000 in
theorem th61 : ThrG 61 65 7 Bundle.six "java/lang/IllegalArgumentException" := ThrG.of [(2, 171), (1, 14), (1, 11), (2, 121), (2, 130), (2, 139), (2, 142), (2, 144), (2, 122), (2, 123), (1, 36), (1, 37), (2, 124), (2, 129), (2, 140), (2, 160), (2, 111), (2, 161), (2, 113), (2, 162), (2, 115), (2, 125), (2, 127), (2, 117), (2, 156), (2, 157), (2, 159), (2, 117), (2, 182), (2, 183), (2, 184), (2, 150), (2, 103), (2, 150), (2, 151), (2, 152), (2, 153), (2, 105), (2, 153), (2, 154), (2, 155), (2, 156), (2, 107), (2, 181), (2, 172), (2, 173), (2, 174), (2, 134), (2, 175), (2, 176), (2, 177), (2, 178), (2, 120), (2, 119), (2, 179)] (by decide +kernel) ⟨by decide +kernel, by decide +kernel, by decide +kernel, by decide +kernel⟩ (by decide +kernel) (by decide +kernel)
set_option maxRecDepth 100000 in
theorem th68 : ThrG 68 72 7 Bundle.six "java/lang/IllegalStateException" := ThrG.of [(3, 8), (1, 15), (1, 11), (2, 121), (2, 130), (2, 139), (2, 142), (2, 144), (2, 122), (2, 123), (1, 36), (1, 37), (2, 124), (2, 129), (2, 140), (2, 160), (2, 111), (2, 161), (2, 113), (2, 162), (2, 115), (2, 125), (2, 127), (2, 117), (2, 156), (2, 157), (2, 159), (2, 117), (3, 19), (3, 20), (3, 21), (2, 150), (2, 103), (2, 150), (2, 151), (2, 152), (2, 153), (2, 105), (2, 153), (2, 154), (2, 155), (2, 156), (2, 107), (3, 18), (3, 9), (3, 10), (3, 11), (2, 135), (3, 12), (3, 13), (3, 14), (3, 15), (2, 120), (2, 119), (3, 16)] (by decide +kernel) ⟨by decide +kernel, by decide +kernel, by decide +kernel, by decide +kernel⟩ (by decide +kernel) (by decide +kernel)
set_option maxRecDepth 100000 in
theorem th94 : ThrG 94 98 7 Bundle.six "java/lang/IndexOutOfBoundsException" := ThrG.of [(2, 99), (1, 17), (1, 11), (2, 121), (2, 130), (2, 139), (2, 142), (2, 144), (2, 122), (2, 123), (1, 36), (1, 37), (2, 124), (2, 129), (2, 140), (2, 160), (2, 111), (2, 161), (2, 113), (2, 162), (2, 115), (2, 125), (2, 127), (2, 117), (2, 156), (2, 157), (2, 159), (2, 117), (2, 147), (2, 148), (2, 149), (2, 150), (2, 103), (2, 150), (2, 151), (2, 152), (2, 153), (2, 105), (2, 153), (2, 154), (2, 155), (2, 156), (2, 107), (2, 146), (2, 100), (2, 101), (2, 108), (2, 109), (2, 110), (2, 112), (2, 114), (2, 116), (2, 120), (2, 119), (2, 118)] (by decide +kernel) ⟨by decide +kernel, by decide +kernel, by decide +kernel, by decide +kernel⟩ (by decide +kernel) (by decide +kernel)
set_option maxRecDepth 100000 in
theorem th101 : ThrG 101 105 7 Bundle.six "java/lang/UnsupportedOperationException" := ThrG.of [(3, 85), (1, 19), (1, 11), (2, 121), (2, 130), (2, 139), (2, 142), (2, 144), (2, 122), (2, 123), (1, 36), (1, 37), (2, 124), (2, 129), (2, 140), (2, 160), (2, 111), (2, 161), (2, 113), (2, 162), (2, 115), (2, 125), (2, 127), (2, 117), (2, 156), (2, 157), (2, 159), (2, 117), (3, 96), (3, 97), (3, 98), (2, 150), (2, 103), (2, 150), (2, 151), (2, 152), (2, 153), (2, 105), (2, 153), (2, 154), (2, 155), (2, 156), (2, 107), (3, 95), (3, 86), (3, 87), (3, 88), (2, 137), (3, 89), (3, 90), (3, 91), (3, 92), (2, 120), (2, 119), (3, 93)] (by decide +kernel) ⟨by decide +kernel, by decide +kernel, by decide +kernel, by decide +kernel⟩ (by decide +kernel) (by decide +kernel)
set_option maxRecDepth 100000 in
theorem th358 : ThrG 358 362 7 Bundle.six "java/lang/ArithmeticException" := ThrG.of [(6, 235), (1, 29), (1, 11), (2, 121), (2, 130), (2, 139), (2, 142), (2, 144), (2, 122), (2, 123), (1, 36), (1, 37), (2, 124), (2, 129), (2, 140), (2, 160), (2, 111), (2, 161), (2, 113), (2, 162), (2, 115), (2, 125), (2, 127), (2, 117), (2, 156), (2, 157), (2, 159), (2, 117), (6, 219), (6, 220), (6, 221), (2, 150), (2, 103), (2, 150), (2, 151), (2, 152), (2, 153), (2, 105), (2, 153), (2, 154), (2, 155), (2, 156), (2, 107), (6, 237), (6, 218), (6, 229), (6, 230), (2, 132), (6, 224), (6, 225), (6, 227), (6, 223), (2, 120), (2, 119), (6, 222)] (by decide +kernel) ⟨by decide +kernel, by decide +kernel, by decide +kernel, by decide +kernel⟩ (by decide +kernel) (by decide +kernel)
set_option maxRecDepth 100000 in
theorem th153 : ThrG 153 157 13 prog_35_method_4_code "java/util/NoSuchElementException" := ThrG.of [(3, 192), (1, 20), (1, 11), (2, 121), (2, 130), (2, 139), (2, 142), (2, 144), (2, 122), (2, 123), (1, 36), (1, 37), (2, 124), (2, 129), (2, 140), (2, 160), (2, 111), (2, 161), (2, 113), (2, 162), (2, 115), (2, 125), (2, 127), (2, 117), (2, 156), (2, 157), (2, 159), (2, 117), (3, 203), (3, 204), (3, 205), (2, 150), (2, 103), (2, 150), (2, 151), (2, 152), (2, 153), (2, 105), (2, 153), (2, 154), (2, 155), (2, 156), (2, 107), (3, 202), (3, 193), (3, 195), (2, 138), (3, 196), (3, 197), (3, 198), (3, 199), (2, 120), (2, 119), (3, 200)] (by decide +kernel) ⟨by decide +kernel, by decide +kernel, by decide +kernel, by decide +kernel⟩ (by decide +kernel) (by decide +kernel)
theorem yx_throw {p : Program} {l : Launch} {e : Env} {R : Room} {s : State} {m : MethodId} {args : Array Value} {below : List Frame} {meth : Method} {c : Code} {H : Heap} {locs : List Loc} {cells slots : Nat} {free : Addr → Prop} {ls : Array Slot} {rest : List Value} {Qc : Array Value → State → Outcome → State → Prop} {XC : String → State → State → Prop} {cc : ByteArray} {pc : Nat} (hexec : p.tables.exec = Jvm.exec) (hb : c.code = cc) (hl : l.stackTraces = false) {own cls text Y0 : String} {r : List String} {ik is ic ix mc ms sa : Nat} {rx : ByteArray} {A : Nat → Prop}
    (hx4 : decode rx 0 = .ok (.aload_n 0, 1) ∧ decode rx 1 = .ok (.aload_n 1, 1) ∧ decode rx 2 = .ok (.invokespecial ix, 3) ∧ decode rx 5 = .ok (.return_, 1))
    (hown : s.vm.findClass own = some m.cls) (hcls : Bundle.fit cls = true) (hY0 : Bundle.fit Y0 = true) (hnames : ∀ n ∈ r, Bundle.fit n = true)
    (hk : (Cond.classLink own ik cls).before args s = true) (hini : (Cond.initialized cls).before args s = true) (hstr : vk_R own is text sa s) (hat : ∀ w ∈ yx_at own ic cls Y0 ix rx r, w.before args s = true)
    (hgood : ∀ w ∈ Cond.classLink own ik cls :: Cond.initialized cls :: yx_at own ic cls Y0 ix rx r, vx_ot w = true)
    (hU : vx_Zq Bundle.tN "UNASSIGNED_STACK" Bundle.steD A s s.heap) (hN : vx_Zq Bundle.tN "SUPPRESSED_SENTINEL" Bundle.listD A s s.heap) (hS : va_S A s.heap H locs) (hsize : ls.size = c.maxLocals)
    (d0 : decode cc pc = .ok (.new ik, 3)) (d3 : decode cc (pc + 3) = .ok (.dup, 1)) (d4 : decode cc (pc + 4) = .ok (.ldc is, 2)) (d6 : decode cc (pc + 6) = .ok (.invokespecial ic, 3)) (d9 : decode cc (pc + 9) = .ok (.athrow, 1))
    (hout : ∀ x ∈ c.exceptionTable.toList, covers x (pc + 9) = false)
    (hRframes : r.length + 4 < R.frames) (hRlocals : (rest.map fun v => v.category).sum + (13 * (r.length + 2) + 43) ≤ R.locals) (hRcells : cells + 1 ≤ R.cells) (hRslots : slots + 6 ≤ R.slots) (hlocks : meth.locks = false)
    (hx : ∀ t : State, s.vm.Alike t.vm → H.size ≤ t.heap.size → (∀ q : Nat, q < H.size → t.heap[q]? = H[q]?) → XC cls s t)
    (hf : ∀ z ∈ locs, free z.base) (hc : cells + 1 ≤ mc) (hs : slots + 6 ≤ ms) :
    W p l e R s m args below meth c H locs cells slots (vx_MQ below Qc XC args s mc ms free) (F0 m pc ls rest) := by
  intro T hT X
  have htr : e.platform.stackTraces = false := (show e.platform.stackTraces = l.stackTraces by rw [X.admits.platform]).trans hl
  have Y := vx_rebase X (R' := { frames := R.frames, locals := R.locals, cells := 1, slots := 6 }) (Nat.le_refl _) (Nat.le_refl _) hRcells hRslots
  obtain ⟨s', hA⟩ : ∃ z, z = (T.setVm s.vm).setFrames (.invoking m args :: below) := ⟨_, rfl⟩
  rw [← hA] at Y
  have hvm : s'.vm = s.vm := by rw [hA]; rfl
  have hhp : s'.heap = H := by rw [hA]; exact hT
  have hW0 : s.WarmedH s'.vm := by rw [hvm]; exact State.WarmedH.refl s
  have hat' : ∀ w ∈ yx_at own ic cls Y0 ix rx r, w.before args s' = true := fun w hw => vx_ot_at hW0 hvm.symm (hgood w (List.mem_cons_of_mem _ (List.mem_cons_of_mem _ hw))) (hat w hw)
  have hk' : (Cond.classLink own ik cls).before args s' = true := vx_ot_at hW0 hvm.symm (hgood _ List.mem_cons_self) hk
  have hini' : (Cond.initialized cls).before args s' = true := vx_ot_at hW0 hvm.symm (hgood _ (List.mem_cons_of_mem _ List.mem_cons_self)) hini
  have hU' : vx_Zq Bundle.tN "UNASSIGNED_STACK" Bundle.steD A s' s'.heap := by rw [hhp]; exact vx_Zq.moved hW0.alike (hU.kept hS.2.1)
  have hN' : vx_Zq Bundle.tN "SUPPRESSED_SENTINEL" Bundle.listD A s' s'.heap := by rw [hhp]; exact vx_Zq.moved hW0.alike (hN.kept hS.2.1)
  have h : ∀ w ∈ yx_words own ic cls Y0 ix rx r, w.before args s' = true := vx_own hat' (vx_isRefq hU'.1) (vx_isRefq hN'.1) hU'.2.word hN'.2.word
  have hown' : s'.vm.findClass own = some m.cls := by rw [hvm]; exact hown
  have hins : (Cond.instantiable cls 6).before args s' = true := h _ (by simp [yx_words])
  obtain ⟨vm₁, cX, kX, hfX, hkX, -, -, X₁, st1⟩ := Y.newCold hexec (own := own) (C := cls) (index := ik) (n := 6) hown' hk' hins hini'
    (g := F0 m pc ls rest) rfl (by rw [hb]; exact d0) (Nat.le_refl _) (Nat.le_refl _)
  generalize hT1 : (T.setVm vm₁).pushCell { cls := cX, slots := kX.instanceTypes.map defaultValue, vm := .none } = T1 at X₁ st1
  have hcat : (Value.ref T.heap.size).category = 1 := rfl
  have hcellA : T1.heap[T.heap.size]? = some (freshCell cX kX) := by rw [← hT1]; exact State.heap_pushCell_size _ _
  have d3' : decode c.code (pc + 3) = .ok (.dup, 1) := by rw [hb]; exact d3
  have d4' : decode c.code (pc + 4) = .ok (.ldc is, 2) := by rw [hb]; exact d4
  have hstr' : vk_R own is text sa s' := vk_R.warm hW0 hstr
  obtain ⟨U, hsteps, hrun, hend, hW, hsame, ce, hce, hO1, hO2⟩ := yx_ctor X₁ hexec htr (own := own) (cls := cls) (Y0 := Y0) (r := r) (ic := ic) hx4.1 hx4.2.1 hx4.2.2.1 hx4.2.2.2 hown' hcls hY0 hnames h (fun x hx => nomatch hx) hfX hkX hcellA (by rw [hhp, hT]; exact Nat.le_refl _) (msg := .ref sa) rfl
    (g := { method := m, pc := pc + 6, locals := ls, stack := .ref sa :: .ref T.heap.size :: .ref T.heap.size :: rest, locked := none }) rfl hsize rfl rfl (rest := rest) rfl
    (by rw [hb]; exact d6) (by rw [hb]; exact d9) hout hRframes (by simp only [List.map_cons, List.sum_cons, hcat]; omega) hlocks
  obtain ⟨f1, f2⟩ := vx_frame hsame
  rw [hhp] at f1 f2
  have hWs : s.WarmedH U.vm := State.WarmedH.trans hW0 hW
  have hcl : s.vm.findClass cls = some ce.cls := by
    rw [hvm] at hO2
    exact hO2
  have hall : s.sameButNew ({ U with vm := s.vm } : State) locs mc ms := by
    subst hA
    obtain ⟨e1, e2⟩ := hsame
    rw [State.setFrames_setFrames] at e1
    have h2 : (T.setVm s.vm).sameButNew ({ U with vm := s.vm } : State) [] (0 + 1) (0 + 6) := ⟨e1, e2⟩
    have h3 := X.same.trans h2
    rw [List.append_nil] at h3
    exact h3.mono hc hs
  refine ⟨U, ?_, .threw T.heap.size, hrun, hend, Or.inr ⟨T.heap.size, rfl, cls, ce, locs, hx U hWs.alike f1 (fun q hq => f2 q hq (fun z hz => nomatch hz)), hce, hO1, hcl, hWs, hall, hf⟩⟩
  refine st1 _ ?_
  show Steps p.tables e below (T1.setTop { method := m, pc := pc + 3, locals := ls, stack := .ref T.heap.size :: rest, locked := none }) _
  jvm_step X₁.here [X₁.here.top, hexec, d3', Value.category]
  exact X₁.ldcString hexec (own := own) (text := text) (index := is) (a := sa) hown' hstr'.1 hstr'.2
    (g := { method := m, pc := pc + 4, locals := ls, stack := .ref T.heap.size :: .ref T.heap.size :: rest, locked := none }) rfl d4' _ hsteps
theorem yx_throwW {p : Program} {l : Launch} {e : Env} {R : Room} {s : State} {m : MethodId} {args : Array Value} {below : List Frame} {meth : Method} {c : Code} {H : Heap} {locs : List Loc} {cells slots : Nat} {free : Addr → Prop} {ls : Array Slot} {rest : List Value} {Qc : Array Value → State → Outcome → State → Prop} {XC : String → State → State → Prop} {cc : ByteArray} {pc : Nat} (hexec : p.tables.exec = Jvm.exec) (hb : c.code = cc) (hl : l.stackTraces = false) {own cls text Y0 : String} {r : List String} {ik is ic ix mc ms sa : Nat} {rx : ByteArray} {A : Nat → Prop}
    (hx4 : decode rx 0 = .ok (.aload_n 0, 1) ∧ decode rx 1 = .ok (.aload_n 1, 1) ∧ decode rx 2 = .ok (.invokespecial ix, 3) ∧ decode rx 5 = .ok (.return_, 1))
    (hown : s.vm.findClass own = some m.cls) (hcls : Bundle.fit cls = true) (hY0 : Bundle.fit Y0 = true) (hnames : ∀ n ∈ r, Bundle.fit n = true)
    (hk : (Cond.classLink own ik cls).before args s = true) (hini : (Cond.initialized cls).before args s = true) (hstr : vk_R own is text sa s) (hat : ∀ w ∈ yx_at own ic cls Y0 ix rx r, w.before args s = true)
    (hgood : ∀ w ∈ Cond.classLink own ik cls :: Cond.initialized cls :: yx_at own ic cls Y0 ix rx r, vx_ot w = true)
    (hU : vx_Zq Bundle.tN "UNASSIGNED_STACK" Bundle.steD A s s.heap) (hN : vx_Zq Bundle.tN "SUPPRESSED_SENTINEL" Bundle.listD A s s.heap) (hS : va_S A s.heap H locs) (hsize : ls.size = c.maxLocals)
    (d0 : decode cc pc = .ok (.new ik, 3)) (d3 : decode cc (pc + 3) = .ok (.dup, 1)) (d4 : decode cc (pc + 4) = .ok (.ldc_w is, 3)) (d6 : decode cc (pc + 7) = .ok (.invokespecial ic, 3)) (d9 : decode cc (pc + 10) = .ok (.athrow, 1))
    (hout : ∀ x ∈ c.exceptionTable.toList, covers x (pc + 10) = false)
    (hRframes : r.length + 4 < R.frames) (hRlocals : (rest.map fun v => v.category).sum + (13 * (r.length + 2) + 43) ≤ R.locals) (hRcells : cells + 1 ≤ R.cells) (hRslots : slots + 6 ≤ R.slots) (hlocks : meth.locks = false)
    (hx : ∀ t : State, s.vm.Alike t.vm → H.size ≤ t.heap.size → (∀ q : Nat, q < H.size → t.heap[q]? = H[q]?) → XC cls s t)
    (hf : ∀ z ∈ locs, free z.base) (hc : cells + 1 ≤ mc) (hs : slots + 6 ≤ ms) :
    W p l e R s m args below meth c H locs cells slots (vx_MQ below Qc XC args s mc ms free) (F0 m pc ls rest) := by
  intro T hT X
  have htr : e.platform.stackTraces = false := (show e.platform.stackTraces = l.stackTraces by rw [X.admits.platform]).trans hl
  have Y := vx_rebase X (R' := { frames := R.frames, locals := R.locals, cells := 1, slots := 6 }) (Nat.le_refl _) (Nat.le_refl _) hRcells hRslots
  obtain ⟨s', hA⟩ : ∃ z, z = (T.setVm s.vm).setFrames (.invoking m args :: below) := ⟨_, rfl⟩
  rw [← hA] at Y
  have hvm : s'.vm = s.vm := by rw [hA]; rfl
  have hhp : s'.heap = H := by rw [hA]; exact hT
  have hW0 : s.WarmedH s'.vm := by rw [hvm]; exact State.WarmedH.refl s
  have hat' : ∀ w ∈ yx_at own ic cls Y0 ix rx r, w.before args s' = true := fun w hw => vx_ot_at hW0 hvm.symm (hgood w (List.mem_cons_of_mem _ (List.mem_cons_of_mem _ hw))) (hat w hw)
  have hk' : (Cond.classLink own ik cls).before args s' = true := vx_ot_at hW0 hvm.symm (hgood _ List.mem_cons_self) hk
  have hini' : (Cond.initialized cls).before args s' = true := vx_ot_at hW0 hvm.symm (hgood _ (List.mem_cons_of_mem _ List.mem_cons_self)) hini
  have hU' : vx_Zq Bundle.tN "UNASSIGNED_STACK" Bundle.steD A s' s'.heap := by rw [hhp]; exact vx_Zq.moved hW0.alike (hU.kept hS.2.1)
  have hN' : vx_Zq Bundle.tN "SUPPRESSED_SENTINEL" Bundle.listD A s' s'.heap := by rw [hhp]; exact vx_Zq.moved hW0.alike (hN.kept hS.2.1)
  have h : ∀ w ∈ yx_words own ic cls Y0 ix rx r, w.before args s' = true := vx_own hat' (vx_isRefq hU'.1) (vx_isRefq hN'.1) hU'.2.word hN'.2.word
  have hown' : s'.vm.findClass own = some m.cls := by rw [hvm]; exact hown
  have hins : (Cond.instantiable cls 6).before args s' = true := h _ (by simp [yx_words])
  obtain ⟨vm₁, cX, kX, hfX, hkX, -, -, X₁, st1⟩ := Y.newCold hexec (own := own) (C := cls) (index := ik) (n := 6) hown' hk' hins hini'
    (g := F0 m pc ls rest) rfl (by rw [hb]; exact d0) (Nat.le_refl _) (Nat.le_refl _)
  generalize hT1 : (T.setVm vm₁).pushCell { cls := cX, slots := kX.instanceTypes.map defaultValue, vm := .none } = T1 at X₁ st1
  have hcat : (Value.ref T.heap.size).category = 1 := rfl
  have hcellA : T1.heap[T.heap.size]? = some (freshCell cX kX) := by rw [← hT1]; exact State.heap_pushCell_size _ _
  have d3' : decode c.code (pc + 3) = .ok (.dup, 1) := by rw [hb]; exact d3
  have d4' : decode c.code (pc + 4) = .ok (.ldc_w is, 3) := by rw [hb]; exact d4
  have hstr' : vk_R own is text sa s' := vk_R.warm hW0 hstr
  obtain ⟨U, hsteps, hrun, hend, hW, hsame, ce, hce, hO1, hO2⟩ := yx_ctor X₁ hexec htr (own := own) (cls := cls) (Y0 := Y0) (r := r) (ic := ic) hx4.1 hx4.2.1 hx4.2.2.1 hx4.2.2.2 hown' hcls hY0 hnames h (fun x hx => nomatch hx) hfX hkX hcellA (by rw [hhp, hT]; exact Nat.le_refl _) (msg := .ref sa) rfl
    (g := { method := m, pc := pc + 7, locals := ls, stack := .ref sa :: .ref T.heap.size :: .ref T.heap.size :: rest, locked := none }) rfl hsize rfl rfl (rest := rest) rfl
    (by rw [hb]; exact d6) (by rw [hb]; exact d9) hout hRframes (by simp only [List.map_cons, List.sum_cons, hcat]; omega) hlocks
  obtain ⟨f1, f2⟩ := vx_frame hsame
  rw [hhp] at f1 f2
  have hWs : s.WarmedH U.vm := State.WarmedH.trans hW0 hW
  have hcl : s.vm.findClass cls = some ce.cls := by
    rw [hvm] at hO2
    exact hO2
  have hall : s.sameButNew ({ U with vm := s.vm } : State) locs mc ms := by
    subst hA
    obtain ⟨e1, e2⟩ := hsame
    rw [State.setFrames_setFrames] at e1
    have h2 : (T.setVm s.vm).sameButNew ({ U with vm := s.vm } : State) [] (0 + 1) (0 + 6) := ⟨e1, e2⟩
    have h3 := X.same.trans h2
    rw [List.append_nil] at h3
    exact h3.mono hc hs
  refine ⟨U, ?_, .threw T.heap.size, hrun, hend, Or.inr ⟨T.heap.size, rfl, cls, ce, locs, hx U hWs.alike f1 (fun q hq => f2 q hq (fun z hz => nomatch hz)), hce, hO1, hcl, hWs, hall, hf⟩⟩
  refine st1 _ ?_
  show Steps p.tables e below (T1.setTop { method := m, pc := pc + 3, locals := ls, stack := .ref T.heap.size :: rest, locked := none }) _
  jvm_step X₁.here [X₁.here.top, hexec, d3', Value.category]
  exact X₁.ldcStringW hexec (own := own) (text := text) (index := is) (a := sa) hown' hstr'.1 hstr'.2
    (g := { method := m, pc := pc + 4, locals := ls, stack := .ref T.heap.size :: .ref T.heap.size :: rest, locked := none }) rfl d4' _ hsteps
section LT
variable {E : Ev} {X : Cx0} {μ : Mth} {Q : State → Prop} {pc q : Nat} {ls st : List Value} {M : Hp} {nc ns : Nat} {P : Option Value → Hp → Prop} {PX : String → Hp → Prop}
theorem thr_xc {E : Ev} {PX : String → Hp → Prop} {x : String} {s : State} {H : Heap} {locs : List Loc} {M : Hp} (hp : PX x M) (hR : Rel E M H) (hS : va_S (AE E) s.heap H locs) : ∀ t : State, s.vm.Alike t.vm → H.size ≤ t.heap.size → (∀ q : Nat, q < H.size → t.heap[q]? = H[q]?) → XcM E PX x s t := by
  intro t _ h1 h2
  exact ⟨⟨M, hp, hR.kept h2⟩, Nat.le_trans hS.1 h1, fun q hq ha => (h2 q (Nat.lt_of_lt_of_le hq hS.1)).trans (hS.2.1 q hq ha)⟩
theorem gq_throw (hX : Cx E X μ) (hQ : Q = EndX E X P PX) {ik ic ix is : Nat} {rx : ByteArray} {x text : String} (hcls : μ.1.cls = "KiteTailRental") (hth : ThrG ik ic ix rx x) (hh : μ.2.2.2.2.2.2 = []) (htx : ("KiteTailRental", is, text) ∈ stC)
    (d0 : decode μ.2.1 pc = .ok (.new ik, 3)) (d3 : decode μ.2.1 (pc + 3) = .ok (.dup, 1)) (d4 : decode μ.2.1 (pc + 4) = .ok (.ldc is, 2)) (d6 : decode μ.2.1 (pc + 6) = .ok (.invokespecial ic, 3)) (d9 : decode μ.2.1 (pc + 9) = .ok (.athrow, 1))
    (hw : (st.map fun v => v.category).sum ≤ 8) (hd : 6 ≤ μ.2.2.2.2.2.1) (hnc : 1 ≤ nc) (hns : 6 ≤ ns) (hp : PX x M) : Gq E X μ Q pc ls st M nc ns := by
  subst hQ
  intro H locs cells slots lsR hR hS hL h1 h2
  obtain ⟨sa, hsa⟩ := hX.ge.2.2.2.2.1 _ htx
  have hok := hth.ok hX
  have hgd := fun w hw2 => (hth.2.2 w hw2).2.2
  have hown := hX.own
  rw [hcls] at hown
  obtain ⟨-, -, -, -, -, -, -, -, -, -, g1, g2⟩ := id hX
  have hout : ∀ z ∈ X.2.2.2.2.2.2.2.2.exceptionTable.toList, covers z (pc + 9) = false := by
    intro z hz
    rw [hX.2.2.2.2.2.2.2.1, hh] at hz
    cases hz
  by_cases h7 : ix = 7
  · have e7 : thrW ik ic ix rx x = Cond.classLink "KiteTailRental" ik x :: Cond.initialized x :: vx_atS "KiteTailRental" ic x ["java/lang/RuntimeException", "java/lang/Exception"] := by
      unfold thrW
      rw [if_pos h7]
    rw [e7] at hok hgd
    exact vx_throwS hX.1 hX.2.1 hX.ge.1 hown hth.1 (by decide +kernel) (hok _ List.mem_cons_self) (hok _ (List.mem_cons_of_mem _ List.mem_cons_self)) hsa (fun w hw2 => hok w (List.mem_cons_of_mem _ (List.mem_cons_of_mem _ hw2))) hgd hX.ge.2.2.2.1.1 hX.ge.2.2.2.1.2.1 hS (hL.1.trans hX.2.2.1.symm) d0 d3 d4 d6 d9 hout (by show 2 + 3 < _; omega) (by show _ + (13 * (2 + 1) + 43) ≤ _; omega) (by omega) (by omega) hX.2.2.2.2.2.1 (thr_xc hp hR hS) hS.2.2 (by omega) (by omega)
  · have e7 : thrW ik ic ix rx x = Cond.classLink "KiteTailRental" ik x :: Cond.initialized x :: yx_at "KiteTailRental" ic x "java/lang/RuntimeException" ix rx ["java/lang/Exception"] := by
      unfold thrW
      rw [if_neg h7]
    rw [e7] at hok hgd
    exact yx_throw hX.1 hX.2.1 hX.ge.1 hth.2.1 hown hth.1 (by decide +kernel) (by decide +kernel) (hok _ List.mem_cons_self) (hok _ (List.mem_cons_of_mem _ List.mem_cons_self)) hsa (fun w hw2 => hok w (List.mem_cons_of_mem _ (List.mem_cons_of_mem _ hw2))) hgd hX.ge.2.2.2.1.1 hX.ge.2.2.2.1.2.1 hS (hL.1.trans hX.2.2.1.symm) d0 d3 d4 d6 d9 hout (by show 1 + 4 < _; omega) (by show _ + (13 * (1 + 2) + 43) ≤ _; omega) (by omega) (by omega) hX.2.2.2.2.2.1 (thr_xc hp hR hS) hS.2.2 (by omega) (by omega)
theorem gq_throwW (hX : Cx E X μ) (hQ : Q = EndX E X P PX) {ik ic ix is : Nat} {rx : ByteArray} {x text : String} (hcls : μ.1.cls = "KiteTailRental") (hth : ThrG ik ic ix rx x) (hh : μ.2.2.2.2.2.2 = []) (htx : ("KiteTailRental", is, text) ∈ stC)
    (d0 : decode μ.2.1 pc = .ok (.new ik, 3)) (d3 : decode μ.2.1 (pc + 3) = .ok (.dup, 1)) (d4 : decode μ.2.1 (pc + 4) = .ok (.ldc_w is, 3)) (d6 : decode μ.2.1 (pc + 7) = .ok (.invokespecial ic, 3)) (d9 : decode μ.2.1 (pc + 10) = .ok (.athrow, 1))
    (hw : (st.map fun v => v.category).sum ≤ 8) (hd : 6 ≤ μ.2.2.2.2.2.1) (hnc : 1 ≤ nc) (hns : 6 ≤ ns) (hp : PX x M) : Gq E X μ Q pc ls st M nc ns := by
  subst hQ
  intro H locs cells slots lsR hR hS hL h1 h2
  obtain ⟨sa, hsa⟩ := hX.ge.2.2.2.2.1 _ htx
  have hok := hth.ok hX
  have hgd := fun w hw2 => (hth.2.2 w hw2).2.2
  have hown := hX.own
  rw [hcls] at hown
  obtain ⟨-, -, -, -, -, -, -, -, -, -, g1, g2⟩ := id hX
  have hout : ∀ z ∈ X.2.2.2.2.2.2.2.2.exceptionTable.toList, covers z (pc + 10) = false := by
    intro z hz
    rw [hX.2.2.2.2.2.2.2.1, hh] at hz
    cases hz
  by_cases h7 : ix = 7
  · have e7 : thrW ik ic ix rx x = Cond.classLink "KiteTailRental" ik x :: Cond.initialized x :: vx_atS "KiteTailRental" ic x ["java/lang/RuntimeException", "java/lang/Exception"] := by
      unfold thrW
      rw [if_pos h7]
    rw [e7] at hok hgd
    exact vx_throwSW hX.1 hX.2.1 hX.ge.1 hown hth.1 (by decide +kernel) (hok _ List.mem_cons_self) (hok _ (List.mem_cons_of_mem _ List.mem_cons_self)) hsa (fun w hw2 => hok w (List.mem_cons_of_mem _ (List.mem_cons_of_mem _ hw2))) hgd hX.ge.2.2.2.1.1 hX.ge.2.2.2.1.2.1 hS (hL.1.trans hX.2.2.1.symm) d0 d3 d4 d6 d9 hout (by show 2 + 3 < _; omega) (by show _ + (13 * (2 + 1) + 43) ≤ _; omega) (by omega) (by omega) hX.2.2.2.2.2.1 (thr_xc hp hR hS) hS.2.2 (by omega) (by omega)
  · have e7 : thrW ik ic ix rx x = Cond.classLink "KiteTailRental" ik x :: Cond.initialized x :: yx_at "KiteTailRental" ic x "java/lang/RuntimeException" ix rx ["java/lang/Exception"] := by
      unfold thrW
      rw [if_neg h7]
    rw [e7] at hok hgd
    exact yx_throwW hX.1 hX.2.1 hX.ge.1 hth.2.1 hown hth.1 (by decide +kernel) (by decide +kernel) (hok _ List.mem_cons_self) (hok _ (List.mem_cons_of_mem _ List.mem_cons_self)) hsa (fun w hw2 => hok w (List.mem_cons_of_mem _ (List.mem_cons_of_mem _ hw2))) hgd hX.ge.2.2.2.1.1 hX.ge.2.2.2.1.2.1 hS (hL.1.trans hX.2.2.1.symm) d0 d3 d4 d6 d9 hout (by show 1 + 4 < _; omega) (by show _ + (13 * (1 + 2) + 43) ≤ _; omega) (by omega) (by omega) hX.2.2.2.2.2.1 (thr_xc hp hR hS) hS.2.2 (by omega) (by omega)
/-- a method with handlers -/
theorem CtH.of {av : List Value} {mc ms : Nat} (hm : MthH μ) {ls : List Value} (hls : lsI av μ.2.2.1 = ls) (hc : av.all (fun v => v.category == 1) = true) (hn : av.length ≤ μ.2.2.1) (body : ∀ (X : Cx0), Cx E X μ → ∀ Q, EndOf E X P Q → Gq E X μ Q 0 ls [] M mc ms) : CtH E μ av M P mc ms := by
  subst hls
  unfold CtH Met
  refine MetFree.of_bodyS (code := μ.2.1) (maxLocals := μ.2.2.1) (ret := μ.2.2.2.1) hm.1 ?_ ?_
  · intro args s m h hn
    obtain ⟨m9, meth, c, hn9, h1, h2, h3, h4, -, h5, h6, -⟩ := Cond.codeWith_spec (atoms_spec (ws := wsH μ) h _ List.mem_cons_self)
    cases hn.symm.trans hn9
    exact ⟨meth, c, h1, h2, h3, h4, h5, h6⟩
  · intro p e s m args below meth c s₁ B hml hv _
    obtain ⟨rfl, hG, hR⟩ := hv
    have hts := atoms_spec (ws := wsH μ) B.pre
    have ht : c.exceptionTable.toList = tableOf μ.2.2.2.2.2.2 := vx_table (x := μ.1) B (hts _ List.mem_cons_self)
    have hX : Cx E (p, e, rmM μ mc ms, s, m, av.toArray, below, meth, c) μ := ⟨B.exec, B.bytes, hml, findClass_of_methodNamed B.named, fun w hw => hts w (List.mem_cons_of_mem _ hw), B.notSynchronized, B.returns, ht, (name_of_methodNamed B.named B.method).1, hG, Nat.le_refl _, Nat.le_refl _⟩
    have k := body (p, e, rmM μ mc ms, s, m, av.toArray, below, meth, c) hX _ (Or.inl rfl) s.heap [] 0 0 _ hR va_S.rf (lvP_init (n := μ.2.2.1) (fun v hv => by simpa using List.all_eq_true.mp hc v hv) hn) (by show 0 + mc ≤ mc; omega) (by show 0 + ms ≤ ms; omega)
    rw [← lg_entry_eq] at k
    have hh0 : s₁.heap = s.heap := by rw [B.state]; rfl
    obtain ⟨t, a1, o, b1, b2, b3⟩ := k s₁ hh0 (Stand.of_body B)
    exact ⟨t, o, a1, b1, b2, ⟨b3.1, b3.2⟩⟩
def CallH (own : String) (idx : Nat) (μ2 : Mth) : Prop := MthH μ2 ∧ Cond.methodLink own idx μ2.1 ∈ goodT ∧ Cond.static μ2.1 ∈ goodT
theorem gq_callH (hX : Cx E X μ) {idx : Nat} {μ2 : Mth} {As rest : List Value} {mc ms nc1 ns1 : Nat} (d : decode μ.2.1 pc = .ok (.invokestatic idx, 3)) (hc : CallH μ.1.cls idx μ2) (hct : CtH E μ2 As M P mc ms) (hst : st = As.reverse ++ rest) (hnp : As.length = μ2.2.2.2.2.1) (hw : (rest.map fun v => v.category).sum ≤ 8) (hd : μ2.2.2.2.2.2.1 < μ.2.2.2.2.2.1 ∧ μ2.2.2.1 ≤ 45) (hnc : mc + nc1 = nc) (hns : ms + ns1 = ns)
    (kk : ∀ (v : Option Value) (M1 : Hp), P v M1 → Gq E X μ Q (pc + 3) ls (v.toList ++ rest) M1 nc1 ns1) : Gq E X μ Q pc ls st M nc ns := by
  refine gq_run hnc hns kk (a := As.toArray) ?_
  intro H locs cells slots lsR hR hS hL h1 h2
  obtain ⟨hm, hl, hs⟩ := hc
  have hgi : GoodIn goodT (va_wsS μ.1.cls idx μ2.1 (wsH μ2)) := by
    refine goodT_in ?_
    intro w hw
    unfold va_wsS at hw
    rcases List.mem_append.mp hw with h | h
    · simp only [List.mem_cons, List.not_mem_nil, or_false] at h
      rcases h with rfl | rfl | rfl
      · exact hl
      · exact hs
      · exact hm.2.2.1
    · exact (List.mem_cons.mp h).elim (fun e => by rw [e]; exact hm.2.1) id
  have hcw := vx_cwSW (s := X.2.2.2.1) (args := X.2.2.2.2.2.1) (R := X.2.2.1) (own := μ.1.cls) (index := idx) (y := μ2.1) (bytes := μ2.2.1) (maxL := μ2.2.2.1) (ret := μ2.2.2.2.1) (hh := μ2.2.2.2.2.2.2) (ws := wsH μ2) (rm := rmM μ2 mc ms) (mc := mc) (ms := ms) μ2.2.2.2.2.1 hX.good hgi rfl rfl rfl ⟨hm.2.2.2.1.1, hm.2.2.2.1.2, hm.2.2.2.2⟩ (room_lt hX hd)
  exact vx_runSW (As := As) (rest := rest) (n := μ2.2.2.2.2.1) ⟨hX.1, hX.2.1, hX.2.2.1, hX.own, hX.good⟩ hct hcw ⟨PcM.blind, fun U hU hW => PcM.pre hX hR hS hU hW⟩ rfl hnp hL.1 hst (lv_room hw) d ⟨by omega, by omega⟩
end LT
