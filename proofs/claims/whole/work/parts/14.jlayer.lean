def tSB : String := "java/lang/StringBuilder"
def tAS : String := "java/lang/AbstractStringBuilder"
def tST : String := "java/lang/String"
theorem isL_sel : Cond.selects tSB yJ5_isLatin1_aae02 yJ5_isLatin1_aae02 ∈ goodT := in5 66 rfl rfl
theorem sel_sb {s : State} {args : Array Value} {y : MethodName} (hg : ∀ w ∈ goodT, w.before args s = true) (hcls : y.cls = tAS) (hp : (Cond.privateMethod y).before args s = true) (hi : Cond.instanceMethod y ∈ goodT) : (Cond.selects tSB y y).before args s = true := by
  obtain ⟨c, r, m, q1, q2, q3, q4, mk, q5, q6⟩ := Cond.selects_spec (hg _ isL_sel)
  obtain ⟨mk2, methM, hnamed, hmethM, -, -⟩ := Cond.instanceMethod_spec (hg _ hi)
  have hy : y.cls ≠ "java/lang/invoke/MethodHandle" ∧ y.cls ≠ "java/lang/invoke/VarHandle" := by rw [hcls]; exact ⟨by decide, by decide⟩
  have hfound : s.methodFound? y.cls y.name y.desc = some mk2 := State.methodFound?_of_named hnamed hy
  have e : mk2.cls = m.cls := by
    have a1 := findClass_of_methodNamed hnamed
    have a2 := findClass_of_methodNamed q3
    rw [hcls] at a1
    exact Option.some.inj (a1.symm.trans a2)
  have hsel : selectMethod {} s.vm c mk2 = .method mk2 := selectMethod_private hmethM (Cond.privateMethod_at hp mk2 methM hnamed hmethM)
  rw [← e] at q5
  simp only [Cond.before, Cond.holds, Cond.value, q1, hfound, hnamed, hsel, q5]
  simp; exact q6
section LJ
variable {E : Ev} {X : Cx0} {μ : Mth} {Q : State → Prop} {pc q : Nat} {ls st : List Value} {M : Hp} {nc ns : Nat} {P : Option Value → Hp → Prop}
/-- an inherited method of the StringBuilder, called from AbstractStringBuilder's own code -/
def CallU (own : String) (idx : Nat) (μ2 : Mth) : Prop := MthG μ2 ∧ Cond.methodLink own idx μ2.1 ∈ goodT ∧ Cond.sameMethod μ2.1.cls μ2.1.cls μ2.1.name μ2.1.desc ∈ goodT ∧ Cond.instanceMethod μ2.1 ∈ goodT ∧ (Cond.selects tSB μ2.1 μ2.1 ∈ goodT ∨ Cond.privateMethod μ2.1 ∈ nwT) ∧ μ2.1.cls = tAS
/-- a call of the super class's method -/
def CallZ (own : String) (idx : Nat) (μ2 : Mth) : Prop := MthG μ2 ∧ Cond.methodLink own idx μ2.1 ∈ goodT ∧ Cond.sameMethod μ2.1.cls μ2.1.cls μ2.1.name μ2.1.desc ∈ goodT ∧ Cond.superclass own μ2.1.cls ∈ goodT ∧ Cond.instanceMethod μ2.1 ∈ goodT ∧ μ2.1.name ≠ "<init>"
theorem gq_callU (hX : Cx E X μ) {idx a : Nat} {μ2 : Mth} {As rest fs : List Value} {mc ms nc1 ns1 : Nat} (d : decode μ.2.1 pc = .ok (.invokevirtual idx, 3)) (hc : CallU μ.1.cls idx μ2) (hct : Ct E μ2 (.ref a :: As) M P mc ms) (hst : st = As.reverse ++ .ref a :: rest) (hM : M a = some (.inr (1, fs))) (hnp : As.length = μ2.2.2.2.2.1) (hw : (rest.map fun v => v.category).sum ≤ 8) (hd : μ2.2.2.2.2.2.1 < μ.2.2.2.2.2.1 ∧ μ2.2.2.1 ≤ 45) (hnc : mc + nc1 = nc) (hns : ms + ns1 = ns)
    (kk : ∀ (v : Option Value) (M1 : Hp), P v M1 → Gq E X μ Q (pc + 3) ls (v.toList ++ rest) M1 nc1 ns1) : Gq E X μ Q pc ls st M nc ns := by
  refine gq_run hnc hns kk (a := (Value.ref a :: As).toArray) ?_
  intro H locs cells slots lsR hR hS hL h1 h2
  obtain ⟨hm, hl, hsm, hi, hsel, hcls⟩ := hc
  have hrecv := va_recv hX.know (hR.one hM) (q0 := 0) (ci := 1) rfl rfl
  have hsel2 : (Cond.selects tSB μ2.1 μ2.1).before X.2.2.2.2.2.1 X.2.2.2.1 = true := hsel.elim (fun h => hX.good _ h) (fun h => sel_sb hX.good hcls (va_Nw.use rfl (hX.ge.2.2.2.2.2.2.1 _ h)) hi)
  obtain ⟨r1, r2⟩ := room_lt (mc := mc) (ms := ms) hX hd
  have hcw : va_CU X.2.2.1 X.2.2.2.1 X.2.2.2.2.2.1 μ.1.cls tSB tAS idx μ2.1 μ2.1 μ2.2.1 μ2.2.2.1 μ2.2.2.2.1 (wsM μ2) (rmM μ2 mc ms) mc ms μ2.2.2.2.2.1 := by
    have hn : (⟨tAS, μ2.1.name, μ2.1.desc⟩ : MethodName) = μ2.1 := by rw [← hcls]
    refine ⟨⟨rfl, rfl, r1, r2, pay_in hX.good (goodIn_wsM hm), List.mem_cons_self⟩, hX.good _ hm.2.1, hX.good _ hm.2.2.1, ⟨by decide, by decide⟩, fun sig h => ?_, hX.good _ hl, ?_, ?_, hsel2, hX.good _ hi⟩
    · have h2 := hm.2.2.2.2.1
      rw [h] at h2
      exact (Option.some.inj h2).symm
    · rw [hcls] at hsm
      rw [hcls]
      exact hX.good _ hsm
    · rw [hn]
      exact va_Decl.of (hX.good _ hi) (hX.good _ hm.2.1)
  exact va_runU (As := As) (rest := rest) (n := μ2.2.2.2.2.1) ⟨hX.1, hX.2.1, hX.2.2.1, hX.own, hX.good⟩ hct hcw ⟨PcM.blind, hrecv, fun U hU hW => PcM.pre hX hR hS hU hW⟩ rfl hnp hL.1 hst (lv_room hw) d ⟨by omega, by omega⟩
theorem gq_callZ (hX : Cx E X μ) {idx a : Nat} {μ2 : Mth} {As rest fs : List Value} {mc ms nc1 ns1 : Nat} (hcls : μ.1.cls = tSB) (d : decode μ.2.1 pc = .ok (.invokespecial idx, 3)) (hc : CallZ μ.1.cls idx μ2) (hct : Ct E μ2 (.ref a :: As) M P mc ms) (hst : st = As.reverse ++ .ref a :: rest) (hM : M a = some (.inr (1, fs))) (hnp : As.length = μ2.2.2.2.2.1) (hw : (rest.map fun v => v.category).sum ≤ 8) (hd : μ2.2.2.2.2.2.1 < μ.2.2.2.2.2.1 ∧ μ2.2.2.1 ≤ 45) (hnc : mc + nc1 = nc) (hns : ms + ns1 = ns)
    (kk : ∀ (v : Option Value) (M1 : Hp), P v M1 → Gq E X μ Q (pc + 3) ls (v.toList ++ rest) M1 nc1 ns1) : Gq E X μ Q pc ls st M nc ns := by
  refine gq_run hnc hns kk (a := (Value.ref a :: As).toArray) ?_
  intro H locs cells slots lsR hR hS hL h1 h2
  obtain ⟨hm, hl, hsm, hsu, hi, hn⟩ := hc
  have hrecv := va_recv hX.know (hR.one hM) (q0 := 0) (ci := 1) rfl rfl
  have hgi : GoodIn goodT (va_wsSU μ.1.cls idx μ2.1 (wsM μ2)) := by
    refine goodT_in ?_
    intro w hw
    unfold va_wsSU at hw
    rcases List.mem_append.mp hw with h | h
    · simp only [List.mem_cons, List.not_mem_nil, or_false] at h
      rcases h with rfl | rfl | rfl | rfl | rfl
      · exact hl
      · exact hsm
      · exact hsu
      · exact hi
      · exact hm.2.2.1
    · exact (goodIn_wsM hm w h).1
  have hcw := va_cwSU (s := X.2.2.2.1) (args := X.2.2.2.2.2.1) (R := X.2.2.1) (own := μ.1.cls) (index := idx) (y := μ2.1) (bytes := μ2.2.1) (maxL := μ2.2.2.1) (ret := μ2.2.2.2.1) (ws := wsM μ2) (rm := rmM μ2 mc ms) (mc := mc) (ms := ms) μ2.2.2.2.2.1 hX.good hgi rfl rfl rfl ⟨hn, hm.2.2.2.2.1⟩ (room_lt hX hd)
  have hat : ClassAt X.2.2.2.1 tSB X.2.2.2.2.1.cls := by
    obtain ⟨-, hfc, kC, hkC, hkind⟩ := hX.know.1 1 _ rfl
    have h9 := hX.own
    rw [hcls] at h9
    have e9 := Option.some.inj (hfc.symm.trans h9)
    exact ⟨h9, kC, by rw [← e9]; exact hkC, hkind⟩
  exact va_runSU (C := tSB) (As := As) (rest := rest) (n := μ2.2.2.2.2.1) hat ⟨hX.1, hX.2.1, hX.2.2.1, hX.own, hX.good⟩ hct hcw ⟨PcM.blind, hrecv, fun U hU hW => PcM.pre hX hR hS hU hW⟩ rfl hnp hL.1 hst (lv_room hw) d ⟨by omega, by omega⟩
/-- the receiver is a form of the commands, a String below the law's start -/
theorem gq_callK (hX : Cx E X μ) {idx i : Nat} {μ2 : Mth} {As rest : List Value} {mc ms nc1 ns1 : Nat} (d : decode μ.2.1 pc = .ok (.invokevirtual idx, 3)) (hc : CallV μ.1.cls idx μ2) (hct : Ct E μ2 (.ref (E.2.2.2.2.1 i) :: As) M P mc ms) (hst : st = As.reverse ++ .ref (E.2.2.2.2.1 i) :: rest) (hi13 : i < 13) (hci : μ2.1.cls = tST) (hnp : As.length = μ2.2.2.2.2.1) (hw : (rest.map fun v => v.category).sum ≤ 8) (hd : μ2.2.2.2.2.2.1 < μ.2.2.2.2.2.1 ∧ μ2.2.2.1 ≤ 45) (hnc : mc + nc1 = nc) (hns : ms + ns1 = ns)
    (kk : ∀ (v : Option Value) (M1 : Hp), P v M1 → Gq E X μ Q (pc + 3) ls (v.toList ++ rest) M1 nc1 ns1) : Gq E X μ Q pc ls st M nc ns := by
  refine gq_run hnc hns kk (a := (Value.ref (E.2.2.2.2.1 i) :: As).toArray) ?_
  intro H locs cells slots lsR hR hS hL h1 h2
  obtain ⟨hm, hl, hi, hs⟩ := hc
  have hrecv := vk_recv hX.ge.2.2.2.1.2.2.2.2.2.2 hi13 hS
  rw [show "java/lang/String" = μ2.1.cls from hci.symm] at hrecv
  refine va_runV (C := μ2.1.cls) (As := As) (rest := rest) (n := μ2.2.2.2.2.1) ⟨hX.1, hX.2.1, hX.2.2.1, hX.own, hX.good⟩ hct (cwV μ2.2.2.2.2.1 hX.good (goodT_in ?_) rfl rfl rfl ⟨rfl, hm.2.2.2.1.1, hm.2.2.2.1.2, hm.2.2.2.2.1⟩ (room_lt hX hd)) ⟨PcM.blind, hrecv, fun U hU hW => PcM.pre hX hR hS hU hW⟩ rfl hnp hL.1 hst (lv_room hw) d ⟨by omega, by omega⟩
  intro w hw
  rcases List.mem_append.mp hw with h | h
  · simp only [List.mem_cons, List.not_mem_nil, or_false] at h
    rcases h with rfl | rfl | rfl | rfl
    · exact hl
    · exact hi
    · exact hs
    · exact hm.2.2.1
  · exact (goodIn_wsM hm w h).1
theorem gq_kco (hX : Cx E X μ) {idx i : Nat} (hi : i < 13) (d : decode μ.2.1 pc = .ok (.getfield idx, 3)) (hq : pc + 3 = q) (hl : Cond.fieldLink μ.1.cls idx "java/lang/String" "coder" "B" ∈ goodT) (kk : Gq E X μ Q q ls (.int 0 :: st) M nc ns) : Gq E X μ Q pc ls (.ref (E.2.2.2.2.1 i) :: st) M nc ns := by
  subst hq
  exact fun H locs cells slots lsR hR hS hL h1 h2 => vk_getf hX.1 hX.2.1 (hX.ge.2.2.2.1.2.2.2.2.2.2.1 i hi).2.1 hS hX.own (hX.good _ hl) (fun _ h => h) d (kk H locs cells slots lsR hR hS hL h1 h2)
theorem gq_kva (hX : Cx E X μ) {idx i : Nat} (hi : i < 13) (d : decode μ.2.1 pc = .ok (.getfield idx, 3)) (hq : pc + 3 = q) (hl : Cond.fieldLink μ.1.cls idx "java/lang/String" "value" "[B" ∈ goodT) (kk : Gq E X μ Q q ls (.ref (E.2.2.2.2.2 i) :: st) M nc ns) : Gq E X μ Q pc ls (.ref (E.2.2.2.2.1 i) :: st) M nc ns := by
  subst hq
  exact fun H locs cells slots lsR hR hS hL h1 h2 => vk_getf hX.1 hX.2.1 (hX.ge.2.2.2.1.2.2.2.2.2.2.1 i hi).2.2.1 hS hX.own (hX.good _ hl) (fun _ h => h) d (kk H locs cells slots lsR hR hS hL h1 h2)
theorem gq_kle (hX : Cx E X μ) {i : Nat} (hi : i < 13) (d : decode μ.2.1 pc = .ok (.arraylength, 1)) (hq : pc + 1 = q) (kk : Gq E X μ Q q ls (.int (nI (frmL.getD i 0)) :: st) M nc ns) : Gq E X μ Q pc ls (.ref (E.2.2.2.2.2 i) :: st) M nc ns := by
  subst hq
  exact fun H locs cells slots lsR hR hS hL h1 h2 => va_tlen hX.1 hX.2.1 (hX.ge.2.2.2.1.2.2.2.2.2.2.1 i hi).2.2.2 hS rfl d (kk H locs cells slots lsR hR hS hL h1 h2)
theorem gq_kby (hX : Cx E X μ) {i j : Nat} {x : Int32} (hi : i < 13) (d : decode μ.2.1 pc = .ok (.baload, 1)) (hq : pc + 1 = q) (hx : x = nI j) (hj : j < frmL.getD i 0) (hj2 : j < 100000) (kk : Gq E X μ Q q ls (.int ((frmB.getD i []).getD j 0) :: st) M nc ns) : Gq E X μ Q pc ls (.int x :: .ref (E.2.2.2.2.2 i) :: st) M nc ns := by
  subst hq
  subst hx
  have hin : vp_in (nI j) (frmL.getD i 0) := by
    unfold vp_in
    rw [nI_clamp (by omega)]
    intro h
    rcases h with h | h
    · exact nI_pos (by omega) h
    · omega
  exact fun H locs cells slots lsR hR hS hL h1 h2 => va_tb hX.1 hX.2.1 (hX.ge.2.2.2.1.2.2.2.2.2.2.1 i hi).2.2.2 hS hin (v := .int ((frmB.getD i []).getD j 0)) (by rw [nI_clamp (by omega)]) d (kk H locs cells slots lsR hR hS hL h1 h2)
theorem gq_ldcK (hX : Cx E X μ) {idx i : Nat} {tx : String} (hf : frmC[i]? = some (idx, tx)) (hcls : μ.1.cls = "KiteTailRental$Commands") (d : decode μ.2.1 pc = .ok (.ldc idx, 2)) (hq : pc + 2 = q) (kk : Gq E X μ Q q ls (.ref (E.2.2.2.2.1 i) :: st) M nc ns) : Gq E X μ Q pc ls st M nc ns := by
  subst hq
  have hown := hX.own
  rw [hcls] at hown
  exact fun H locs cells slots lsR hR hS hL h1 h2 => va_ldcS hX.1 hX.2.1 hown (hX.ge.2.2.2.2.2.1 i _ hf) d (kk H locs cells slots lsR hR hS hL h1 h2)
theorem gq_ldcI (hX : Cx E X μ) {idx : Nat} {v : Int32} (hw : Cond.constant μ.1.cls idx v ∈ goodT) (d : decode μ.2.1 pc = .ok (.ldc idx, 2)) (hq : pc + 2 = q) (kk : Gq E X μ Q q ls (.int v :: st) M nc ns) : Gq E X μ Q pc ls st M nc ns := by
  subst hq
  exact fun H locs cells slots lsR hR hS hL h1 h2 => lv_ldc hX.1 hX.2.1 hX.own (hX.good _ hw) d (kk H locs cells slots lsR hR hS hL h1 h2)
/-- String.COMPACT_STRINGS -/
theorem gq_getsC (hX : Cx E X μ) {idx : Nat} (d : decode μ.2.1 pc = .ok (.getstatic idx, 3)) (hq : pc + 3 = q) (hl : Cond.fieldLink μ.1.cls idx "java/lang/String" "COMPACT_STRINGS" "Z" ∈ goodT) (kk : Gq E X μ Q q ls (.int 1 :: st) M nc ns) : Gq E X μ Q pc ls st M nc ns := by
  subst hq
  exact fun H locs cells slots lsR hR hS hL h1 h2 => va_gets hX.1 hX.2.1 hX.ge.2.2.2.1.2.2.1 hS hX.own (hX.good _ hl) (fun _ h => h) d (kk H locs cells slots lsR hR hS hL h1 h2)
/-- the formatter of an index's fault: null or some object, never asked -/
theorem gq_getsF (hX : Cx E X μ) {idx : Nat} (d : decode μ.2.1 pc = .ok (.getstatic idx, 3)) (hq : pc + 3 = q) (hl : Cond.fieldLink μ.1.cls idx "jdk/internal/util/Preconditions" "SIOOBE_FORMATTER" "Ljava/util/function/BiFunction;" ∈ goodT) (kk : ∀ v : Value, v.category = 1 → Gq E X μ Q q ls (v :: st) M nc ns) : Gq E X μ Q pc ls st M nc ns := by
  subst hq
  rcases hX.ge.2.2.2.1.2.2.2.2.2.1 with h | ⟨t, h⟩
  · exact fun H locs cells slots lsR hR hS hL h1 h2 => va_gets hX.1 hX.2.1 h hS hX.own (hX.good _ hl) (fun _ h => h) d (kk .null rfl H locs cells slots lsR hR hS hL h1 h2)
  · exact fun H locs cells slots lsR hR hS hL h1 h2 => va_gets hX.1 hX.2.1 h hS hX.own (hX.good _ hl) (fun _ h => h) d (kk (.ref t) rfl H locs cells slots lsR hR hS hL h1 h2)
/-- a table of digits: an array below the law's start -/
def DigT (E : Ev) (X : Cx0) (t : Nat) (f : Nat → Int32) : Prop := va_T .byte t 100 (fun j => .int (f j)) (AE E) X.2.2.2.1 X.2.2.2.1.heap
theorem gq_getsT (hX : Cx E X μ) {idx : Nat} (d : decode μ.2.1 pc = .ok (.getstatic idx, 3)) (hq : pc + 3 = q) (hl : Cond.fieldLink μ.1.cls idx "java/lang/Integer" "DigitTens" "[B" ∈ goodT) (kk : ∀ t : Nat, DigT E X t (fun j => nI (48 + j / 10)) → Gq E X μ Q q ls (.ref t :: st) M nc ns) : Gq E X μ Q pc ls st M nc ns := by
  subst hq
  obtain ⟨t, h, g⟩ := hX.ge.2.2.2.1.2.2.2.1
  exact fun H locs cells slots lsR hR hS hL h1 h2 => va_gets hX.1 hX.2.1 h hS hX.own (hX.good _ hl) (fun _ h => h) d (kk t g H locs cells slots lsR hR hS hL h1 h2)
theorem gq_getsO (hX : Cx E X μ) {idx : Nat} (d : decode μ.2.1 pc = .ok (.getstatic idx, 3)) (hq : pc + 3 = q) (hl : Cond.fieldLink μ.1.cls idx "java/lang/Integer" "DigitOnes" "[B" ∈ goodT) (kk : ∀ t : Nat, DigT E X t (fun j => nI (48 + j % 10)) → Gq E X μ Q q ls (.ref t :: st) M nc ns) : Gq E X μ Q pc ls st M nc ns := by
  subst hq
  obtain ⟨t, h, g⟩ := hX.ge.2.2.2.1.2.2.2.2.1
  exact fun H locs cells slots lsR hR hS hL h1 h2 => va_gets hX.1 hX.2.1 h hS hX.own (hX.good _ hl) (fun _ h => h) d (kk t g H locs cells slots lsR hR hS hL h1 h2)
theorem gq_digT (hX : Cx E X μ) {t j : Nat} {f : Nat → Int32} {x : Int32} (hT : DigT E X t f) (d : decode μ.2.1 pc = .ok (.baload, 1)) (hq : pc + 1 = q) (hx : x = nI j) (hj : j < 100) (kk : Gq E X μ Q q ls (.int (f j) :: st) M nc ns) : Gq E X μ Q pc ls (.int x :: .ref t :: st) M nc ns := by
  subst hq
  subst hx
  have hin : vp_in (nI j) 100 := vp_in_nI hj (by omega)
  exact fun H locs cells slots lsR hR hS hL h1 h2 => va_tb hX.1 hX.2.1 hT hS hin (v := .int (f j)) (by rw [nI_clamp (by omega)]) d (kk H locs cells slots lsR hR hS hL h1 h2)
/-- System.arraycopy of bytes -/
theorem gq_acb (hX : Cx E X μ) {idx a0 a n0 n1 n : Nat} {f g : Nat → Int32} {M1 : Hp} (hl : Cond.methodLink μ.1.cls idx arraycopyName ∈ goodT) (hnat : Cond.native arraycopyName ∈ goodT) (hst2 : Cond.static arraycopyName ∈ goodT) (hini : Cond.initialized "java/lang/System" ∈ goodT) (d : decode μ.2.1 pc = .ok (.invokestatic idx, 3)) (hq : pc + 3 = q)
    (h0 : M a0 = some (.inl (E.2.2.2.1 5, n0, .inl f))) (h1 : M a = some (.inl (E.2.2.2.1 5, n1, .inl g))) (hne : a0 ≠ a) (ha0 : E.2.2.1 ≤ a0) (ha : E.2.2.1 ≤ a) (hn0 : n ≤ n0) (hn1 : n ≤ n1) (hn : n < 100000) (hfit : ∀ i, i < n → fits .byte (.int (f i)) = true)
    (hw : (st.map fun v => v.category).sum ≤ 8) (hd : 10 ≤ μ.2.2.2.2.2.1) (hu : hput M a (.inl (E.2.2.2.1 5, n1, .inl (va_cpy f g 0 0 n))) = M1) (kk : Gq E X μ Q q ls st M1 nc ns) : Gq E X μ Q pc ls (.int (nI n) :: .int 0 :: .ref a :: .int 0 :: .ref a0 :: st) M nc ns := by
  subst hq
  subst hu
  intro H locs cells slots lsR hR hS hL g1 g2
  obtain ⟨-, -, -, -, -, -, -, -, -, -, r1, r2⟩ := id hX
  have cl : (nI n).toNatClampNeg = n := nI_clamp (by omega)
  have z0 : (0 : Int32).toNatClampNeg = 0 := rfl
  have zi : (0 : Int32).toInt = 0 := rfl
  have ni : (nI n).toInt = (n : Int) := nI_toInt (by omega)
  have hc0 : H[a0]? = some (vp_cell (E.2.2.2.1 5) (n0, .inl f)) := hR a0 _ h0
  have hc1 : H[a]? = some (vp_cell (E.2.2.2.1 5) (n1, .inl g)) := hR a _ h1
  obtain ⟨-, k0, hk0, cm0, hkk0⟩ := (hX.know.2 5 _ rfl).1 n0 (fun j => .int (f j))
  obtain ⟨-, k1, hk1, cm1, hkk1⟩ := (hX.know.2 5 _ rfl).1 n1 (fun j => .int (g j))
  intro T hT XX
  have hnf : (nativeFrameWords "java/lang/System" "arraycopy" 5 + 11) ≤ 100 := by decide
  obtain ⟨vm', X', step⟩ := XX.arraycopy hX.1 hX.own (hX.good _ hl) (hX.good _ hnat) (hX.good _ hst2) (hX.good _ hini) (src := a0) (dst := a) (cs := vp_cell (E.2.2.2.1 5) (n0, .inl f)) (cd := vp_cell (E.2.2.2.1 5) (n1, .inl g)) (srcPos := 0) (destPos := 0) (n := nI n) (by rw [hT]; exact hc0) (by rw [hT]; exact hc1)
    (fun _ h => by cases h) (fun _ h => by cases h) (fun h => by cases h) (fun h => by cases h) hk0 hk1 hkk0 hkk1 rfl (by decide) (by decide) (nI_pos (by omega))
    (by rw [zi, ni]; show ¬ _ > ((arrV (E.2.2.2.1 5) n0 (fun j => .int (f j))).slots.size : Int); rw [arrV_size]; omega)
    (by rw [zi, ni]; show ¬ _ > ((arrV (E.2.2.2.1 5) n1 (fun j => .int (g j))).slots.size : Int); rw [arrV_size]; omega)
    (fun vm₁ _ i hi => by
      rw [cl] at hi
      have e : (vp_cell (E.2.2.2.1 5) (n0, .inl f)).slots.getD ((0 : Int32).toNatClampNeg + i) .null = .int (f i) := by
        rw [z0, Nat.zero_add]
        show (arrV (E.2.2.2.1 5) n0 (fun j => .int (f j))).slots.getD _ _ = _
        rw [Array.getD_eq_getD_getElem?, arrV_read _ _ (by omega)]
        rfl
      refine ⟨?_, ?_⟩
      · rw [e]
        exact hfit i hi
      · rw [e]
        exact trivial)
    (g := F0 X.2.2.2.2.1 pc lsR (.int (nI n) :: .int 0 :: .ref a :: .int 0 :: .ref a0 :: st)) rfl (by rw [hX.2.2.1]; exact hL.1) (rest := st) rfl (by rw [hX.2.1]; exact d) (by omega) (by show 2 * 0 + _ + _ ≤ _; omega)
  have e1 : copied (vp_cell (E.2.2.2.1 5) (n0, .inl f)) (vp_cell (E.2.2.2.1 5) (n1, .inl g)) 0 0 (nI n) = vp_cell (E.2.2.2.1 5) (n1, .inl (va_cpy f g 0 0 n)) := by
    have h9 := va_copied (fun z => Value.int z) (E.2.2.2.1 5) (E.2.2.2.1 5) f g (sp := (0 : Int32).toNatClampNeg) (dp := (0 : Int32).toNatClampNeg) (n := (nI n).toNatClampNeg) (n0 := n0) (n1 := n1) (by rw [cl, z0]; omega)
    rw [show va_cpy f g 0 0 n = va_cpy f g (0 : Int32).toNatClampNeg (0 : Int32).toNatClampNeg (nI n).toNatClampNeg by rw [cl, z0]]
    exact h9
  rw [e1] at X' step
  have hlt : a < H.size := (Array.getElem?_eq_some_iff.mp hc1).1
  have hheap : ((T.setVm vm').setCell a (vp_cell (E.2.2.2.1 5) (n1, .inl (va_cpy f g 0 0 n)))).heap = H.setIfInBounds a (vp_cell (E.2.2.2.1 5) (n1, .inl (va_cpy f g 0 0 n))) := by rw [← hT]; rfl
  have oq : ∀ q : Nat, q ≠ a → (H.setIfInBounds a (vp_cell (E.2.2.2.1 5) (n1, .inl (va_cpy f g 0 0 n))))[q]? = H[q]? := fun q hq => by simp [Array.getElem?_setIfInBounds, Ne.symm hq]
  obtain ⟨t, a1, b1⟩ := kk _ _ cells slots lsR (hR.put (show (H.setIfInBounds a _)[a]? = some _ by simp [Array.getElem?_setIfInBounds, hlt]) oq) ⟨by simp; exact hS.1, fun q g1 g2 => by
      rw [oq q (fun e => g2 (by rw [e]; exact ha))]
      exact hS.2.1 q g1 g2, fun q hq => by
      rcases List.mem_append.mp hq with h | h
      · exact hS.2.2 q h
      · obtain ⟨z, -, hz⟩ := List.mem_map.mp h
        rw [← hz]
        exact ha⟩ hL g1 g2 _ hheap X'
  exact ⟨t, step t a1, b1⟩
end LJ
