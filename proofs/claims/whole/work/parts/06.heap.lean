/-- a class by its number among vwCl: name, fields, how many, their types; the tables know it -/
def ClsG (ci : Nat) (C : String) (T : u_T) (N : Nat) (ty : Nat → FieldType) : Prop :=
  vwCl[ci]? = some (C, T, N) ∧ (∀ w ∈ u_ws C T N, w ∈ goodT) ∧ (∀ k, k < N → parseFieldDescriptor (T k).2.2.1 = some (ty k)) ∧ (∀ a, a < N → ∀ b, b < N → a ≠ b → (T a).2.1 ≠ (T b).2.1)
/-- an entry of a pool that is a field -/
def FldG (own : String) (idx ci k : Nat) (C : String) (T : u_T) (N : Nat) (ty : Nat → FieldType) : Prop :=
  ClsG ci C T N ty ∧ k < N ∧ Cond.fieldLink own idx (T k).1 (T k).2.1 (T k).2.2.1 ∈ goodT
section LH
variable {E : Ev} {X : Cx0} {μ : Mth} {Q : State → Prop} {pc q : Nat} {ls st : List Value} {M M1 : Hp} {nc ns a : Nat}
theorem Cx.good (hX : Cx E X μ) : ∀ w ∈ goodT, w.before X.2.2.2.2.2.1 X.2.2.2.1 = true := hX.2.2.2.2.1
theorem Cx.own (hX : Cx E X μ) : X.2.2.2.1.vm.findClass μ.1.cls = some X.2.2.2.2.1.cls := hX.2.2.2.1
theorem Cx.ge (hX : Cx E X μ) : GE E X.2.2.2.1 := hX.2.2.2.2.2.2.2.2.2.1
theorem Cx.know (hX : Cx E X μ) : va_K E.2.1 vwCl (tysE E) X.2.2.2.1 := hX.ge.2.2.1
theorem Cx.above (hX : Cx E X μ) {H : Heap} {locs : List Loc} (hS : va_S (AE E) X.2.2.2.1.heap H locs) : AE E H.size := Nat.le_trans hX.ge.2.1 hS.1
theorem gq_getf (hX : Cx E X μ) {idx ci k N : Nat} {C : String} {T : u_T} {ty : Nat → FieldType} {fs : List Value} {v : Value} (d : decode μ.2.1 pc = .ok (.getfield idx, 3)) (hq : pc + 3 = q) (hf : FldG μ.1.cls idx ci k C T N ty) (hM : M a = some (.inr (ci, fs))) (hv : fs[k]? = some v) (kk : Gq E X μ Q q ls (v :: st) M nc ns) : Gq E X μ Q pc ls (.ref a :: st) M nc ns := by
  subst hq
  intro H locs cells slots lsR hR hS hL h1 h2
  obtain ⟨⟨hc, hin, hty, hnm⟩, hk, hlink⟩ := hf
  exact va_get hX.1 hX.2.1 hX.good hin hX.own hX.know (hR.one hM) 0 rfl hc k hk (hX.good _ hlink) (fun _ h9 => h9) hv d (kk H locs cells slots lsR hR hS hL h1 h2)
theorem gq_putf (hX : Cx E X μ) {idx ci k N : Nat} {C : String} {T : u_T} {ty : Nat → FieldType} {fs : List Value} {v : Value} (d : decode μ.2.1 pc = .ok (.putfield idx, 3)) (hq : pc + 3 = q) (hf : FldG μ.1.cls idx ci k C T N ty) (hfin : (T k).2.2.2 = false) (hn : narrow (ty k) v = v) (hfit : fits (ty k) v = true) (hM : M a = some (.inr (ci, fs))) (hl : k < fs.length) (ha : E.2.2.1 ≤ a) (hu : hput M a (.inr (ci, fs.set k v)) = M1) (kk : Gq E X μ Q q ls st M1 nc ns) : Gq E X μ Q pc ls (v :: .ref a :: st) M nc ns := by
  subst hq
  subst hu
  intro H locs cells slots lsR hR hS hL h1 h2
  obtain ⟨⟨hc, hin, hty, hnm⟩, hk, hlink⟩ := hf
  have hap := va_apart (own := μ.1.cls) hX.good hin ty hty hnm hX.know hc
  obtain ⟨r, g1, cell, q1, q2, q3, q4⟩ := hR a _ hM
  have hr : r = (C, T, N) := Option.some.inj (g1.symm.trans hc)
  subst hr
  obtain ⟨hSl, hfc, kC, hkC, hkind⟩ := hX.know.1 ci _ hc
  obtain ⟨cf, kf, fi, f, hi, hsl⟩ := hSl k hk
  have hlay := hX.good _ (hin _ (u_in_lay hk))
  unfold u_lay at hlay
  rw [if_neg (by rw [hfin]; decide)] at hlay
  have hst := (u_facts hfc hkC (u_lays hX.good hin hk) hi).1
  have h6 := u_store hfc hkC hkind hlay hi (hty k hk) hn hfit
  refine W.putK hX.1 hX.2.1 (f := f) ⟨hX.own, hX.good _ hlink, ⟨_, _, _, hi⟩, hst⟩ (by rw [q2]; exact h6) q1 q3 (by rw [hsl]; exact k2_hasslot (q4 k hk)) rfl rfl d fun H' e1 e2 e3 => ?_
  rw [hsl] at e1 ⊢
  exact kk H' _ cells slots lsR (hR.put ⟨_, hc, t_OB.to (V := updV (vp_V fs) k v) ⟨_, e1, q2, q3, t_set q4 hap hk v⟩ (fun j _ => vp_updV_set hl v j)⟩ e3) (hS.put e2 e3 ha) hL h1 h2
theorem gq_putF (hX : Cx E X μ) {idx ci k N : Nat} {C : String} {T : u_T} {ty : Nat → FieldType} {fs : List Value} {v : Value} (d : decode μ.2.1 pc = .ok (.putfield idx, 3)) (hq : pc + 3 = q) (hf : FldG μ.1.cls idx ci k C T N ty) (hfin : (T k).2.2.2 = true) (hini : μ.1.name = "<init>") (hdecl : (T k).1 = μ.1.cls) (hn : narrow (ty k) v = v) (hfit : fits (ty k) v = true) (hM : M a = some (.inr (ci, fs))) (hl : k < fs.length) (ha : E.2.2.1 ≤ a) (hu : hput M a (.inr (ci, fs.set k v)) = M1) (kk : Gq E X μ Q q ls st M1 nc ns) : Gq E X μ Q pc ls (v :: .ref a :: st) M nc ns := by
  subst hq
  subst hu
  intro H locs cells slots lsR hR hS hL h1 h2
  obtain ⟨⟨hc, hin, hty, hnm⟩, hk, hlink⟩ := hf
  have hap := va_apart (own := μ.1.cls) hX.good hin ty hty hnm hX.know hc
  obtain ⟨r, g1, cell, q1, q2, q3, q4⟩ := hR a _ hM
  have hr : r = (C, T, N) := Option.some.inj (g1.symm.trans hc)
  subst hr
  obtain ⟨hSl, hfc, kC, hkC, hkind⟩ := hX.know.1 ci _ hc
  obtain ⟨cf, kf, fi, f, hi, hsl⟩ := hSl k hk
  have hlay := hX.good _ (hin _ (u_in_lay hk))
  unfold u_lay at hlay
  rw [if_pos hfin] at hlay
  have hst := (u_facts hfc hkC (u_lays hX.good hin hk) hi).1
  have hcf : X.2.2.2.2.1.cls = cf := by
    obtain ⟨_, _, c', _, _, _, -, -, hf', -, -, -, hown2, -⟩ := Cond.laysFinal_spec hlay
    have e1 : c' = cf := by have := hi.symm.trans hf'; simp at this; exact this.1.symm
    rw [hdecl] at hown2
    rw [← e1]; exact Option.some.inj (hX.own.symm.trans hown2)
  have h6 := u_fits hfc hkC hkind (Or.inr hlay) hi (hty k hk) hn hfit
  refine W.putFinK hX.1 hX.2.1 hX.own (hX.good _ hlink) hi hst hcf (hX.2.2.2.2.2.2.2.2.1.trans hini) (by rw [q2]; exact h6) q1 q3 (by rw [hsl]; exact k2_hasslot (q4 k hk)) rfl rfl d fun H' e1 e2 e3 => ?_
  rw [hsl] at e1 ⊢
  exact kk H' _ cells slots lsR (hR.put ⟨_, hc, t_OB.to (V := updV (vp_V fs) k v) ⟨_, e1, q2, q3, t_set q4 hap hk v⟩ (fun j _ => vp_updV_set hl v j)⟩ e3) (hS.put e2 e3 ha) hL h1 h2
theorem gq_iald (hX : Cx E X μ) {n : Nat} {f : Nat → Int32} {i : Int32} (d : decode μ.2.1 pc = .ok (.iaload, 1)) (hq : pc + 1 = q) (hM : M a = some (.inl (E.2.2.2.1 0, n, .inl f))) (hin : vp_in i n) (kk : Gq E X μ Q q ls (.int (f i.toNatClampNeg) :: st) M nc ns) : Gq E X μ Q pc ls (.int i :: .ref a :: st) M nc ns := by
  subst hq
  exact fun H locs cells slots lsR hR hS hL h1 h2 => va_iald hX.1 hX.2.1 hX.know (hR.one hM) 0 0 rfl rfl hin d (kk H locs cells slots lsR hR hS hL h1 h2)
theorem gq_cald (hX : Cx E X μ) {n : Nat} {f : Nat → Int32} {i : Int32} (d : decode μ.2.1 pc = .ok (.caload, 1)) (hq : pc + 1 = q) (hM : M a = some (.inl (E.2.2.2.1 1, n, .inl f))) (hin : vp_in i n) (kk : Gq E X μ Q q ls (.int (f i.toNatClampNeg) :: st) M nc ns) : Gq E X μ Q pc ls (.int i :: .ref a :: st) M nc ns := by
  subst hq
  exact fun H locs cells slots lsR hR hS hL h1 h2 => va_cald hX.1 hX.2.1 hX.know (hR.one hM) 0 1 rfl rfl hin d (kk H locs cells slots lsR hR hS hL h1 h2)
theorem gq_zald (hX : Cx E X μ) {n : Nat} {f : Nat → Int32} {i : Int32} (d : decode μ.2.1 pc = .ok (.baload, 1)) (hq : pc + 1 = q) (hM : M a = some (.inl (E.2.2.2.1 2, n, .inl f))) (hin : vp_in i n) (kk : Gq E X μ Q q ls (.int (f i.toNatClampNeg) :: st) M nc ns) : Gq E X μ Q pc ls (.int i :: .ref a :: st) M nc ns := by
  subst hq
  exact fun H locs cells slots lsR hR hS hL h1 h2 => va_zald hX.1 hX.2.1 hX.know (hR.one hM) 0 2 rfl rfl hin d (kk H locs cells slots lsR hR hS hL h1 h2)
theorem gq_bald (hX : Cx E X μ) {n : Nat} {f : Nat → Int32} {i : Int32} (d : decode μ.2.1 pc = .ok (.baload, 1)) (hq : pc + 1 = q) (hM : M a = some (.inl (E.2.2.2.1 5, n, .inl f))) (hin : vp_in i n) (kk : Gq E X μ Q q ls (.int (f i.toNatClampNeg) :: st) M nc ns) : Gq E X μ Q pc ls (.int i :: .ref a :: st) M nc ns := by
  subst hq
  exact fun H locs cells slots lsR hR hS hL h1 h2 => va_bald hX.1 hX.2.1 hX.know (hR.one hM) 0 5 rfl rfl hin d (kk H locs cells slots lsR hR hS hL h1 h2)
theorem gq_lald (hX : Cx E X μ) {n : Nat} {f : Nat → Int64} {i : Int32} (d : decode μ.2.1 pc = .ok (.laload, 1)) (hq : pc + 1 = q) (hM : M a = some (.inl (E.2.2.2.1 3, n, .inr (.inl f)))) (hin : vp_in i n) (kk : Gq E X μ Q q ls (.long (f i.toNatClampNeg) :: st) M nc ns) : Gq E X μ Q pc ls (.int i :: .ref a :: st) M nc ns := by
  subst hq
  exact fun H locs cells slots lsR hR hS hL h1 h2 => va_lald hX.1 hX.2.1 hX.know (hR.one hM) 0 3 rfl rfl hin d (kk H locs cells slots lsR hR hS hL h1 h2)
theorem gq_dald (hX : Cx E X μ) {n : Nat} {f : Nat → UInt64} {i : Int32} (d : decode μ.2.1 pc = .ok (.daload, 1)) (hq : pc + 1 = q) (hM : M a = some (.inl (E.2.2.2.1 4, n, .inr (.inr (.inr (.inl f)))))) (hin : vp_in i n) (kk : Gq E X μ Q q ls (.double (f i.toNatClampNeg) :: st) M nc ns) : Gq E X μ Q pc ls (.int i :: .ref a :: st) M nc ns := by
  subst hq
  exact fun H locs cells slots lsR hR hS hL h1 h2 => va_dald hX.1 hX.2.1 hX.know (hR.one hM) 0 4 rfl rfl hin d (kk H locs cells slots lsR hR hS hL h1 h2)
theorem gq_iast (hX : Cx E X μ) {n : Nat} {f : Nat → Int32} {i : Int32} {x : Int32} (d : decode μ.2.1 pc = .ok (.iastore, 1)) (hq : pc + 1 = q) (hM : M a = some (.inl (E.2.2.2.1 0, n, .inl (f)))) (hin : vp_in i n) (ha : E.2.2.1 ≤ a) (hu : hput M a (.inl (E.2.2.2.1 0, n, .inl (upd f i.toNatClampNeg x))) = M1) (kk : Gq E X μ Q q ls st M1 nc ns) : Gq E X μ Q pc ls (.int x :: .int i :: .ref a :: st) M nc ns := by
  subst hq
  subst hu
  intro H locs cells slots lsR hR hS hL h1 h2
  refine W.iast hX.1 hX.2.1 (hR a _ hM) ((hX.know.2 0 _ rfl).1 n (fun j => .int (f j))) (fun q => by cases q) (by show ¬ (i < 0 ∨ (arrV _ _ _).slots.size ≤ _); rw [arrV_size]; exact hin) rfl rfl d fun H1 e z oq => ?_
  refine kk H1 _ cells slots lsR (hR.put ?_ oq) (hS.put z oq ha) hL h1 h2
  show H1[a]? = some (vp_cell _ _)
  rw [e]
  rw [vp_cell_i, vp_cell_i, arrV_store]
  congr 2
  funext q
  by_cases hq : q = i.toNatClampNeg
  · subst hq
    simp [updV, upd]
    try rfl
  · simp [updV, upd, hq]
theorem gq_cast (hX : Cx E X μ) {n : Nat} {f : Nat → Int32} {i : Int32} {x : Int32} (d : decode μ.2.1 pc = .ok (.castore, 1)) (hq : pc + 1 = q) (hM : M a = some (.inl (E.2.2.2.1 1, n, .inl (f)))) (hin : vp_in i n) (ha : E.2.2.1 ≤ a) (hu : hput M a (.inl (E.2.2.2.1 1, n, .inl (upd f i.toNatClampNeg (vp_nar .char x)))) = M1) (kk : Gq E X μ Q q ls st M1 nc ns) : Gq E X μ Q pc ls (.int x :: .int i :: .ref a :: st) M nc ns := by
  subst hq
  subst hu
  intro H locs cells slots lsR hR hS hL h1 h2
  refine W.cast hX.1 hX.2.1 (hR a _ hM) ((hX.know.2 1 _ rfl).1 n (fun j => .int (f j))) (fun q => by cases q) (by show ¬ (i < 0 ∨ (arrV _ _ _).slots.size ≤ _); rw [arrV_size]; exact hin) rfl rfl d fun H1 e z oq => ?_
  refine kk H1 _ cells slots lsR (hR.put ?_ oq) (hS.put z oq ha) hL h1 h2
  show H1[a]? = some (vp_cell _ _)
  rw [e]
  rw [vp_cell_i, vp_cell_i, arrV_store]
  congr 2
  funext q
  by_cases hq : q = i.toNatClampNeg
  · subst hq
    simp [updV, upd, vp_nar]
    try rfl
  · simp [updV, upd, vp_nar, hq]
theorem gq_zast (hX : Cx E X μ) {n : Nat} {f : Nat → Int32} {i : Int32} {x : Int32} (d : decode μ.2.1 pc = .ok (.bastore, 1)) (hq : pc + 1 = q) (hM : M a = some (.inl (E.2.2.2.1 2, n, .inl (f)))) (hin : vp_in i n) (ha : E.2.2.1 ≤ a) (hu : hput M a (.inl (E.2.2.2.1 2, n, .inl (upd f i.toNatClampNeg (vp_nar .boolean x)))) = M1) (kk : Gq E X μ Q q ls st M1 nc ns) : Gq E X μ Q pc ls (.int x :: .int i :: .ref a :: st) M nc ns := by
  subst hq
  subst hu
  intro H locs cells slots lsR hR hS hL h1 h2
  refine W.zast hX.1 hX.2.1 (hR a _ hM) ((hX.know.2 2 _ rfl).1 n (fun j => .int (f j))) (fun q => by cases q) (by show ¬ (i < 0 ∨ (arrV _ _ _).slots.size ≤ _); rw [arrV_size]; exact hin) rfl rfl d fun H1 e z oq => ?_
  refine kk H1 _ cells slots lsR (hR.put ?_ oq) (hS.put z oq ha) hL h1 h2
  show H1[a]? = some (vp_cell _ _)
  rw [e]
  rw [vp_cell_i, vp_cell_i, arrV_store]
  congr 2
  funext q
  by_cases hq : q = i.toNatClampNeg
  · subst hq
    simp [updV, upd, vp_nar]
    try rfl
  · simp [updV, upd, vp_nar, hq]
theorem gq_bast (hX : Cx E X μ) {n : Nat} {f : Nat → Int32} {i : Int32} {x : Int32} (d : decode μ.2.1 pc = .ok (.bastore, 1)) (hq : pc + 1 = q) (hM : M a = some (.inl (E.2.2.2.1 5, n, .inl (f)))) (hin : vp_in i n) (ha : E.2.2.1 ≤ a) (hu : hput M a (.inl (E.2.2.2.1 5, n, .inl (upd f i.toNatClampNeg (vp_nar .byte x)))) = M1) (kk : Gq E X μ Q q ls st M1 nc ns) : Gq E X μ Q pc ls (.int x :: .int i :: .ref a :: st) M nc ns := by
  subst hq
  subst hu
  intro H locs cells slots lsR hR hS hL h1 h2
  refine W.bast hX.1 hX.2.1 (hR a _ hM) ((hX.know.2 5 _ rfl).1 n (fun j => .int (f j))) (fun q => by cases q) (by show ¬ (i < 0 ∨ (arrV _ _ _).slots.size ≤ _); rw [arrV_size]; exact hin) rfl rfl d fun H1 e z oq => ?_
  refine kk H1 _ cells slots lsR (hR.put ?_ oq) (hS.put z oq ha) hL h1 h2
  show H1[a]? = some (vp_cell _ _)
  rw [e]
  rw [vp_cell_i, vp_cell_i, arrV_store]
  congr 2
  funext q
  by_cases hq : q = i.toNatClampNeg
  · subst hq
    simp [updV, upd, vp_nar]
    try rfl
  · simp [updV, upd, vp_nar, hq]
theorem gq_last (hX : Cx E X μ) {n : Nat} {f : Nat → Int64} {i : Int32} {x : Int64} (d : decode μ.2.1 pc = .ok (.lastore, 1)) (hq : pc + 1 = q) (hM : M a = some (.inl (E.2.2.2.1 3, n, .inr (.inl (f))))) (hin : vp_in i n) (ha : E.2.2.1 ≤ a) (hu : hput M a (.inl (E.2.2.2.1 3, n, .inr (.inl (vp_updL f i.toNatClampNeg x)))) = M1) (kk : Gq E X μ Q q ls st M1 nc ns) : Gq E X μ Q pc ls (.long x :: .int i :: .ref a :: st) M nc ns := by
  subst hq
  subst hu
  intro H locs cells slots lsR hR hS hL h1 h2
  refine W.last hX.1 hX.2.1 (hR a _ hM) ((hX.know.2 3 _ rfl).1 n (fun j => .long (f j))) (fun q => by cases q) (by show ¬ (i < 0 ∨ (arrV _ _ _).slots.size ≤ _); rw [arrV_size]; exact hin) rfl rfl d fun H1 e z oq => ?_
  refine kk H1 _ cells slots lsR (hR.put ?_ oq) (hS.put z oq ha) hL h1 h2
  show H1[a]? = some (vp_cell _ _)
  rw [e]
  rw [vp_cell_l, vp_cell_l, arrV_store]
  congr 2
  funext q
  by_cases hq : q = i.toNatClampNeg
  · subst hq
    simp [updV, vp_updL]
    try rfl
  · simp [updV, vp_updL, hq]
theorem gq_dast (hX : Cx E X μ) {n : Nat} {f : Nat → UInt64} {i : Int32} {x : UInt64} (d : decode μ.2.1 pc = .ok (.dastore, 1)) (hq : pc + 1 = q) (hM : M a = some (.inl (E.2.2.2.1 4, n, .inr (.inr (.inr (.inl (f))))))) (hin : vp_in i n) (ha : E.2.2.1 ≤ a) (hu : hput M a (.inl (E.2.2.2.1 4, n, .inr (.inr (.inr (.inl (vf_upd f i.toNatClampNeg x)))))) = M1) (kk : Gq E X μ Q q ls st M1 nc ns) : Gq E X μ Q pc ls (.double x :: .int i :: .ref a :: st) M nc ns := by
  subst hq
  subst hu
  intro H locs cells slots lsR hR hS hL h1 h2
  refine W.dast hX.1 hX.2.1 (hR a _ hM) ((hX.know.2 4 _ rfl).1 n (fun j => .double (f j))) (fun q => by cases q) (by show ¬ (i < 0 ∨ (arrV _ _ _).slots.size ≤ _); rw [arrV_size]; exact hin) rfl rfl d fun H1 e z oq => ?_
  refine kk H1 _ cells slots lsR (hR.put ?_ oq) (hS.put z oq ha) hL h1 h2
  show H1[a]? = some (vp_cell _ _)
  rw [e]
  rw [vp_cell_d, vp_cell_d, arrV_store]
  congr 2
  funext q
  by_cases hq : q = i.toNatClampNeg
  · subst hq
    simp [updV, vf_upd]
    try rfl
  · simp [updV, vf_upd, hq]
theorem gq_alen (hX : Cx E X μ) {t : Nat} {x : vp_A} {cA : ClassId} {fty : FieldType} (d : decode μ.2.1 pc = .ok (.arraylength, 1)) (hq : pc + 1 = q) (hM : M a = some (.inl (cA, x))) (ht : (tysE E)[t]? = some (cA, fty)) (kk : Gq E X μ Q q ls (.int (nI x.1) :: st) M nc ns) : Gq E X μ Q pc ls (.ref a :: st) M nc ns := by
  subst hq
  exact fun H locs cells slots lsR hR hS hL h1 h2 => va_alen hX.1 hX.2.1 hX.know (hR.one hM) 0 t rfl ht rfl d (kk H locs cells slots lsR hR hS hL h1 h2)
theorem gq_qald (hX : Cx E X μ) {n v : Nat} {f : Nat → Option Nat} {i : Int32} (d : decode μ.2.1 pc = .ok (.aaload, 1)) (hq : pc + 1 = q) (hM : M a = some (.inl (E.2.2.2.1 6, n, .inr (.inr (.inr (.inr f)))))) (hin : vp_in i n) (hv : f i.toNatClampNeg = some v) (kk : Gq E X μ Q q ls (.ref v :: st) M nc ns) : Gq E X μ Q pc ls (.int i :: .ref a :: st) M nc ns := by
  subst hq
  intro H locs cells slots lsR hR hS hL h1 h2
  refine va_aldq hX.1 hX.2.1 hX.know (hR.one hM) 0 6 rfl rfl hin d ?_
  rw [hv]
  exact kk H locs cells slots lsR hR hS hL h1 h2
theorem gq_qast (hX : Cx E X μ) {n v : Nat} {vs : List Value} {f : Nat → Option Nat} {i : Int32} (d : decode μ.2.1 pc = .ok (.aastore, 1)) (hq : pc + 1 = q) (hM : M a = some (.inl (E.2.2.2.1 6, n, .inr (.inr (.inr (.inr f)))))) (hv : M v = some (.inr (7, vs))) (hin : vp_in i n) (ha : E.2.2.1 ≤ a) (hu : hput M a (.inl (E.2.2.2.1 6, n, .inr (.inr (.inr (.inr (va_up f i.toNatClampNeg (some v))))))) = M1) (kk : Gq E X μ Q q ls st M1 nc ns) : Gq E X μ Q pc ls (.ref v :: .int i :: .ref a :: st) M nc ns := by
  subst hq
  subst hu
  intro H locs cells slots lsR hR hS hL h1 h2
  have hlt : i.toNatClampNeg < n := Nat.not_le.mp fun q => hin (Or.inr q)
  have h0 : ¬ i < 0 := fun q => hin (Or.inl q)
  obtain ⟨r', hr', cellV, g1, g2, g3, -⟩ := hR v _ hv
  have hcls := (hX.know.1 7 _ rfl).2
  obtain ⟨kA, comp, k1, k2, k3, -⟩ := (hX.know.2 6 _ rfl).2
  have hcomp : comp = E.2.1.1 7 := Option.some.inj (k3.symm.trans hcls.1)
  subst hcomp
  obtain ⟨kC, hkC, -⟩ := hcls.2
  refine W.aast hX.1 hX.2.1 (hR a _ hM) (fun q h => by cases h) (fun h => by cases h) k1 k2 rfl hkC ⟨h0, by show _ < (arrV _ _ _).slots.size; rw [arrV_size]; exact hlt⟩ g1 (fun q h => by rw [g3] at h; cases h) (by rw [g2]; exact hkC) (by rw [g2]; exact va_assign hcls) rfl rfl d fun H1 e z oq => ?_
  refine kk H1 _ cells slots lsR (hR.put ?_ oq) (hS.put z oq ha) hL h1 h2
  show H1[a]? = some (vp_cell _ _)
  rw [e]
  rw [vp_cell_q, vp_cell_q, arrV_store]
  congr 2
  funext q
  by_cases hq : q = i.toNatClampNeg
  · subst hq
    simp [updV, va_up]
    try rfl
  · simp [updV, va_up, hq]
theorem gq_newc (hX : Cx E X μ) {idx ci N : Nat} {C : String} {T : u_T} {ty : Nat → FieldType} {fs : List Value} {nc1 ns1 : Nat} (d : decode μ.2.1 pc = .ok (.new idx, 3)) (hq : pc + 3 = q) (hcl : ClsG ci C T N ty) (hw : Cond.classLink μ.1.cls idx C ∈ goodT ∧ Cond.instantiable C N ∈ goodT ∧ Cond.initialized C ∈ goodT) (hfs : ∀ j, j < N → defaultValue (ty j) = vp_V fs j) (hnc : nc1 + 1 = nc) (hns : ns1 + N = ns)
    (kk : ∀ a : Nat, M a = none → E.2.2.1 ≤ a → Gq E X μ Q q ls (.ref a :: st) (hput M a (.inr (ci, fs))) nc1 ns1) : Gq E X μ Q pc ls st M nc ns := by
  subst hq
  intro H locs cells slots lsR hR hS hL h1 h2
  obtain ⟨hc, hin, hty, hnm⟩ := hcl
  have hKn := hX.know.1 ci _ hc
  refine W.newcK hX.1 hX.2.1 hX.own (hX.good _ hw.1) (hX.good _ hw.2.1) (hX.good _ hw.2.2) rfl d (by omega) (by omega) hKn.2.1 rfl fun H1 kC hkC e1 z1 o1 => ?_
  have hb : AE E H.size := hX.above hS
  refine kk H.size hR.new hb H1 locs (cells + 1) (slots + N) lsR ?_ ⟨Nat.le_trans hS.1 (by omega), fun x g1 g2 => (o1 x (Nat.lt_of_lt_of_le g1 hS.1)).trans (hS.2.1 x g1 g2), hS.2.2⟩ hL (by omega) (by omega)
  intro b y hy
  by_cases hbb : b = H.size
  · subst hbb
    rw [hput_s] at hy
    cases hy
    exact ⟨_, hc, (u_born ty hX.good hin hKn hkC e1 hty).to hfs⟩
  · rw [hput_n hbb] at hy
    exact (hR b y hy).kept (o1 b (hR b y hy).lt)
theorem gq_newa (hX : Cx E X μ) {at0 : ArrayType} {fty : FieldType} {t : Nat} {n : Int32} {N : Nat} {a0 : vp_A} {nc1 ns1 : Nat} (d : decode μ.2.1 pc = .ok (.newarray at0, 2)) (hq : pc + 2 = q) (hty : newarray.typeOf at0 = fty) (hw : Cond.arrayClass fty ∈ goodT) (ht : (tysE E)[t]? = some (E.2.2.2.1 t, fty)) (hra : ∀ (U : State) (cA : ClassId), va_RA U cA fty → U.vm.findClass ("[" ++ fty.toString) = some cA) (h0 : ∀ cA : ClassId, vp_cell cA a0 = arrV cA N (fun _ => defaultValue fty)) (hn : ¬ n < 0) (hN : n.toNatClampNeg = N) (hbytes : N * componentBytes fty ≤ 536870912) (hnc : nc1 + 1 = nc) (hns : ns1 + N = ns)
    (kk : ∀ a : Nat, M a = none → E.2.2.1 ≤ a → Gq E X μ Q q ls (.ref a :: st) (hput M a (.inl (E.2.2.2.1 t, a0))) nc1 ns1) : Gq E X μ Q pc ls (.int n :: st) M nc ns := by
  subst hq
  subst hty
  intro H locs cells slots lsR hR hS hL h1 h2
  refine va_newaK hX.1 hX.2.1 (hX.good _ hw) rfl d rfl hn hN hbytes (by omega) (by omega) rfl fun H1 cA e1 z1 o1 hAr hNm => ?_
  have hcA : cA = E.2.2.2.1 t := Option.some.inj (hNm.symm.trans (hra _ _ (hX.know.2 t _ ht).2))
  subst hcA
  have hb : AE E H.size := hX.above hS
  refine kk H.size hR.new hb H1 locs (cells + 1) (slots + N) lsR ?_ ⟨Nat.le_trans hS.1 (by omega), fun x g1 g2 => (o1 x (Nat.lt_of_lt_of_le g1 hS.1)).trans (hS.2.1 x g1 g2), hS.2.2⟩ hL (by omega) (by omega)
  intro b y hy
  by_cases hbb : b = H.size
  · subst hbb
    rw [hput_s] at hy
    cases hy
    show H1[H.size]? = some (vp_cell _ _)
    rw [h0]
    exact e1
  · rw [hput_n hbb] at hy
    exact (hR b y hy).kept (o1 b (hR b y hy).lt)
end LH
