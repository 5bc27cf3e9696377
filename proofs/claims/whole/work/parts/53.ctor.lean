/-- M1 is M with n cells more: c k at b k -/
def Bd (E : Ev) (M M1 : Hp) (n : Nat) (b : Nat → Nat) (c : Nat → va_E) : Prop := (∀ k, k < n → M (b k) = none ∧ E.2.2.1 ≤ b k ∧ M1 (b k) = some (c k)) ∧ (∀ x y, x < n → y < n → b x = b y → x = y) ∧ ∀ q, (∀ k, k < n → b k ≠ q) → M1 q = M q
section BD
variable {E : Ev} {M M1 M2 : Hp} {n m : Nat} {b b2 : Nat → Nat} {c c2 : Nat → va_E}
theorem Bd.z : Bd E M M 0 b c := ⟨fun k h => absurd h (Nat.not_lt_zero k), fun x y h => absurd h (Nat.not_lt_zero x), fun _ _ => rfl⟩
theorem Bd.app (h : Bd E M M1 n b c) (h2 : Bd E M1 M2 m b2 c2) : Bd E M M2 (n + m) (fun k => if k < n then b k else b2 (k - n)) (fun k => if k < n then c k else c2 (k - n)) := by
  obtain ⟨g1, g2, g3⟩ := h
  obtain ⟨f1, f2, f3⟩ := h2
  have hne : ∀ x y, x < n → y < m → b x ≠ b2 y := fun x y hx hy e => by
    have := (f1 y hy).1
    rw [← e, (g1 x hx).2.2] at this
    cases this
  refine ⟨fun k hk => ?_, fun x y hx hy e => ?_, fun q hq => ?_⟩
  · by_cases hl : k < n
    · simp only [if_pos hl]
      refine ⟨(g1 k hl).1, (g1 k hl).2.1, ?_⟩
      rw [f3 _ (fun y hy e => hne k y hl hy e.symm)]
      exact (g1 k hl).2.2
    · simp only [if_neg hl]
      have hk2 : k - n < m := by omega
      refine ⟨?_, (f1 _ hk2).2⟩
      rw [← g3 _ (fun x hx => hne x _ hx hk2)]
      exact (f1 _ hk2).1
  · by_cases hl : x < n <;> by_cases hr : y < n
    · simp only [if_pos hl, if_pos hr] at e
      exact g2 x y hl hr e
    · simp only [if_pos hl, if_neg hr] at e
      exact absurd e (hne x _ hl (by omega))
    · simp only [if_neg hl, if_pos hr] at e
      exact absurd e.symm (hne y _ hr (by omega))
    · simp only [if_neg hl, if_neg hr] at e
      have := f2 _ _ (by omega) (by omega) e
      omega
  · rw [f3 q (fun k hk e => hq (n + k) (by omega) (by simp only [if_neg (show ¬ n + k < n by omega), Nat.add_sub_cancel_left]; exact e)), g3 q (fun k hk e => hq k (by omega) (by simp only [if_pos hk]; exact e))]
theorem Bd.one {a : Nat} {x : va_E} (h : M a = none) (hl : E.2.2.1 ≤ a) : Bd E M (hput M a x) 1 (fun _ => a) (fun _ => x) := ⟨fun k _ => ⟨h, hl, hput_s _ _ _⟩, fun x y hx hy _ => by omega, fun q hq => hput_n (fun e => hq 0 (by decide) e.symm)⟩
theorem Bd.cg (h : Bd E M M1 n b c) (e : ∀ k, k < n → b2 k = b k ∧ c2 k = c k) : Bd E M M1 n b2 c2 := by
  obtain ⟨g1, g2, g3⟩ := h
  refine ⟨fun k hk => ?_, fun x y hx hy z => ?_, fun q hq => g3 q (fun k hk z => hq k hk ((e k hk).1.trans z))⟩
  · rw [(e k hk).1, (e k hk).2]
    exact g1 k hk
  · rw [(e x hx).1, (e y hy).1] at z
    exact g2 x y hx hy z
theorem Bd.fin {a : Nat} {G : (Nat → Nat) → Nat → va_E} (h : Bd E M M1 n b c) (h0 : b 0 = a) (e : ∀ k, k < n → G b k = c k) : ∃ b', b' 0 = a ∧ Bd E M M1 n b' (G b') := ⟨b, h0, h.cg (fun k hk => ⟨rfl, e k hk⟩)⟩
theorem Bd.put {a j : Nat} {x : va_E} (h : Bd E M M1 n b c) (hj : j < n) (ha : b j = a) : Bd E M (hput M1 a x) n b (fun k => if k = j then x else c k) := by
  subst ha
  obtain ⟨g1, g2, g3⟩ := h
  refine ⟨fun k hk => ?_, g2, fun q hq => (hput_n (fun z => hq j hj z.symm)).trans (g3 q hq)⟩
  refine ⟨(g1 k hk).1, (g1 k hk).2.1, ?_⟩
  by_cases e : k = j
  · subst e
    rw [hput_s]
    simp only [if_true]
  · rw [hput_n (fun z => e (g2 k j hk hj z))]
    simp only [if_neg e]
    exact (g1 k hk).2.2
end BD
section LB
variable {E : Ev} {X : Cx0} {μ : Mth} {Q : State → Prop} {pc q : Nat} {ls st : List Value} {M M0 : Hp} {nc ns n : Nat} {b : Nat → Nat} {c : Nat → va_E}
theorem gq_newaB (hB : Bd E M0 M n b c) (hX : Cx E X μ) {at0 : ArrayType} {fty : FieldType} {t : Nat} {z : Int32} {N : Nat} {a0 : vp_A} {nc1 ns1 : Nat} (d : decode μ.2.1 pc = .ok (.newarray at0, 2)) (hq : pc + 2 = q) (hty : newarray.typeOf at0 = fty) (hw : Cond.arrayClass fty ∈ goodT) (ht : (tysE E)[t]? = some (E.2.2.2.1 t, fty)) (hra : ∀ (U : State) (cA : ClassId), va_RA U cA fty → U.vm.findClass ("[" ++ fty.toString) = some cA) (h0 : ∀ cA : ClassId, vp_cell cA a0 = arrV cA N (fun _ => defaultValue fty)) (hn : ¬ z < 0) (hN : z.toNatClampNeg = N) (hbytes : N * componentBytes fty ≤ 536870912) (hnc : nc1 + 1 = nc) (hns : ns1 + N = ns)
    (kk : ∀ a M1, Bd E M0 M1 (n + 1) (fun k => if k < n then b k else a) (fun k => if k < n then c k else .inl (E.2.2.2.1 t, a0)) → Gq E X μ Q q ls (.ref a :: st) M1 nc1 ns1) : Gq E X μ Q pc ls (.int z :: st) M nc ns :=
  gq_newa hX d hq hty hw ht hra h0 hn hN hbytes hnc hns (fun a h1 h2 => kk a _ (hB.app (Bd.one h1 h2)))
theorem gq_putFB (hB : Bd E M0 M n b c) (hX : Cx E X μ) {idx ci j k N a : Nat} {C : String} {T : u_T} {ty : Nat → FieldType} {fs : List Value} {v : Value} (hj : j < n) (ha : b j = a) (hc : c j = .inr (ci, fs)) (d : decode μ.2.1 pc = .ok (.putfield idx, 3)) (hq : pc + 3 = q) (hf : FldG μ.1.cls idx ci k C T N ty) (hfin : (T k).2.2.2 = true) (hini : μ.1.name = "<init>") (hdecl : (T k).1 = μ.1.cls) (hn : narrow (ty k) v = v) (hfit : fits (ty k) v = true) (hl : k < fs.length)
    (kk : ∀ M1, Bd E M0 M1 n b (fun q => if q = j then .inr (ci, fs.set k v) else c q) → Gq E X μ Q q ls st M1 nc ns) : Gq E X μ Q pc ls (v :: .ref a :: st) M nc ns := by
  have h := (hB.1 j hj)
  rw [hc, ha] at h
  exact gq_putF hX d hq hf hfin hini hdecl hn hfit h.2.2 hl h.2.1 rfl (kk _ (hB.put hj ha))
theorem gq_putB (hB : Bd E M0 M n b c) (hX : Cx E X μ) {idx ci j k N a : Nat} {C : String} {T : u_T} {ty : Nat → FieldType} {fs : List Value} {v : Value} (hj : j < n) (ha : b j = a) (hc : c j = .inr (ci, fs)) (d : decode μ.2.1 pc = .ok (.putfield idx, 3)) (hq : pc + 3 = q) (hf : FldG μ.1.cls idx ci k C T N ty) (hfin : (T k).2.2.2 = false) (hn : narrow (ty k) v = v) (hfit : fits (ty k) v = true) (hl : k < fs.length)
    (kk : ∀ M1, Bd E M0 M1 n b (fun q => if q = j then .inr (ci, fs.set k v) else c q) → Gq E X μ Q q ls st M1 nc ns) : Gq E X μ Q pc ls (v :: .ref a :: st) M nc ns := by
  have h := (hB.1 j hj)
  rw [hc, ha] at h
  exact gq_putf hX d hq hf hfin hn hfit h.2.2 hl h.2.1 rfl (kk _ (hB.put hj ha))
end LB
/-- a new state -/
def S0 : St := (fun _ => 0, fun _ _ => 0)

set_option maxRecDepth 100000 in
set_option maxHeartbeats 4000000 in
theorem ci_X2_init {E : Ev} {M0 : Hp} {a : Nat} (h0 : M0 a = none) (hl : E.2.2.1 ≤ a) : Ct E mX2_init [.ref a] (hput M0 a (.inr (6, [.int 0, .int 0, .null, .null, .null, .null, .null, .null]))) (fun r M1 => r = none ∧ ∃ b : Nat → Nat, b 0 = a ∧ Bd E M0 M1 7 b (fun k => sxC E (fun q => b (q - 6)) S0 (6 + k))) 6 48 := by
  refine Ct.of gmX2_init (ls := [.ref a]) rfl rfl (Nat.le_of_ble_eq_true rfl) ?_
  intro X hX Q hQ
  have hB : Bd E M0 _ 1 _ _ := Bd.one (x := .inr (6, [.int 0, .int 0, .null, .null, .null, .null, .null, .null])) h0 hl
  refine gq_aload_n hX dX2_init_0 rfl rfl rfl ?_
  refine gq_objI hX dX2_init_1 rfl (in1 49 rfl rfl) (in1 36 rfl rfl) (in1 37 rfl rfl) (Nat.le_of_ble_eq_true rfl) (Nat.le_of_ble_eq_true rfl) ?_
  refine gq_aload_n hX dX2_init_4 rfl rfl rfl ?_
  refine gq_iconst (v := nI 0) hX dX2_init_5 rfl (by decide) ?_
  refine gq_putB hB (j := 0) hX (Nat.le_of_ble_eq_true rfl) rfl rfl dX2_init_6 rfl fX2_9 rfl rfl rfl (Nat.le_of_ble_eq_true rfl) ?_
  intro M1 hB1
  refine gq_aload_n hX dX2_init_9 rfl rfl rfl ?_
  refine gq_iconst (v := nI 0) hX dX2_init_10 rfl (by decide) ?_
  refine gq_putB hB1 (j := 0) hX (Nat.le_of_ble_eq_true rfl) rfl rfl dX2_init_11 rfl fX2_15 rfl rfl rfl (Nat.le_of_ble_eq_true rfl) ?_
  intro M2 hB2
  refine gq_aload_n hX dX2_init_14 rfl rfl rfl ?_
  refine gq_bipush (v := nI 8) hX dX2_init_15 rfl (by decide) ?_
  refine gq_newaB hB2 (fty := .int) (t := 0) (N := 8) (a0 := (8, .inl (fun _ => 0))) (nc1 := 5) (ns1 := 40) hX dX2_init_17 rfl rfl (in1 88 rfl rfl) rfl (fun _ _ h => h) (fun _ => rfl) (by decide) (by decide) (by decide) rfl rfl ?_
  intro a3 M3 hB3
  refine gq_putFB hB3 (j := 0) hX (Nat.le_of_ble_eq_true rfl) rfl rfl dX2_init_19 rfl fX2_18 rfl rfl rfl rfl rfl (Nat.le_of_ble_eq_true rfl) ?_
  intro M4 hB4
  refine gq_aload_n hX dX2_init_22 rfl rfl rfl ?_
  refine gq_bipush (v := nI 8) hX dX2_init_23 rfl (by decide) ?_
  refine gq_newaB hB4 (fty := .char) (t := 1) (N := 8) (a0 := (8, .inl (fun _ => 0))) (nc1 := 4) (ns1 := 32) hX dX2_init_25 rfl rfl (in1 90 rfl rfl) rfl (fun _ _ h => h) (fun _ => rfl) (by decide) (by decide) (by decide) rfl rfl ?_
  intro a5 M5 hB5
  refine gq_putFB hB5 (j := 0) hX (Nat.le_of_ble_eq_true rfl) rfl rfl dX2_init_27 rfl fX2_22 rfl rfl rfl rfl rfl (Nat.le_of_ble_eq_true rfl) ?_
  intro M6 hB6
  refine gq_aload_n hX dX2_init_30 rfl rfl rfl ?_
  refine gq_bipush (v := nI 8) hX dX2_init_31 rfl (by decide) ?_
  refine gq_newaB hB6 (fty := .int) (t := 0) (N := 8) (a0 := (8, .inl (fun _ => 0))) (nc1 := 3) (ns1 := 24) hX dX2_init_33 rfl rfl (in1 88 rfl rfl) rfl (fun _ _ h => h) (fun _ => rfl) (by decide) (by decide) (by decide) rfl rfl ?_
  intro a7 M7 hB7
  refine gq_putFB hB7 (j := 0) hX (Nat.le_of_ble_eq_true rfl) rfl rfl dX2_init_35 rfl fX2_26 rfl rfl rfl rfl rfl (Nat.le_of_ble_eq_true rfl) ?_
  intro M8 hB8
  refine gq_aload_n hX dX2_init_38 rfl rfl rfl ?_
  refine gq_bipush (v := nI 8) hX dX2_init_39 rfl (by decide) ?_
  refine gq_newaB hB8 (fty := .int) (t := 0) (N := 8) (a0 := (8, .inl (fun _ => 0))) (nc1 := 2) (ns1 := 16) hX dX2_init_41 rfl rfl (in1 88 rfl rfl) rfl (fun _ _ h => h) (fun _ => rfl) (by decide) (by decide) (by decide) rfl rfl ?_
  intro a9 M9 hB9
  refine gq_putFB hB9 (j := 0) hX (Nat.le_of_ble_eq_true rfl) rfl rfl dX2_init_43 rfl fX2_29 rfl rfl rfl rfl rfl (Nat.le_of_ble_eq_true rfl) ?_
  intro M10 hB10
  refine gq_aload_n hX dX2_init_46 rfl rfl rfl ?_
  refine gq_bipush (v := nI 8) hX dX2_init_47 rfl (by decide) ?_
  refine gq_newaB hB10 (fty := .int) (t := 0) (N := 8) (a0 := (8, .inl (fun _ => 0))) (nc1 := 1) (ns1 := 8) hX dX2_init_49 rfl rfl (in1 88 rfl rfl) rfl (fun _ _ h => h) (fun _ => rfl) (by decide) (by decide) (by decide) rfl rfl ?_
  intro a11 M11 hB11
  refine gq_putFB hB11 (j := 0) hX (Nat.le_of_ble_eq_true rfl) rfl rfl dX2_init_51 rfl fX2_32 rfl rfl rfl rfl rfl (Nat.le_of_ble_eq_true rfl) ?_
  intro M12 hB12
  refine gq_aload_n hX dX2_init_54 rfl rfl rfl ?_
  refine gq_bipush (v := nI 8) hX dX2_init_55 rfl (by decide) ?_
  refine gq_newaB hB12 (fty := .boolean) (t := 2) (N := 8) (a0 := (8, .inl (fun _ => 0))) (nc1 := 0) (ns1 := 0) hX dX2_init_57 rfl rfl (in1 89 rfl rfl) rfl (fun _ _ h => h) (fun _ => rfl) (by decide) (by decide) (by decide) rfl rfl ?_
  intro a13 M13 hB13
  refine gq_putFB hB13 (j := 0) hX (Nat.le_of_ble_eq_true rfl) rfl rfl dX2_init_59 rfl fX2_35 rfl rfl rfl rfl rfl (Nat.le_of_ble_eq_true rfl) ?_
  intro M14 hB14
  exact gq_vret hX hQ dX2_init_62 rfl ⟨rfl, Bd.fin (n := 7) hB14 rfl (fun k hk => by
      match k, hk with
      | 0, _ => exact rfl
      | 1, _ => exact rfl
      | 2, _ => exact rfl
      | 3, _ => exact rfl
      | 4, _ => exact rfl
      | 5, _ => exact rfl
      | 6, _ => exact rfl
      | k + 7, h => exact absurd h (by omega))⟩

set_option maxRecDepth 100000 in
set_option maxHeartbeats 4000000 in
theorem ci_X3_init {E : Ev} {M0 : Hp} {a : Nat} (h0 : M0 a = none) (hl : E.2.2.1 ≤ a) : Ct E mX3_init [.ref a] (hput M0 a (.inr (7, [.int 0, .null, .null, .null, .int 0, .null, .null, .null, .int 0, .int 0, .int 0, .int 0, .int 0]))) (fun r M1 => r = none ∧ ∃ b : Nat → Nat, b 0 = a ∧ Bd E M0 M1 13 b (sxC E b S0)) 12 90 := by
  refine Ct.of gmX3_init (ls := [.ref a]) rfl rfl (Nat.le_of_ble_eq_true rfl) ?_
  intro X hX Q hQ
  have hB : Bd E M0 _ 1 _ _ := Bd.one (x := .inr (7, [.int 0, .null, .null, .null, .int 0, .null, .null, .null, .int 0, .int 0, .int 0, .int 0, .int 0])) h0 hl
  refine gq_aload_n hX dX3_init_0 rfl rfl rfl ?_
  refine gq_objI hX dX3_init_1 rfl (in1 43 rfl rfl) (in1 36 rfl rfl) (in1 37 rfl rfl) (Nat.le_of_ble_eq_true rfl) (Nat.le_of_ble_eq_true rfl) ?_
  refine gq_aload_n hX dX3_init_4 rfl rfl rfl ?_
  refine gq_iconst (v := nI 0) hX dX3_init_5 rfl (by decide) ?_
  refine gq_putB hB (j := 0) hX (Nat.le_of_ble_eq_true rfl) rfl rfl dX3_init_6 rfl fX3_9 rfl rfl rfl (Nat.le_of_ble_eq_true rfl) ?_
  intro M1 hB1
  refine gq_aload_n hX dX3_init_9 rfl rfl rfl ?_
  refine gq_bipush (v := nI 6) hX dX3_init_10 rfl (by decide) ?_
  refine gq_newaB hB1 (fty := .int) (t := 0) (N := 6) (a0 := (6, .inl (fun _ => 0))) (nc1 := 11) (ns1 := 84) hX dX3_init_12 rfl rfl (in1 88 rfl rfl) rfl (fun _ _ h => h) (fun _ => rfl) (by decide) (by decide) (by decide) rfl rfl ?_
  intro a2 M2 hB2
  refine gq_putFB hB2 (j := 0) hX (Nat.le_of_ble_eq_true rfl) rfl rfl dX3_init_14 rfl fX3_15 rfl rfl rfl rfl rfl (Nat.le_of_ble_eq_true rfl) ?_
  intro M3 hB3
  refine gq_aload_n hX dX3_init_17 rfl rfl rfl ?_
  refine gq_bipush (v := nI 6) hX dX3_init_18 rfl (by decide) ?_
  refine gq_newaB hB3 (fty := .int) (t := 0) (N := 6) (a0 := (6, .inl (fun _ => 0))) (nc1 := 10) (ns1 := 78) hX dX3_init_20 rfl rfl (in1 88 rfl rfl) rfl (fun _ _ h => h) (fun _ => rfl) (by decide) (by decide) (by decide) rfl rfl ?_
  intro a4 M4 hB4
  refine gq_putFB hB4 (j := 0) hX (Nat.le_of_ble_eq_true rfl) rfl rfl dX3_init_22 rfl fX3_19 rfl rfl rfl rfl rfl (Nat.le_of_ble_eq_true rfl) ?_
  intro M5 hB5
  refine gq_aload_n hX dX3_init_25 rfl rfl rfl ?_
  refine gq_bipush (v := nI 6) hX dX3_init_26 rfl (by decide) ?_
  refine gq_newaB hB5 (fty := .boolean) (t := 2) (N := 6) (a0 := (6, .inl (fun _ => 0))) (nc1 := 9) (ns1 := 72) hX dX3_init_28 rfl rfl (in1 89 rfl rfl) rfl (fun _ _ h => h) (fun _ => rfl) (by decide) (by decide) (by decide) rfl rfl ?_
  intro a6 M6 hB6
  refine gq_putFB hB6 (j := 0) hX (Nat.le_of_ble_eq_true rfl) rfl rfl dX3_init_30 rfl fX3_22 rfl rfl rfl rfl rfl (Nat.le_of_ble_eq_true rfl) ?_
  intro M7 hB7
  refine gq_aload_n hX dX3_init_33 rfl rfl rfl ?_
  refine gq_iconst (v := nI 0) hX dX3_init_34 rfl (by decide) ?_
  refine gq_putB hB7 (j := 0) hX (Nat.le_of_ble_eq_true rfl) rfl rfl dX3_init_35 rfl fX3_26 rfl rfl rfl (Nat.le_of_ble_eq_true rfl) ?_
  intro M8 hB8
  refine gq_aload_n hX dX3_init_38 rfl rfl rfl ?_
  refine gq_bipush (v := nI 8) hX dX3_init_39 rfl (by decide) ?_
  refine gq_newaB hB8 (fty := .int) (t := 0) (N := 8) (a0 := (8, .inl (fun _ => 0))) (nc1 := 8) (ns1 := 64) hX dX3_init_41 rfl rfl (in1 88 rfl rfl) rfl (fun _ _ h => h) (fun _ => rfl) (by decide) (by decide) (by decide) rfl rfl ?_
  intro a9 M9 hB9
  refine gq_putFB hB9 (j := 0) hX (Nat.le_of_ble_eq_true rfl) rfl rfl dX3_init_43 rfl fX3_29 rfl rfl rfl rfl rfl (Nat.le_of_ble_eq_true rfl) ?_
  intro M10 hB10
  refine gq_aload_n hX dX3_init_46 rfl rfl rfl ?_
  refine gq_bipush (v := nI 8) hX dX3_init_47 rfl (by decide) ?_
  refine gq_newaB hB10 (fty := .int) (t := 0) (N := 8) (a0 := (8, .inl (fun _ => 0))) (nc1 := 7) (ns1 := 56) hX dX3_init_49 rfl rfl (in1 88 rfl rfl) rfl (fun _ _ h => h) (fun _ => rfl) (by decide) (by decide) (by decide) rfl rfl ?_
  intro a11 M11 hB11
  refine gq_putFB hB11 (j := 0) hX (Nat.le_of_ble_eq_true rfl) rfl rfl dX3_init_51 rfl fX3_32 rfl rfl rfl rfl rfl (Nat.le_of_ble_eq_true rfl) ?_
  intro M12 hB12
  refine gq_aload_n hX dX3_init_54 rfl rfl rfl ?_
  refine gq_newc (fs := [.int 0, .int 0, .null, .null, .null, .null, .null, .null]) (nc1 := 6) (ns1 := 48) hX dX3_init_55 rfl kX2 ⟨in1 44 rfl rfl, in1 45 rfl rfl, in1 3 rfl rfl⟩ (by decide) rfl rfl ?_
  intro a13 hn13 hl13
  refine gq_dup hX dX3_init_58 rfl rfl ?_
  refine gq_callN (mc := 6) (ms := 48) (nc1 := 0) (ns1 := 0) hX dX3_init_59 vX3_37 (ci_X2_init hn13 hl13) rfl rfl (Nat.le_of_ble_eq_true rfl) ⟨(Nat.le_of_ble_eq_true rfl), (Nat.le_of_ble_eq_true rfl)⟩ rfl rfl ?_
  rintro r M13 ⟨rfl, b2, rfl, hB2⟩
  have hB13 := hB12.app hB2
  refine gq_putFB hB13 (j := 0) hX (Nat.le_of_ble_eq_true rfl) rfl rfl dX3_init_62 rfl fX3_38 rfl rfl rfl rfl rfl (Nat.le_of_ble_eq_true rfl) ?_
  intro M14 hB14
  refine gq_aload_n hX dX3_init_65 rfl rfl rfl ?_
  refine gq_iconst (v := nI 0) hX dX3_init_66 rfl (by decide) ?_
  refine gq_putB hB14 (j := 0) hX (Nat.le_of_ble_eq_true rfl) rfl rfl dX3_init_67 rfl fX3_42 rfl rfl rfl (Nat.le_of_ble_eq_true rfl) ?_
  intro M15 hB15
  refine gq_aload_n hX dX3_init_70 rfl rfl rfl ?_
  refine gq_iconst (v := nI 0) hX dX3_init_71 rfl (by decide) ?_
  refine gq_putB hB15 (j := 0) hX (Nat.le_of_ble_eq_true rfl) rfl rfl dX3_init_72 rfl fX3_45 rfl rfl rfl (Nat.le_of_ble_eq_true rfl) ?_
  intro M16 hB16
  refine gq_aload_n hX dX3_init_75 rfl rfl rfl ?_
  refine gq_iconst (v := nI 0) hX dX3_init_76 rfl (by decide) ?_
  refine gq_putB hB16 (j := 0) hX (Nat.le_of_ble_eq_true rfl) rfl rfl dX3_init_77 rfl fX3_48 rfl rfl rfl (Nat.le_of_ble_eq_true rfl) ?_
  intro M17 hB17
  refine gq_aload_n hX dX3_init_80 rfl rfl rfl ?_
  refine gq_iconst (v := nI 0) hX dX3_init_81 rfl (by decide) ?_
  refine gq_putB hB17 (j := 0) hX (Nat.le_of_ble_eq_true rfl) rfl rfl dX3_init_82 rfl fX3_51 rfl rfl rfl (Nat.le_of_ble_eq_true rfl) ?_
  intro M18 hB18
  refine gq_aload_n hX dX3_init_85 rfl rfl rfl ?_
  refine gq_iconst (v := nI 0) hX dX3_init_86 rfl (by decide) ?_
  refine gq_putB hB18 (j := 0) hX (Nat.le_of_ble_eq_true rfl) rfl rfl dX3_init_87 rfl fX3_54 rfl rfl rfl (Nat.le_of_ble_eq_true rfl) ?_
  intro M19 hB19
  exact gq_vret hX hQ dX3_init_90 rfl ⟨rfl, Bd.fin (n := 13) hB19 rfl (fun k hk => by
      match k, hk with
      | 0, _ => exact rfl
      | 1, _ => exact rfl
      | 2, _ => exact rfl
      | 3, _ => exact rfl
      | 4, _ => exact rfl
      | 5, _ => exact rfl
      | 6, _ => exact rfl
      | 7, _ => exact rfl
      | 8, _ => exact rfl
      | 9, _ => exact rfl
      | 10, _ => exact rfl
      | 11, _ => exact rfl
      | 12, _ => exact rfl
      | k + 13, h => exact absurd h (by omega))⟩

/-- the reference, new -/
def T00 : St := (fun i => if i = 7 then -1 else if i = 8 then -1 else 0, fun _ _ => 0)
set_option maxRecDepth 100000 in
set_option maxHeartbeats 4000000 in
theorem ci_X5_init {E : Ev} {M0 : Hp} {a : Nat} (h0 : M0 a = none) (hl : E.2.2.1 ≤ a) : Ct E mX5_init [.ref a] (hput M0 a (.inr (9, [.int 0, .null, .null, .null, .null, .null, .int 0, .int 0, .int 0, .null, .int 0, .null, .int 0, .int 0, .int 0, .int 0, .int 0, .null, .int 0, .int 0]))) (fun r M1 => r = none ∧ ∃ b : Nat → Nat, b 0 = a ∧ Bd E M0 M1 9 b (mxC E b T00)) 8 1214 := by
  refine Ct.of gmX5_init (ls := [.ref a]) rfl rfl (Nat.le_of_ble_eq_true rfl) ?_
  intro X hX Q hQ
  have hB : Bd E M0 _ 1 _ _ := Bd.one (x := .inr (9, [.int 0, .null, .null, .null, .null, .null, .int 0, .int 0, .int 0, .null, .int 0, .null, .int 0, .int 0, .int 0, .int 0, .int 0, .null, .int 0, .int 0])) h0 hl
  refine gq_aload_n hX dX5_init_0 rfl rfl rfl ?_
  refine gq_objI hX dX5_init_1 rfl (in7 40 rfl rfl) (in1 36 rfl rfl) (in1 37 rfl rfl) (Nat.le_of_ble_eq_true rfl) (Nat.le_of_ble_eq_true rfl) ?_
  refine gq_aload_n hX dX5_init_4 rfl rfl rfl ?_
  refine gq_bipush (v := nI 91) hX dX5_init_5 rfl (by decide) ?_
  refine gq_newaB hB (fty := .int) (t := 0) (N := 91) (a0 := (91, .inl (fun _ => 0))) (nc1 := 7) (ns1 := 1123) hX dX5_init_7 rfl rfl (in1 88 rfl rfl) rfl (fun _ _ h => h) (fun _ => rfl) (by decide) (by decide) (by decide) rfl rfl ?_
  intro a1 M1 hB1
  refine gq_putFB hB1 (j := 0) hX (Nat.le_of_ble_eq_true rfl) rfl rfl dX5_init_9 rfl fX5_7 rfl rfl rfl rfl rfl (Nat.le_of_ble_eq_true rfl) ?_
  intro M2 hB2
  refine gq_aload_n hX dX5_init_12 rfl rfl rfl ?_
  refine gq_sipush (v := nI 728) hX dX5_init_13 rfl (by decide) ?_
  refine gq_newaB hB2 (fty := .int) (t := 0) (N := 728) (a0 := (728, .inl (fun _ => 0))) (nc1 := 6) (ns1 := 395) hX dX5_init_16 rfl rfl (in1 88 rfl rfl) rfl (fun _ _ h => h) (fun _ => rfl) (by decide) (by decide) (by decide) rfl rfl ?_
  intro a3 M3 hB3
  refine gq_putFB hB3 (j := 0) hX (Nat.le_of_ble_eq_true rfl) rfl rfl dX5_init_18 rfl fX5_13 rfl rfl rfl rfl rfl (Nat.le_of_ble_eq_true rfl) ?_
  intro M4 hB4
  refine gq_aload_n hX dX5_init_21 rfl rfl rfl ?_
  refine gq_bipush (v := nI 91) hX dX5_init_22 rfl (by decide) ?_
  refine gq_newaB hB4 (fty := .int) (t := 0) (N := 91) (a0 := (91, .inl (fun _ => 0))) (nc1 := 5) (ns1 := 304) hX dX5_init_24 rfl rfl (in1 88 rfl rfl) rfl (fun _ _ h => h) (fun _ => rfl) (by decide) (by decide) (by decide) rfl rfl ?_
  intro a5 M5 hB5
  refine gq_putFB hB5 (j := 0) hX (Nat.le_of_ble_eq_true rfl) rfl rfl dX5_init_26 rfl fX5_16 rfl rfl rfl rfl rfl (Nat.le_of_ble_eq_true rfl) ?_
  intro M6 hB6
  refine gq_aload_n hX dX5_init_29 rfl rfl rfl ?_
  refine gq_bipush (v := nI 91) hX dX5_init_30 rfl (by decide) ?_
  refine gq_newaB hB6 (fty := .int) (t := 0) (N := 91) (a0 := (91, .inl (fun _ => 0))) (nc1 := 4) (ns1 := 213) hX dX5_init_32 rfl rfl (in1 88 rfl rfl) rfl (fun _ _ h => h) (fun _ => rfl) (by decide) (by decide) (by decide) rfl rfl ?_
  intro a7 M7 hB7
  refine gq_putFB hB7 (j := 0) hX (Nat.le_of_ble_eq_true rfl) rfl rfl dX5_init_34 rfl fX5_19 rfl rfl rfl rfl rfl (Nat.le_of_ble_eq_true rfl) ?_
  intro M8 hB8
  refine gq_aload_n hX dX5_init_37 rfl rfl rfl ?_
  refine gq_bipush (v := nI 91) hX dX5_init_38 rfl (by decide) ?_
  refine gq_newaB hB8 (fty := .int) (t := 0) (N := 91) (a0 := (91, .inl (fun _ => 0))) (nc1 := 3) (ns1 := 122) hX dX5_init_40 rfl rfl (in1 88 rfl rfl) rfl (fun _ _ h => h) (fun _ => rfl) (by decide) (by decide) (by decide) rfl rfl ?_
  intro a9 M9 hB9
  refine gq_putFB hB9 (j := 0) hX (Nat.le_of_ble_eq_true rfl) rfl rfl dX5_init_42 rfl fX5_22 rfl rfl rfl rfl rfl (Nat.le_of_ble_eq_true rfl) ?_
  intro M10 hB10
  refine gq_aload_n hX dX5_init_45 rfl rfl rfl ?_
  refine gq_bipush (v := nI 60) hX dX5_init_46 rfl (by decide) ?_
  refine gq_newaB hB10 (fty := .char) (t := 1) (N := 60) (a0 := (60, .inl (fun _ => 0))) (nc1 := 2) (ns1 := 62) hX dX5_init_48 rfl rfl (in1 90 rfl rfl) rfl (fun _ _ h => h) (fun _ => rfl) (by decide) (by decide) (by decide) rfl rfl ?_
  intro a11 M11 hB11
  refine gq_putFB hB11 (j := 0) hX (Nat.le_of_ble_eq_true rfl) rfl rfl dX5_init_50 rfl fX5_25 rfl rfl rfl rfl rfl (Nat.le_of_ble_eq_true rfl) ?_
  intro M12 hB12
  refine gq_aload_n hX dX5_init_53 rfl rfl rfl ?_
  refine gq_bipush (v := nI 60) hX dX5_init_54 rfl (by decide) ?_
  refine gq_newaB hB12 (fty := .char) (t := 1) (N := 60) (a0 := (60, .inl (fun _ => 0))) (nc1 := 1) (ns1 := 2) hX dX5_init_56 rfl rfl (in1 90 rfl rfl) rfl (fun _ _ h => h) (fun _ => rfl) (by decide) (by decide) (by decide) rfl rfl ?_
  intro a13 M13 hB13
  refine gq_putFB hB13 (j := 0) hX (Nat.le_of_ble_eq_true rfl) rfl rfl dX5_init_58 rfl fX5_29 rfl rfl rfl rfl rfl (Nat.le_of_ble_eq_true rfl) ?_
  intro M14 hB14
  refine gq_aload_n hX dX5_init_61 rfl rfl rfl ?_
  refine gq_iconst (v := -1) hX dX5_init_62 rfl (by decide) ?_
  refine gq_putB hB14 (j := 0) hX (Nat.le_of_ble_eq_true rfl) rfl rfl dX5_init_63 rfl fX5_32 rfl rfl rfl (Nat.le_of_ble_eq_true rfl) ?_
  intro M15 hB15
  refine gq_aload_n hX dX5_init_66 rfl rfl rfl ?_
  refine gq_iconst (v := -1) hX dX5_init_67 rfl (by decide) ?_
  refine gq_putB hB15 (j := 0) hX (Nat.le_of_ble_eq_true rfl) rfl rfl dX5_init_68 rfl fX5_36 rfl rfl rfl (Nat.le_of_ble_eq_true rfl) ?_
  intro M16 hB16
  refine gq_aload_n hX dX5_init_71 rfl rfl rfl ?_
  refine gq_iconst (v := nI 2) hX dX5_init_72 rfl (by decide) ?_
  refine gq_newaB hB16 (fty := .int) (t := 0) (N := 2) (a0 := (2, .inl (fun _ => 0))) (nc1 := 0) (ns1 := 0) hX dX5_init_73 rfl rfl (in1 88 rfl rfl) rfl (fun _ _ h => h) (fun _ => rfl) (by decide) (by decide) (by decide) rfl rfl ?_
  intro a17 M17 hB17
  refine gq_putFB hB17 (j := 0) hX (Nat.le_of_ble_eq_true rfl) rfl rfl dX5_init_75 rfl fX5_39 rfl rfl rfl rfl rfl (Nat.le_of_ble_eq_true rfl) ?_
  intro M18 hB18
  exact gq_vret hX hQ dX5_init_78 rfl ⟨rfl, Bd.fin (n := 9) hB18 rfl (fun k hk => by
      match k, hk with
      | 0, _ => exact rfl
      | 1, _ => exact rfl
      | 2, _ => exact rfl
      | 3, _ => exact rfl
      | 4, _ => exact rfl
      | 5, _ => exact rfl
      | 6, _ => exact rfl
      | 7, _ => exact rfl
      | 8, _ => exact rfl
      | k + 9, h => exact absurd h (by omega))⟩

