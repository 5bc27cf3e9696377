theorem gq_mmax {E : Ev} {X : Cx0} {μ : Mth} {Q : State → Prop} {pc q : Nat} {ls st : List Value} {M : Hp} {nc ns : Nat} (hX : Cx E X μ) {idx : Nat} {x y : Int32} (d : decode μ.2.1 pc = .ok (.invokestatic idx, 3)) (hq : pc + 3 = q) (hl : Cond.methodLink μ.1.cls idx Lib.Math.max.name ∈ goodT) (hw : (st.map fun v => v.category).sum ≤ 8) (hd : 1 ≤ μ.2.2.2.2.2.1) (kk : Gq E X μ Q q ls (.int (if x < y then y else x) :: st) M nc ns) : Gq E X μ Q pc ls (.int y :: .int x :: st) M nc ns := by
  subst hq
  intro H locs cells slots lsR hR hS hL h1 h2
  obtain ⟨-, -, -, -, -, -, -, -, -, -, g1, g2⟩ := id hX
  exact va_mmax hX.1 hX.2.1 (hX.2.2.1.trans hL.1.symm) hX.own (hX.good _ hl) (hX.good _ (in5 42 rfl rfl)) (hX.good _ (in1 16 rfl rfl)) (hX.good _ (in5 43 rfl rfl)) (by omega) (by omega) (by omega) (by omega) d (kk H locs cells slots lsR hR hS hL h1 h2)
theorem gq_mmin {E : Ev} {X : Cx0} {μ : Mth} {Q : State → Prop} {pc q : Nat} {ls st : List Value} {M : Hp} {nc ns : Nat} (hX : Cx E X μ) {idx : Nat} {x y : Int32} (d : decode μ.2.1 pc = .ok (.invokestatic idx, 3)) (hq : pc + 3 = q) (hl : Cond.methodLink μ.1.cls idx Lib.Math.min.name ∈ goodT) (hw : (st.map fun v => v.category).sum ≤ 8) (hd : 1 ≤ μ.2.2.2.2.2.1) (kk : Gq E X μ Q q ls (.int (if y < x then y else x) :: st) M nc ns) : Gq E X μ Q pc ls (.int y :: .int x :: st) M nc ns := by
  subst hq
  intro H locs cells slots lsR hR hS hL h1 h2
  obtain ⟨-, -, -, -, -, -, -, -, -, -, g1, g2⟩ := id hX
  exact va_mmin hX.1 hX.2.1 (hX.2.2.1.trans hL.1.symm) hX.own (hX.good _ hl) (hX.good _ (in2 228 rfl rfl)) (hX.good _ (in1 16 rfl rfl)) (hX.good _ (in2 229 rfl rfl)) (by omega) (by omega) (by omega) (by omega) d (kk H locs cells slots lsR hR hS hL h1 h2)
theorem nX3_151 : Cond.methodLink RX3 151 Lib.Math.min.name ∈ goodT := in2 227 rfl rfl
theorem nX1_29 : Cond.methodLink RX1 29 Lib.Math.min.name ∈ goodT := in3 29 rfl rfl
theorem nX0_86 : Cond.methodLink RX0 86 Lib.Math.max.name ∈ goodT := in5 200 rfl rfl
theorem off2 {n : Nat} {f : Nat → va_E} {b : Nat → Nat} {M : Hp} {a : Nat} {x : va_E} (h : ∀ k, k < n → b k ≠ a) (hx : M a = some x) : putP n f b M a = some x := (putP_off h).trans hx
theorem upd_s (f : Nat → Int32) (k : Nat) (x : Int32) : upd f k x k = x := pk_us
theorem upd_n {f : Nat → Int32} {k j : Nat} (x : Int32) (h : j ≠ k) : upd f k x j = f j := pk_un h
