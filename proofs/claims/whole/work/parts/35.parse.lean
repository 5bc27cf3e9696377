/-! READING COMMANDS: what a text says -/
def nx (l : Ln) (a c : Nat) : Bool := decide (a < l.2 ∧ l.1 a = c)
def dgt (l : Ln) (a : Nat) : Bool := decide (a < l.2 ∧ 48 ≤ l.1 a ∧ l.1 a ≤ 57)
/-- how many digits stand at a, at most m -/
def dgm (l : Ln) : Nat → Nat → Nat
  | _, 0 => 0
  | a, m + 1 => if dgt l a = true then 1 + dgm l (a + 1) m else 0
def valN (l : Ln) (a d : Nat) : Nat := it (fun i v => 10 * v + (l.1 (a + i) - 48)) 0 d
abbrev Rs : Type := Bool × Nat × List Nat
/-- a form, from its p-th sign on, k signs -/
def mG (l : Ln) (f : Nat → Nat) : Nat → Nat → Nat → Rs
  | 0, _, a => (true, a, [])
  | k + 1, p, a => if f p = 57 then (if dgm l a 1 = 0 then (false, a, []) else ((mG l f k (p + 1) (a + dgm l a 1)).1, (mG l f k (p + 1) (a + dgm l a 1)).2.1, valN l a (dgm l a 1) :: (mG l f k (p + 1) (a + dgm l a 1)).2.2))
    else if f p = 35 then (if dgm l a 3 = 0 then (false, a, []) else ((mG l f k (p + 1) (a + dgm l a 3)).1, (mG l f k (p + 1) (a + dgm l a 3)).2.1, valN l a (dgm l a 3) :: (mG l f k (p + 1) (a + dgm l a 3)).2.2))
    else if nx l a (f p) = true then mG l f k (p + 1) (a + 1) else (false, a, [])
section
variable {l : Ln} {f : Nat → Nat} {k p a c : Nat}
theorem mG_y (hc : f p = c) (h1 : c ≠ 57) (h2 : c ≠ 35) (h : nx l a c = true) : mG l f (k + 1) p a = mG l f k (p + 1) (a + 1) := by
  subst hc
  rw [mG, if_neg h1, if_neg h2, if_pos h]
theorem mG_n (hc : f p = c) (h1 : c ≠ 57) (h2 : c ≠ 35) (h : nx l a c = false) : mG l f (k + 1) p a = (false, a, []) := by
  subst hc
  rw [mG, if_neg h1, if_neg h2, if_neg (by rw [h]; decide)]
theorem mG_dn (hc : f p = 57) (h : dgm l a 1 = 0) : mG l f (k + 1) p a = (false, a, []) := by rw [mG, if_pos hc, if_pos h]
theorem mG_dy {r : Rs} (hc : f p = 57) (h : dgm l a 1 = 1) (hr : mG l f k (p + 1) (a + 1) = r) : mG l f (k + 1) p a = (r.1, r.2.1, (l.1 a - 48) :: r.2.2) := by
  subst hr
  rw [mG, if_pos hc, if_neg (by omega), h]
  have e : valN l a 1 = l.1 a - 48 := by show 10 * 0 + (l.1 (a + 0) - 48) = _; rw [Nat.add_zero]; omega
  rw [e]
theorem mG_Dn (hc : f p = 35) (h : dgm l a 3 = 0) : mG l f (k + 1) p a = (false, a, []) := by rw [mG, if_neg (by omega), if_pos hc, if_pos h]
theorem mG_Dy {r : Rs} {d : Nat} (hc : f p = 35) (h : dgm l a 3 = d) (hd : d ≠ 0) (hr : mG l f k (p + 1) (a + d) = r) : mG l f (k + 1) p a = (r.1, r.2.1, valN l a d :: r.2.2) := by
  subst hr
  subst h
  rw [mG, if_neg (by omega), if_pos hc, if_neg hd]
theorem mG_0 : mG l f 0 p a = (true, a, []) := rfl
theorem dgm_le (m : Nat) : dgm l a m ≤ m := by
  induction m generalizing a with
  | zero => exact Nat.le_refl _
  | succ m ih =>
    rw [dgm]
    split
    · have := ih (a := a + 1)
      omega
    · omega
theorem dgm_n (m : Nat) (h : a ≤ l.2) : a + dgm l a m ≤ l.2 := by
  induction m generalizing a with
  | zero => exact h
  | succ m ih =>
    rw [dgm]
    split
    · rename_i hd
      have hd2 : a < l.2 ∧ 48 ≤ l.1 a ∧ l.1 a ≤ 57 := of_decide_eq_true hd
      have := ih (a := a + 1) (by omega)
      omega
    · omega
theorem mG_ge (k : Nat) : a ≤ (mG l f k p a).2.1 := by
  induction k generalizing p a with
  | zero => exact Nat.le_refl _
  | succ k ih =>
    rw [mG]
    split
    · split
      · exact Nat.le_refl _
      · exact Nat.le_trans (by omega) (ih (p := p + 1) (a := a + dgm l a 1))
    · split
      · split
        · exact Nat.le_refl _
        · exact Nat.le_trans (by omega) (ih (p := p + 1) (a := a + dgm l a 3))
      · split
        · exact Nat.le_trans (by omega) (ih (p := p + 1) (a := a + 1))
        · exact Nat.le_refl _
theorem mG_le (k : Nat) (h : a ≤ l.2) : (mG l f k p a).2.1 ≤ l.2 := by
  induction k generalizing p a with
  | zero => exact h
  | succ k ih =>
    rw [mG]
    split
    · split
      · exact h
      · exact ih (p := p + 1) (dgm_n 1 h)
    · split
      · split
        · exact h
        · exact ih (p := p + 1) (dgm_n 3 h)
      · split
        · rename_i h9
          have h8 : a < l.2 ∧ l.1 a = f p := of_decide_eq_true h9
          exact ih (p := p + 1) (by omega)
        · exact h
theorem nx_ne {c2 : Nat} (h : nx l a c = true) (hc : c ≠ c2) : nx l a c2 = false := by
  have h8 : a < l.2 ∧ l.1 a = c := of_decide_eq_true h
  exact decide_eq_false (by omega)
end
/-- form i, at a -/
def fmR (l : Ln) (i a : Nat) : Rs := mG l (frmN i) (frmL.getD i 0) 0 a
/-- a command at a: whether one stands there, where reading ends, which it is, its numbers -/
abbrev Cm : Type := Bool × Nat × Nat × List Nat
def fmC (l : Ln) (i a : Nat) : Cm := ((fmR l i a).1, (fmR l i a).2.1, i, (fmR l i a).2.2)
def cmdM (l : Ln) (a : Nat) : Cm :=
  if nx l a 99 = true then fmC l 0 a else if nx l a 116 = true then fmC l 1 a
  else if nx l a 112 = true then (if nx l (a + 1) 97 = true then (if nx l (a + 1 + 1) 121 = true then fmC l 2 a else fmC l 12 a) else fmC l 2 a)
  else if nx l a 108 = true then fmC l 3 a
  else if nx l a 114 = true then (if nx l (a + 1) 101 = true then (if nx l (a + 1 + 1) 110 = true then fmC l 4 a else fmC l 5 a) else fmC l 4 a)
  else if nx l a 103 = true then (if nx l (a + 1) 114 = true then fmC l 6 a else fmC l 11 a)
  else if nx l a 115 = true then fmC l 7 a else if nx l a 117 = true then fmC l 8 a else if nx l a 119 = true then fmC l 9 a else fmC l 10 a
/-- all forms are tried in their order; m is the furthest so far -/
def cmdC (l : Ln) (a : Nat) : Nat → Nat → Nat → Cm
  | 0, _, m => (false, m, 0, [])
  | k + 1, i, m => if (fmR l i a).1 = true then fmC l i a else cmdC l a k (i + 1) (if m < (fmR l i a).2.1 then (fmR l i a).2.1 else m)
def frm1 (i : Nat) : Nat := frmN i 0
theorem fmR_n {l : Ln} {i a : Nat} (hi : i < 13) (h : nx l a (frmN i 0) = false) : fmR l i a = (false, a, []) := by
  have hq : ∀ i, i < 13 → frmN i 0 ≠ 57 ∧ frmN i 0 ≠ 35 ∧ ∃ k, frmL.getD i 0 = k + 1 := by
    intro i hi
    have : ∀ i : Fin 13, frmN i.1 0 ≠ 57 ∧ frmN i.1 0 ≠ 35 ∧ 0 < frmL.getD i.1 0 := by decide +kernel
    obtain ⟨h1, h2, h3⟩ := this ⟨i, hi⟩
    have h4 : 0 < frmL.getD i 0 := h3
    exact ⟨h1, h2, frmL.getD i 0 - 1, by omega⟩
  obtain ⟨h1, h2, k, h3⟩ := hq i hi
  unfold fmR
  rw [h3]
  exact mG_n rfl h1 h2 h
theorem fmR_ge {l : Ln} {i a : Nat} : a ≤ (fmR l i a).2.1 := mG_ge _
/-- forms whose first sign isn't there do nothing -/
theorem cmdC_skip {l : Ln} {a k i m : Nat} (hi : i < 13) (h : nx l a (frmN i 0) = false) (hm : a ≤ m) : cmdC l a (k + 1) i m = cmdC l a k (i + 1) m := by
  rw [cmdC, fmR_n hi h]
  show (if false = true then _ else cmdC l a k (i + 1) (if m < a then a else m)) = _
  rw [if_neg (by decide), if_neg (by omega)]
theorem cmdC_yes {l : Ln} {a k i m : Nat} (h : (fmR l i a).1 = true) : cmdC l a (k + 1) i m = fmC l i a := by rw [cmdC, if_pos h]
theorem cmdC_no {l : Ln} {a k i m : Nat} (h : ¬ (fmR l i a).1 = true) : cmdC l a (k + 1) i m = cmdC l a k (i + 1) (if m < (fmR l i a).2.1 then (fmR l i a).2.1 else m) := by rw [cmdC, if_neg h]
/-- the same answer: whether, where; and, where one stands there, which, and its numbers -/
def CmE (x y : Cm) : Prop := x.1 = y.1 ∧ x.2.1 = y.2.1 ∧ (x.1 = true → x = y)
theorem CmE.rf (x : Cm) : CmE x x := ⟨rfl, rfl, fun _ => rfl⟩
section
variable {l : Ln} {a : Nat}
theorem eqC_99 (h : nx l a 99 = true) : CmE (cmdC l a 13 0 a) (fmC l 0 a) := by
  by_cases hy : (fmR l 0 a).1 = true
  · rw [cmdC_yes hy]
    exact CmE.rf _
  · have hg := fmR_ge (l := l) (i := 0) (a := a)
    have hm : (if a < (fmR l 0 a).2.1 then (fmR l 0 a).2.1 else a) = (fmR l 0 a).2.1 := by split <;> omega
    rw [cmdC_no hy, hm]
    rw [cmdC_skip (i := 1) (by decide) (nx_ne h (by decide)) (by omega), cmdC_skip (i := 2) (by decide) (nx_ne h (by decide)) (by omega), cmdC_skip (i := 3) (by decide) (nx_ne h (by decide)) (by omega), cmdC_skip (i := 4) (by decide) (nx_ne h (by decide)) (by omega), cmdC_skip (i := 5) (by decide) (nx_ne h (by decide)) (by omega), cmdC_skip (i := 6) (by decide) (nx_ne h (by decide)) (by omega), cmdC_skip (i := 7) (by decide) (nx_ne h (by decide)) (by omega), cmdC_skip (i := 8) (by decide) (nx_ne h (by decide)) (by omega), cmdC_skip (i := 9) (by decide) (nx_ne h (by decide)) (by omega), cmdC_skip (i := 10) (by decide) (nx_ne h (by decide)) (by omega), cmdC_skip (i := 11) (by decide) (nx_ne h (by decide)) (by omega), cmdC_skip (i := 12) (by decide) (nx_ne h (by decide)) (by omega)]
    exact ⟨(Bool.eq_false_iff.mpr hy).symm, rfl, fun h => by cases h⟩
theorem eqC_116 (h : nx l a 116 = true) : CmE (cmdC l a 13 0 a) (fmC l 1 a) := by
  rw [cmdC_skip (i := 0) (by decide) (nx_ne h (by decide)) (by omega)]
  by_cases hy : (fmR l 1 a).1 = true
  · rw [cmdC_yes hy]
    exact CmE.rf _
  · have hg := fmR_ge (l := l) (i := 1) (a := a)
    have hm : (if a < (fmR l 1 a).2.1 then (fmR l 1 a).2.1 else a) = (fmR l 1 a).2.1 := by split <;> omega
    rw [cmdC_no hy, hm]
    rw [cmdC_skip (i := 2) (by decide) (nx_ne h (by decide)) (by omega), cmdC_skip (i := 3) (by decide) (nx_ne h (by decide)) (by omega), cmdC_skip (i := 4) (by decide) (nx_ne h (by decide)) (by omega), cmdC_skip (i := 5) (by decide) (nx_ne h (by decide)) (by omega), cmdC_skip (i := 6) (by decide) (nx_ne h (by decide)) (by omega), cmdC_skip (i := 7) (by decide) (nx_ne h (by decide)) (by omega), cmdC_skip (i := 8) (by decide) (nx_ne h (by decide)) (by omega), cmdC_skip (i := 9) (by decide) (nx_ne h (by decide)) (by omega), cmdC_skip (i := 10) (by decide) (nx_ne h (by decide)) (by omega), cmdC_skip (i := 11) (by decide) (nx_ne h (by decide)) (by omega), cmdC_skip (i := 12) (by decide) (nx_ne h (by decide)) (by omega)]
    exact ⟨(Bool.eq_false_iff.mpr hy).symm, rfl, fun h => by cases h⟩
theorem eqC_112a {z : Nat} (h : nx l a 112 = true) (hl : fmR l 12 a = (false, z, [])) (hz : z ≤ (fmR l 2 a).2.1) (haz : a ≤ z) : CmE (cmdC l a 13 0 a) (fmC l 2 a) := by
  rw [cmdC_skip (i := 0) (by decide) (nx_ne h (by decide)) (by omega), cmdC_skip (i := 1) (by decide) (nx_ne h (by decide)) (by omega)]
  by_cases hy : (fmR l 2 a).1 = true
  · rw [cmdC_yes hy]
    exact CmE.rf _
  · rw [cmdC_no hy]
    have hg := fmR_ge (l := l) (i := 2) (a := a)
    have hm : (if a < (fmR l 2 a).2.1 then (fmR l 2 a).2.1 else a) = (fmR l 2 a).2.1 := by split <;> omega
    rw [hm]
    rw [cmdC_skip (i := 3) (by decide) (nx_ne h (by decide)) (by omega), cmdC_skip (i := 4) (by decide) (nx_ne h (by decide)) (by omega), cmdC_skip (i := 5) (by decide) (nx_ne h (by decide)) (by omega), cmdC_skip (i := 6) (by decide) (nx_ne h (by decide)) (by omega), cmdC_skip (i := 7) (by decide) (nx_ne h (by decide)) (by omega), cmdC_skip (i := 8) (by decide) (nx_ne h (by decide)) (by omega), cmdC_skip (i := 9) (by decide) (nx_ne h (by decide)) (by omega), cmdC_skip (i := 10) (by decide) (nx_ne h (by decide)) (by omega), cmdC_skip (i := 11) (by decide) (nx_ne h (by decide)) (by omega)]
    have hn12 : ¬ (fmR l 12 a).1 = true := fun e => by rw [hl] at e; cases e
    rw [cmdC_no hn12, show (fmR l 12 a).2.1 = z from by rw [hl]]
    have hm2 : (if (fmR l 2 a).2.1 < z then z else (fmR l 2 a).2.1) = (fmR l 2 a).2.1 := if_neg (by omega)
    rw [hm2]
    exact ⟨(Bool.eq_false_iff.mpr hy).symm, rfl, fun h => by cases h⟩
theorem eqC_112b {z : Nat} (h : nx l a 112 = true) (hl : fmR l 2 a = (false, z, [])) (hz : z ≤ (fmR l 12 a).2.1) (haz : a ≤ z) : CmE (cmdC l a 13 0 a) (fmC l 12 a) := by
  rw [cmdC_skip (i := 0) (by decide) (nx_ne h (by decide)) (by omega), cmdC_skip (i := 1) (by decide) (nx_ne h (by decide)) (by omega)]
  have hn2 : ¬ (fmR l 2 a).1 = true := fun e => by rw [hl] at e; cases e
  rw [cmdC_no hn2, show (fmR l 2 a).2.1 = z from by rw [hl]]
  have hm : (if a < z then z else a) = z := by split <;> omega
  rw [hm]
  rw [cmdC_skip (i := 3) (by decide) (nx_ne h (by decide)) (by omega), cmdC_skip (i := 4) (by decide) (nx_ne h (by decide)) (by omega), cmdC_skip (i := 5) (by decide) (nx_ne h (by decide)) (by omega), cmdC_skip (i := 6) (by decide) (nx_ne h (by decide)) (by omega), cmdC_skip (i := 7) (by decide) (nx_ne h (by decide)) (by omega), cmdC_skip (i := 8) (by decide) (nx_ne h (by decide)) (by omega), cmdC_skip (i := 9) (by decide) (nx_ne h (by decide)) (by omega), cmdC_skip (i := 10) (by decide) (nx_ne h (by decide)) (by omega), cmdC_skip (i := 11) (by decide) (nx_ne h (by decide)) (by omega)]
  by_cases hy : (fmR l 12 a).1 = true
  · rw [cmdC_yes hy]
    exact CmE.rf _
  · rw [cmdC_no hy]
    have hm2 : (if z < (fmR l 12 a).2.1 then (fmR l 12 a).2.1 else z) = (fmR l 12 a).2.1 := by split <;> omega
    rw [hm2]
    exact ⟨(Bool.eq_false_iff.mpr hy).symm, rfl, fun h => by cases h⟩
theorem eqC_108 (h : nx l a 108 = true) : CmE (cmdC l a 13 0 a) (fmC l 3 a) := by
  rw [cmdC_skip (i := 0) (by decide) (nx_ne h (by decide)) (by omega), cmdC_skip (i := 1) (by decide) (nx_ne h (by decide)) (by omega), cmdC_skip (i := 2) (by decide) (nx_ne h (by decide)) (by omega)]
  by_cases hy : (fmR l 3 a).1 = true
  · rw [cmdC_yes hy]
    exact CmE.rf _
  · have hg := fmR_ge (l := l) (i := 3) (a := a)
    have hm : (if a < (fmR l 3 a).2.1 then (fmR l 3 a).2.1 else a) = (fmR l 3 a).2.1 := by split <;> omega
    rw [cmdC_no hy, hm]
    rw [cmdC_skip (i := 4) (by decide) (nx_ne h (by decide)) (by omega), cmdC_skip (i := 5) (by decide) (nx_ne h (by decide)) (by omega), cmdC_skip (i := 6) (by decide) (nx_ne h (by decide)) (by omega), cmdC_skip (i := 7) (by decide) (nx_ne h (by decide)) (by omega), cmdC_skip (i := 8) (by decide) (nx_ne h (by decide)) (by omega), cmdC_skip (i := 9) (by decide) (nx_ne h (by decide)) (by omega), cmdC_skip (i := 10) (by decide) (nx_ne h (by decide)) (by omega), cmdC_skip (i := 11) (by decide) (nx_ne h (by decide)) (by omega), cmdC_skip (i := 12) (by decide) (nx_ne h (by decide)) (by omega)]
    exact ⟨(Bool.eq_false_iff.mpr hy).symm, rfl, fun h => by cases h⟩
theorem eqC_114a {z : Nat} (h : nx l a 114 = true) (hl : fmR l 5 a = (false, z, [])) (hz : z ≤ (fmR l 4 a).2.1) (haz : a ≤ z) : CmE (cmdC l a 13 0 a) (fmC l 4 a) := by
  rw [cmdC_skip (i := 0) (by decide) (nx_ne h (by decide)) (by omega), cmdC_skip (i := 1) (by decide) (nx_ne h (by decide)) (by omega), cmdC_skip (i := 2) (by decide) (nx_ne h (by decide)) (by omega), cmdC_skip (i := 3) (by decide) (nx_ne h (by decide)) (by omega)]
  by_cases hy : (fmR l 4 a).1 = true
  · rw [cmdC_yes hy]
    exact CmE.rf _
  · rw [cmdC_no hy]
    have hg := fmR_ge (l := l) (i := 4) (a := a)
    have hm : (if a < (fmR l 4 a).2.1 then (fmR l 4 a).2.1 else a) = (fmR l 4 a).2.1 := by split <;> omega
    rw [hm]
    have hn5 : ¬ (fmR l 5 a).1 = true := fun e => by rw [hl] at e; cases e
    rw [cmdC_no hn5, show (fmR l 5 a).2.1 = z from by rw [hl]]
    have hm2 : (if (fmR l 4 a).2.1 < z then z else (fmR l 4 a).2.1) = (fmR l 4 a).2.1 := if_neg (by omega)
    rw [hm2]
    rw [cmdC_skip (i := 6) (by decide) (nx_ne h (by decide)) (by omega), cmdC_skip (i := 7) (by decide) (nx_ne h (by decide)) (by omega), cmdC_skip (i := 8) (by decide) (nx_ne h (by decide)) (by omega), cmdC_skip (i := 9) (by decide) (nx_ne h (by decide)) (by omega), cmdC_skip (i := 10) (by decide) (nx_ne h (by decide)) (by omega), cmdC_skip (i := 11) (by decide) (nx_ne h (by decide)) (by omega), cmdC_skip (i := 12) (by decide) (nx_ne h (by decide)) (by omega)]
    exact ⟨(Bool.eq_false_iff.mpr hy).symm, rfl, fun h => by cases h⟩
theorem eqC_114b {z : Nat} (h : nx l a 114 = true) (hl : fmR l 4 a = (false, z, [])) (hz : z ≤ (fmR l 5 a).2.1) (haz : a ≤ z) : CmE (cmdC l a 13 0 a) (fmC l 5 a) := by
  rw [cmdC_skip (i := 0) (by decide) (nx_ne h (by decide)) (by omega), cmdC_skip (i := 1) (by decide) (nx_ne h (by decide)) (by omega), cmdC_skip (i := 2) (by decide) (nx_ne h (by decide)) (by omega), cmdC_skip (i := 3) (by decide) (nx_ne h (by decide)) (by omega)]
  have hn4 : ¬ (fmR l 4 a).1 = true := fun e => by rw [hl] at e; cases e
  rw [cmdC_no hn4, show (fmR l 4 a).2.1 = z from by rw [hl]]
  have hm : (if a < z then z else a) = z := by split <;> omega
  rw [hm]
  by_cases hy : (fmR l 5 a).1 = true
  · rw [cmdC_yes hy]
    exact CmE.rf _
  · rw [cmdC_no hy]
    have hm2 : (if z < (fmR l 5 a).2.1 then (fmR l 5 a).2.1 else z) = (fmR l 5 a).2.1 := by split <;> omega
    rw [hm2]
    rw [cmdC_skip (i := 6) (by decide) (nx_ne h (by decide)) (by omega), cmdC_skip (i := 7) (by decide) (nx_ne h (by decide)) (by omega), cmdC_skip (i := 8) (by decide) (nx_ne h (by decide)) (by omega), cmdC_skip (i := 9) (by decide) (nx_ne h (by decide)) (by omega), cmdC_skip (i := 10) (by decide) (nx_ne h (by decide)) (by omega), cmdC_skip (i := 11) (by decide) (nx_ne h (by decide)) (by omega), cmdC_skip (i := 12) (by decide) (nx_ne h (by decide)) (by omega)]
    exact ⟨(Bool.eq_false_iff.mpr hy).symm, rfl, fun h => by cases h⟩
theorem eqC_103a {z : Nat} (h : nx l a 103 = true) (hl : fmR l 11 a = (false, z, [])) (hz : z ≤ (fmR l 6 a).2.1) (haz : a ≤ z) : CmE (cmdC l a 13 0 a) (fmC l 6 a) := by
  rw [cmdC_skip (i := 0) (by decide) (nx_ne h (by decide)) (by omega), cmdC_skip (i := 1) (by decide) (nx_ne h (by decide)) (by omega), cmdC_skip (i := 2) (by decide) (nx_ne h (by decide)) (by omega), cmdC_skip (i := 3) (by decide) (nx_ne h (by decide)) (by omega), cmdC_skip (i := 4) (by decide) (nx_ne h (by decide)) (by omega), cmdC_skip (i := 5) (by decide) (nx_ne h (by decide)) (by omega)]
  by_cases hy : (fmR l 6 a).1 = true
  · rw [cmdC_yes hy]
    exact CmE.rf _
  · rw [cmdC_no hy]
    have hg := fmR_ge (l := l) (i := 6) (a := a)
    have hm : (if a < (fmR l 6 a).2.1 then (fmR l 6 a).2.1 else a) = (fmR l 6 a).2.1 := by split <;> omega
    rw [hm]
    rw [cmdC_skip (i := 7) (by decide) (nx_ne h (by decide)) (by omega), cmdC_skip (i := 8) (by decide) (nx_ne h (by decide)) (by omega), cmdC_skip (i := 9) (by decide) (nx_ne h (by decide)) (by omega), cmdC_skip (i := 10) (by decide) (nx_ne h (by decide)) (by omega)]
    have hn11 : ¬ (fmR l 11 a).1 = true := fun e => by rw [hl] at e; cases e
    rw [cmdC_no hn11, show (fmR l 11 a).2.1 = z from by rw [hl]]
    have hm2 : (if (fmR l 6 a).2.1 < z then z else (fmR l 6 a).2.1) = (fmR l 6 a).2.1 := if_neg (by omega)
    rw [hm2]
    rw [cmdC_skip (i := 12) (by decide) (nx_ne h (by decide)) (by omega)]
    exact ⟨(Bool.eq_false_iff.mpr hy).symm, rfl, fun h => by cases h⟩
theorem eqC_103b {z : Nat} (h : nx l a 103 = true) (hl : fmR l 6 a = (false, z, [])) (hz : z ≤ (fmR l 11 a).2.1) (haz : a ≤ z) : CmE (cmdC l a 13 0 a) (fmC l 11 a) := by
  rw [cmdC_skip (i := 0) (by decide) (nx_ne h (by decide)) (by omega), cmdC_skip (i := 1) (by decide) (nx_ne h (by decide)) (by omega), cmdC_skip (i := 2) (by decide) (nx_ne h (by decide)) (by omega), cmdC_skip (i := 3) (by decide) (nx_ne h (by decide)) (by omega), cmdC_skip (i := 4) (by decide) (nx_ne h (by decide)) (by omega), cmdC_skip (i := 5) (by decide) (nx_ne h (by decide)) (by omega)]
  have hn6 : ¬ (fmR l 6 a).1 = true := fun e => by rw [hl] at e; cases e
  rw [cmdC_no hn6, show (fmR l 6 a).2.1 = z from by rw [hl]]
  have hm : (if a < z then z else a) = z := by split <;> omega
  rw [hm]
  rw [cmdC_skip (i := 7) (by decide) (nx_ne h (by decide)) (by omega), cmdC_skip (i := 8) (by decide) (nx_ne h (by decide)) (by omega), cmdC_skip (i := 9) (by decide) (nx_ne h (by decide)) (by omega), cmdC_skip (i := 10) (by decide) (nx_ne h (by decide)) (by omega)]
  by_cases hy : (fmR l 11 a).1 = true
  · rw [cmdC_yes hy]
    exact CmE.rf _
  · rw [cmdC_no hy]
    have hm2 : (if z < (fmR l 11 a).2.1 then (fmR l 11 a).2.1 else z) = (fmR l 11 a).2.1 := by split <;> omega
    rw [hm2]
    rw [cmdC_skip (i := 12) (by decide) (nx_ne h (by decide)) (by omega)]
    exact ⟨(Bool.eq_false_iff.mpr hy).symm, rfl, fun h => by cases h⟩
theorem eqC_115 (h : nx l a 115 = true) : CmE (cmdC l a 13 0 a) (fmC l 7 a) := by
  rw [cmdC_skip (i := 0) (by decide) (nx_ne h (by decide)) (by omega), cmdC_skip (i := 1) (by decide) (nx_ne h (by decide)) (by omega), cmdC_skip (i := 2) (by decide) (nx_ne h (by decide)) (by omega), cmdC_skip (i := 3) (by decide) (nx_ne h (by decide)) (by omega), cmdC_skip (i := 4) (by decide) (nx_ne h (by decide)) (by omega), cmdC_skip (i := 5) (by decide) (nx_ne h (by decide)) (by omega), cmdC_skip (i := 6) (by decide) (nx_ne h (by decide)) (by omega)]
  by_cases hy : (fmR l 7 a).1 = true
  · rw [cmdC_yes hy]
    exact CmE.rf _
  · have hg := fmR_ge (l := l) (i := 7) (a := a)
    have hm : (if a < (fmR l 7 a).2.1 then (fmR l 7 a).2.1 else a) = (fmR l 7 a).2.1 := by split <;> omega
    rw [cmdC_no hy, hm]
    rw [cmdC_skip (i := 8) (by decide) (nx_ne h (by decide)) (by omega), cmdC_skip (i := 9) (by decide) (nx_ne h (by decide)) (by omega), cmdC_skip (i := 10) (by decide) (nx_ne h (by decide)) (by omega), cmdC_skip (i := 11) (by decide) (nx_ne h (by decide)) (by omega), cmdC_skip (i := 12) (by decide) (nx_ne h (by decide)) (by omega)]
    exact ⟨(Bool.eq_false_iff.mpr hy).symm, rfl, fun h => by cases h⟩
theorem eqC_117 (h : nx l a 117 = true) : CmE (cmdC l a 13 0 a) (fmC l 8 a) := by
  rw [cmdC_skip (i := 0) (by decide) (nx_ne h (by decide)) (by omega), cmdC_skip (i := 1) (by decide) (nx_ne h (by decide)) (by omega), cmdC_skip (i := 2) (by decide) (nx_ne h (by decide)) (by omega), cmdC_skip (i := 3) (by decide) (nx_ne h (by decide)) (by omega), cmdC_skip (i := 4) (by decide) (nx_ne h (by decide)) (by omega), cmdC_skip (i := 5) (by decide) (nx_ne h (by decide)) (by omega), cmdC_skip (i := 6) (by decide) (nx_ne h (by decide)) (by omega), cmdC_skip (i := 7) (by decide) (nx_ne h (by decide)) (by omega)]
  by_cases hy : (fmR l 8 a).1 = true
  · rw [cmdC_yes hy]
    exact CmE.rf _
  · have hg := fmR_ge (l := l) (i := 8) (a := a)
    have hm : (if a < (fmR l 8 a).2.1 then (fmR l 8 a).2.1 else a) = (fmR l 8 a).2.1 := by split <;> omega
    rw [cmdC_no hy, hm]
    rw [cmdC_skip (i := 9) (by decide) (nx_ne h (by decide)) (by omega), cmdC_skip (i := 10) (by decide) (nx_ne h (by decide)) (by omega), cmdC_skip (i := 11) (by decide) (nx_ne h (by decide)) (by omega), cmdC_skip (i := 12) (by decide) (nx_ne h (by decide)) (by omega)]
    exact ⟨(Bool.eq_false_iff.mpr hy).symm, rfl, fun h => by cases h⟩
theorem eqC_119 (h : nx l a 119 = true) : CmE (cmdC l a 13 0 a) (fmC l 9 a) := by
  rw [cmdC_skip (i := 0) (by decide) (nx_ne h (by decide)) (by omega), cmdC_skip (i := 1) (by decide) (nx_ne h (by decide)) (by omega), cmdC_skip (i := 2) (by decide) (nx_ne h (by decide)) (by omega), cmdC_skip (i := 3) (by decide) (nx_ne h (by decide)) (by omega), cmdC_skip (i := 4) (by decide) (nx_ne h (by decide)) (by omega), cmdC_skip (i := 5) (by decide) (nx_ne h (by decide)) (by omega), cmdC_skip (i := 6) (by decide) (nx_ne h (by decide)) (by omega), cmdC_skip (i := 7) (by decide) (nx_ne h (by decide)) (by omega), cmdC_skip (i := 8) (by decide) (nx_ne h (by decide)) (by omega)]
  by_cases hy : (fmR l 9 a).1 = true
  · rw [cmdC_yes hy]
    exact CmE.rf _
  · have hg := fmR_ge (l := l) (i := 9) (a := a)
    have hm : (if a < (fmR l 9 a).2.1 then (fmR l 9 a).2.1 else a) = (fmR l 9 a).2.1 := by split <;> omega
    rw [cmdC_no hy, hm]
    rw [cmdC_skip (i := 10) (by decide) (nx_ne h (by decide)) (by omega), cmdC_skip (i := 11) (by decide) (nx_ne h (by decide)) (by omega), cmdC_skip (i := 12) (by decide) (nx_ne h (by decide)) (by omega)]
    exact ⟨(Bool.eq_false_iff.mpr hy).symm, rfl, fun h => by cases h⟩
theorem eqC_118 (h : nx l a 118 = true) : CmE (cmdC l a 13 0 a) (fmC l 10 a) := by
  rw [cmdC_skip (i := 0) (by decide) (nx_ne h (by decide)) (by omega), cmdC_skip (i := 1) (by decide) (nx_ne h (by decide)) (by omega), cmdC_skip (i := 2) (by decide) (nx_ne h (by decide)) (by omega), cmdC_skip (i := 3) (by decide) (nx_ne h (by decide)) (by omega), cmdC_skip (i := 4) (by decide) (nx_ne h (by decide)) (by omega), cmdC_skip (i := 5) (by decide) (nx_ne h (by decide)) (by omega), cmdC_skip (i := 6) (by decide) (nx_ne h (by decide)) (by omega), cmdC_skip (i := 7) (by decide) (nx_ne h (by decide)) (by omega), cmdC_skip (i := 8) (by decide) (nx_ne h (by decide)) (by omega), cmdC_skip (i := 9) (by decide) (nx_ne h (by decide)) (by omega)]
  by_cases hy : (fmR l 10 a).1 = true
  · rw [cmdC_yes hy]
    exact CmE.rf _
  · have hg := fmR_ge (l := l) (i := 10) (a := a)
    have hm : (if a < (fmR l 10 a).2.1 then (fmR l 10 a).2.1 else a) = (fmR l 10 a).2.1 := by split <;> omega
    rw [cmdC_no hy, hm]
    rw [cmdC_skip (i := 11) (by decide) (nx_ne h (by decide)) (by omega), cmdC_skip (i := 12) (by decide) (nx_ne h (by decide)) (by omega)]
    exact ⟨(Bool.eq_false_iff.mpr hy).symm, rfl, fun h => by cases h⟩
theorem eqC_none (h99 : nx l a 99 = false) (h116 : nx l a 116 = false) (h112 : nx l a 112 = false) (h108 : nx l a 108 = false) (h114 : nx l a 114 = false) (h103 : nx l a 103 = false) (h115 : nx l a 115 = false) (h117 : nx l a 117 = false) (h119 : nx l a 119 = false) (h118 : nx l a 118 = false) : CmE (cmdC l a 13 0 a) (fmC l 10 a) := by
  rw [cmdC_skip (i := 0) (by decide) (show nx l a 99 = false from h99) (by omega), cmdC_skip (i := 1) (by decide) (show nx l a 116 = false from h116) (by omega), cmdC_skip (i := 2) (by decide) (show nx l a 112 = false from h112) (by omega), cmdC_skip (i := 3) (by decide) (show nx l a 108 = false from h108) (by omega), cmdC_skip (i := 4) (by decide) (show nx l a 114 = false from h114) (by omega), cmdC_skip (i := 5) (by decide) (show nx l a 114 = false from h114) (by omega), cmdC_skip (i := 6) (by decide) (show nx l a 103 = false from h103) (by omega), cmdC_skip (i := 7) (by decide) (show nx l a 115 = false from h115) (by omega), cmdC_skip (i := 8) (by decide) (show nx l a 117 = false from h117) (by omega), cmdC_skip (i := 9) (by decide) (show nx l a 119 = false from h119) (by omega), cmdC_skip (i := 10) (by decide) (show nx l a 118 = false from h118) (by omega), cmdC_skip (i := 11) (by decide) (show nx l a 103 = false from h103) (by omega), cmdC_skip (i := 12) (by decide) (show nx l a 112 = false from h112) (by omega)]
  have e : fmR l 10 a = (false, a, []) := fmR_n (by decide) h118
  unfold fmC
  rw [e]
  exact ⟨rfl, rfl, fun h => by cases h⟩
theorem eqC_all (l : Ln) (a : Nat) : CmE (cmdC l a 13 0 a) (cmdM l a) := by
  unfold cmdM
  by_cases h99 : nx l a 99 = true
  · rw [if_pos h99]
    exact eqC_99 h99
  rw [if_neg h99]
  by_cases h116 : nx l a 116 = true
  · rw [if_pos h116]
    exact eqC_116 h116
  rw [if_neg h116]
  by_cases h112 : nx l a 112 = true
  · rw [if_pos h112]
    by_cases h1 : nx l (a + 1) 97 = true
    · rw [if_pos h1]
      have g2 : a + 1 + 1 ≤ (fmR l 2 a).2.1 := by
        have e : fmR l 2 a = mG l (frmN 2) 5 2 (a + 1 + 1) := (mG_y rfl (by decide) (by decide) h112).trans (mG_y rfl (by decide) (by decide) h1)
        rw [e]
        exact mG_ge _
      have g12 : a + 1 + 1 ≤ (fmR l 12 a).2.1 := by
        have e : fmR l 12 a = mG l (frmN 12) 4 2 (a + 1 + 1) := (mG_y rfl (by decide) (by decide) h112).trans (mG_y rfl (by decide) (by decide) h1)
        rw [e]
        exact mG_ge _
      by_cases h2 : nx l (a + 1 + 1) 121 = true
      · rw [if_pos h2]
        exact eqC_112a h112 ((mG_y rfl (by decide) (by decide) h112).trans ((mG_y rfl (by decide) (by decide) h1).trans (mG_n (c := 115) rfl (by decide) (by decide) (nx_ne h2 (by decide))))) g2 (by omega)
      · rw [if_neg h2]
        exact eqC_112b h112 ((mG_y rfl (by decide) (by decide) h112).trans ((mG_y rfl (by decide) (by decide) h1).trans (mG_n rfl (by decide) (by decide) (Bool.eq_false_iff.mpr h2)))) g12 (by omega)
    · rw [if_neg h1]
      have h1f := Bool.eq_false_iff.mpr h1
      have e2 : fmR l 2 a = (false, a + 1, []) := (mG_y rfl (by decide) (by decide) h112).trans (mG_n rfl (by decide) (by decide) h1f)
      exact eqC_112a (z := a + 1) h112 ((mG_y rfl (by decide) (by decide) h112).trans (mG_n rfl (by decide) (by decide) h1f)) (by rw [e2]; exact Nat.le_refl _) (by omega)
  rw [if_neg h112]
  by_cases h108 : nx l a 108 = true
  · rw [if_pos h108]
    exact eqC_108 h108
  rw [if_neg h108]
  by_cases h114 : nx l a 114 = true
  · rw [if_pos h114]
    by_cases h1 : nx l (a + 1) 101 = true
    · rw [if_pos h1]
      have g4 : a + 1 + 1 ≤ (fmR l 4 a).2.1 := by
        have e : fmR l 4 a = mG l (frmN 4) 5 2 (a + 1 + 1) := (mG_y rfl (by decide) (by decide) h114).trans (mG_y rfl (by decide) (by decide) h1)
        rw [e]
        exact mG_ge _
      have g5 : a + 1 + 1 ≤ (fmR l 5 a).2.1 := by
        have e : fmR l 5 a = mG l (frmN 5) 7 2 (a + 1 + 1) := (mG_y rfl (by decide) (by decide) h114).trans (mG_y rfl (by decide) (by decide) h1)
        rw [e]
        exact mG_ge _
      by_cases h2 : nx l (a + 1 + 1) 110 = true
      · rw [if_pos h2]
        exact eqC_114a h114 ((mG_y rfl (by decide) (by decide) h114).trans ((mG_y rfl (by decide) (by decide) h1).trans (mG_n (c := 116) rfl (by decide) (by decide) (nx_ne h2 (by decide))))) g4 (by omega)
      · rw [if_neg h2]
        exact eqC_114b h114 ((mG_y rfl (by decide) (by decide) h114).trans ((mG_y rfl (by decide) (by decide) h1).trans (mG_n rfl (by decide) (by decide) (Bool.eq_false_iff.mpr h2)))) g5 (by omega)
    · rw [if_neg h1]
      have h1f := Bool.eq_false_iff.mpr h1
      have e2 : fmR l 4 a = (false, a + 1, []) := (mG_y rfl (by decide) (by decide) h114).trans (mG_n rfl (by decide) (by decide) h1f)
      exact eqC_114a (z := a + 1) h114 ((mG_y rfl (by decide) (by decide) h114).trans (mG_n rfl (by decide) (by decide) h1f)) (by rw [e2]; exact Nat.le_refl _) (by omega)
  rw [if_neg h114]
  by_cases h103 : nx l a 103 = true
  · rw [if_pos h103]
    have g6 : a + 1 ≤ (fmR l 6 a).2.1 := by
      have e : fmR l 6 a = mG l (frmN 6) 8 1 (a + 1) := mG_y rfl (by decide) (by decide) h103
      rw [e]
      exact mG_ge _
    have g11 : a + 1 ≤ (fmR l 11 a).2.1 := by
      have e : fmR l 11 a = mG l (frmN 11) 5 1 (a + 1) := mG_y rfl (by decide) (by decide) h103
      rw [e]
      exact mG_ge _
    by_cases h1 : nx l (a + 1) 114 = true
    · rw [if_pos h1]
      exact eqC_103a h103 ((mG_y rfl (by decide) (by decide) h103).trans (mG_n (c := 117) rfl (by decide) (by decide) (nx_ne h1 (by decide)))) g6 (by omega)
    · rw [if_neg h1]
      exact eqC_103b h103 ((mG_y rfl (by decide) (by decide) h103).trans (mG_n rfl (by decide) (by decide) (Bool.eq_false_iff.mpr h1))) g11 (by omega)
  rw [if_neg h103]
  by_cases h115 : nx l a 115 = true
  · rw [if_pos h115]
    exact eqC_115 h115
  rw [if_neg h115]
  by_cases h117 : nx l a 117 = true
  · rw [if_pos h117]
    exact eqC_117 h117
  rw [if_neg h117]
  by_cases h119 : nx l a 119 = true
  · rw [if_pos h119]
    exact eqC_119 h119
  rw [if_neg h119]
  by_cases h118 : nx l a 118 = true
  · exact eqC_118 h118
  exact eqC_none (Bool.eq_false_iff.mpr h99) (Bool.eq_false_iff.mpr h116) (Bool.eq_false_iff.mpr h112) (Bool.eq_false_iff.mpr h108) (Bool.eq_false_iff.mpr h114) (Bool.eq_false_iff.mpr h103) (Bool.eq_false_iff.mpr h115) (Bool.eq_false_iff.mpr h117) (Bool.eq_false_iff.mpr h119) (Bool.eq_false_iff.mpr h118)
end
