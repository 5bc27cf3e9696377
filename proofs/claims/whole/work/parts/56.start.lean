def piK (k : Nat) : Nat := if k = 0 then 0 else if k = 1 then 40 else if k = 2 then 41 else if k = 3 then 146 else if k = 4 then 149 else if k = 5 then 150 else if k < 45 then k - 5 else if k < 149 then k - 3 else if k = 149 then 147 else if k = 150 then 151 else k + 2
def lwB (a : Nat) (s0 s1 s2 bh bc sb bm : Nat → Nat) (o1 o2 : Nat) : Nat → Nat := ap 163 (ap 162 (ap 153 (faB a s0 s1 s2 bh bc sb) bm) (fun _ => o1)) (fun _ => o2)
def lwC (E : Ev) (s0 s1 s2 bh bc sb bm : Nat → Nat) (x1 x2 y1 y2 : va_E) : Nat → va_E := ap 163 (ap 162 (ap 153 (faC E s0 s1 s2 bh bc sb x1 x2 y1 y2) (mxC E bm T00)) (fun _ => .inl (E.2.2.2.1 3, 1, .inr (.inl (fun _ => 0))))) (fun _ => .inl (E.2.2.2.1 4, 1, .inr (.inr (.inr (.inl (fun _ => 0))))))
def lwb (a : Nat) (s0 s1 s2 bh bc sb bm : Nat → Nat) (o1 o2 : Nat) : Nat → Nat := fun k => lwB a s0 s1 s2 bh bc sb bm o1 o2 (piK k)
/-- what the world is made of at the start -/
def K00 : Kt := (fun i => if i = 1 then -1 else if i = 2 then -1 else if i = 3 then -1 else 0, fun _ => S0, fun _ _ => 0, fun _ => lnz, T00, fun _ => 0, fun _ => 0, fun _ => 0)
theorem piK_inj : ∀ x y : Fin 162, piK x.1 = piK y.1 → x = y := by decide +kernel
theorem piK_lt : ∀ x : Fin 162, piK x.1 < 164 ∧ piK x.1 ≠ 148 ∧ piK x.1 ≠ 152 := by decide +kernel
section ST
variable {E : Ev} {a : Nat} {s0 s1 s2 bh bc sb bm : Nat → Nat} {o1 o2 : Nat} {x1 x2 y1 y2 : va_E}

theorem lc_s0 {j : Nat} (hj : j < 13) : (lwC E s0 s1 s2 bh bc sb bm x1 x2 y1 y2) (piK (6 + 13 * 0 + j)) = sxC E (bS (lwb a s0 s1 s2 bh bc sb bm o1 o2) 0) S0 j := by
  match j, hj with
  | 0, _ => rfl
  | 1, _ => rfl
  | 2, _ => rfl
  | 3, _ => rfl
  | 4, _ => rfl
  | 5, _ => rfl
  | 6, _ => rfl
  | 7, _ => rfl
  | 8, _ => rfl
  | 9, _ => rfl
  | 10, _ => rfl
  | 11, _ => rfl
  | 12, _ => rfl
  | j + 13, h => exact absurd h (by omega)
theorem lc_s1 {j : Nat} (hj : j < 13) : (lwC E s0 s1 s2 bh bc sb bm x1 x2 y1 y2) (piK (6 + 13 * 1 + j)) = sxC E (bS (lwb a s0 s1 s2 bh bc sb bm o1 o2) 1) S0 j := by
  match j, hj with
  | 0, _ => rfl
  | 1, _ => rfl
  | 2, _ => rfl
  | 3, _ => rfl
  | 4, _ => rfl
  | 5, _ => rfl
  | 6, _ => rfl
  | 7, _ => rfl
  | 8, _ => rfl
  | 9, _ => rfl
  | 10, _ => rfl
  | 11, _ => rfl
  | 12, _ => rfl
  | j + 13, h => exact absurd h (by omega)
theorem lc_s2 {j : Nat} (hj : j < 13) : (lwC E s0 s1 s2 bh bc sb bm x1 x2 y1 y2) (piK (6 + 13 * 2 + j)) = sxC E (bS (lwb a s0 s1 s2 bh bc sb bm o1 o2) 2) S0 j := by
  match j, hj with
  | 0, _ => rfl
  | 1, _ => rfl
  | 2, _ => rfl
  | 3, _ => rfl
  | 4, _ => rfl
  | 5, _ => rfl
  | 6, _ => rfl
  | 7, _ => rfl
  | 8, _ => rfl
  | 9, _ => rfl
  | 10, _ => rfl
  | 11, _ => rfl
  | 12, _ => rfl
  | j + 13, h => exact absurd h (by omega)
theorem lc_s3 {j : Nat} (hj : j < 13) : (lwC E s0 s1 s2 bh bc sb bm x1 x2 y1 y2) (piK (6 + 13 * 3 + j)) = sxC E (bS (lwb a s0 s1 s2 bh bc sb bm o1 o2) 3) S0 j := by
  match j, hj with
  | 0, _ => rfl
  | 1, _ => rfl
  | 2, _ => rfl
  | 3, _ => rfl
  | 4, _ => rfl
  | 5, _ => rfl
  | 6, _ => rfl
  | 7, _ => rfl
  | 8, _ => rfl
  | 9, _ => rfl
  | 10, _ => rfl
  | 11, _ => rfl
  | 12, _ => rfl
  | j + 13, h => exact absurd h (by omega)
theorem lc_s4 {j : Nat} (hj : j < 13) : (lwC E s0 s1 s2 bh bc sb bm x1 x2 y1 y2) (piK (6 + 13 * 4 + j)) = sxC E (bS (lwb a s0 s1 s2 bh bc sb bm o1 o2) 4) S0 j := by
  match j, hj with
  | 0, _ => rfl
  | 1, _ => rfl
  | 2, _ => rfl
  | 3, _ => rfl
  | 4, _ => rfl
  | 5, _ => rfl
  | 6, _ => rfl
  | 7, _ => rfl
  | 8, _ => rfl
  | 9, _ => rfl
  | 10, _ => rfl
  | 11, _ => rfl
  | 12, _ => rfl
  | j + 13, h => exact absurd h (by omega)
theorem lc_s5 {j : Nat} (hj : j < 13) : (lwC E s0 s1 s2 bh bc sb bm x1 x2 y1 y2) (piK (6 + 13 * 5 + j)) = sxC E (bS (lwb a s0 s1 s2 bh bc sb bm o1 o2) 5) S0 j := by
  match j, hj with
  | 0, _ => rfl
  | 1, _ => rfl
  | 2, _ => rfl
  | 3, _ => rfl
  | 4, _ => rfl
  | 5, _ => rfl
  | 6, _ => rfl
  | 7, _ => rfl
  | 8, _ => rfl
  | 9, _ => rfl
  | 10, _ => rfl
  | 11, _ => rfl
  | 12, _ => rfl
  | j + 13, h => exact absurd h (by omega)
theorem lc_s6 {j : Nat} (hj : j < 13) : (lwC E s0 s1 s2 bh bc sb bm x1 x2 y1 y2) (piK (6 + 13 * 6 + j)) = sxC E (bS (lwb a s0 s1 s2 bh bc sb bm o1 o2) 6) S0 j := by
  match j, hj with
  | 0, _ => rfl
  | 1, _ => rfl
  | 2, _ => rfl
  | 3, _ => rfl
  | 4, _ => rfl
  | 5, _ => rfl
  | 6, _ => rfl
  | 7, _ => rfl
  | 8, _ => rfl
  | 9, _ => rfl
  | 10, _ => rfl
  | 11, _ => rfl
  | 12, _ => rfl
  | j + 13, h => exact absurd h (by omega)
theorem lc_s7 {j : Nat} (hj : j < 13) : (lwC E s0 s1 s2 bh bc sb bm x1 x2 y1 y2) (piK (6 + 13 * 7 + j)) = sxC E (bS (lwb a s0 s1 s2 bh bc sb bm o1 o2) 7) S0 j := by
  match j, hj with
  | 0, _ => rfl
  | 1, _ => rfl
  | 2, _ => rfl
  | 3, _ => rfl
  | 4, _ => rfl
  | 5, _ => rfl
  | 6, _ => rfl
  | 7, _ => rfl
  | 8, _ => rfl
  | 9, _ => rfl
  | 10, _ => rfl
  | 11, _ => rfl
  | 12, _ => rfl
  | j + 13, h => exact absurd h (by omega)
theorem lc_s8 {j : Nat} (hj : j < 13) : (lwC E s0 s1 s2 bh bc sb bm x1 x2 y1 y2) (piK (6 + 13 * 8 + j)) = sxC E (bS (lwb a s0 s1 s2 bh bc sb bm o1 o2) 8) S0 j := by
  match j, hj with
  | 0, _ => rfl
  | 1, _ => rfl
  | 2, _ => rfl
  | 3, _ => rfl
  | 4, _ => rfl
  | 5, _ => rfl
  | 6, _ => rfl
  | 7, _ => rfl
  | 8, _ => rfl
  | 9, _ => rfl
  | 10, _ => rfl
  | 11, _ => rfl
  | 12, _ => rfl
  | j + 13, h => exact absurd h (by omega)
theorem lc_s9 {j : Nat} (hj : j < 13) : (lwC E s0 s1 s2 bh bc sb bm x1 x2 y1 y2) (piK (6 + 13 * 9 + j)) = sxC E (bS (lwb a s0 s1 s2 bh bc sb bm o1 o2) 9) S0 j := by
  match j, hj with
  | 0, _ => rfl
  | 1, _ => rfl
  | 2, _ => rfl
  | 3, _ => rfl
  | 4, _ => rfl
  | 5, _ => rfl
  | 6, _ => rfl
  | 7, _ => rfl
  | 8, _ => rfl
  | 9, _ => rfl
  | 10, _ => rfl
  | 11, _ => rfl
  | 12, _ => rfl
  | j + 13, h => exact absurd h (by omega)
theorem lc_s10 {j : Nat} (hj : j < 13) : (lwC E s0 s1 s2 bh bc sb bm x1 x2 y1 y2) (piK (6 + 13 * 10 + j)) = sxC E (bS (lwb a s0 s1 s2 bh bc sb bm o1 o2) 10) S0 j := by
  match j, hj with
  | 0, _ => rfl
  | 1, _ => rfl
  | 2, _ => rfl
  | 3, _ => rfl
  | 4, _ => rfl
  | 5, _ => rfl
  | 6, _ => rfl
  | 7, _ => rfl
  | 8, _ => rfl
  | 9, _ => rfl
  | 10, _ => rfl
  | 11, _ => rfl
  | 12, _ => rfl
  | j + 13, h => exact absurd h (by omega)
theorem lc_m {j : Nat} (hj : j < 9) : (lwC E s0 s1 s2 bh bc sb bm x1 x2 y1 y2) (piK (151 + j)) = mxC E (bM (lwb a s0 s1 s2 bh bc sb bm o1 o2)) (setA T00 1 (fun _ => 0)) j := by
  match j, hj with
  | 0, _ => rfl
  | 1, _ => rfl
  | 2, _ => rfl
  | 3, _ => rfl
  | 4, _ => rfl
  | 5, _ => rfl
  | 6, _ => rfl
  | 7, _ => rfl
  | 8, _ => rfl
  | j + 9, h => exact absurd h (by omega)
theorem lc_l {k : Nat} (hk : k < 6) : (lwC E s0 s1 s2 bh bc sb bm x1 x2 y1 y2) (piK k) = kC0 E (lwb a s0 s1 s2 bh bc sb bm o1 o2) K00 k := by
  match k, hk with
  | 0, _ => rfl
  | 1, _ => rfl
  | 3, _ => rfl
  | 4, _ => rfl
  | 5, _ => rfl
  | 2, _ =>
    show (.inl (E.2.2.2.1 6, 8, .inr (.inr (.inr (.inr (ringF bh 8))))) : va_E) = .inl (E.2.2.2.1 6, 8, .inr (.inr (.inr (.inr (fun i => if i < 8 then some ((lwb a s0 s1 s2 bh bc sb bm o1 o2) (45 + 13 * i)) else none)))))
    have e : ringF bh 8 = fun i => if i < 8 then some ((lwb a s0 s1 s2 bh bc sb bm o1 o2) (45 + 13 * i)) else none := by
      funext i
      unfold ringF
      by_cases hi : i < 8
      · rw [if_pos hi, if_pos hi]
        match i, hi with
        | 0, _ => rfl
        | 1, _ => rfl
        | 2, _ => rfl
        | 3, _ => rfl
        | 4, _ => rfl
        | 5, _ => rfl
        | 6, _ => rfl
        | 7, _ => rfl
        | i + 8, h => exact absurd h (by omega)
      · rw [if_neg hi, if_neg hi]
    rw [e]
  | k + 6, h => exact absurd h (by omega)
theorem lc_all {k : Nat} (hk : okC k) : (lwC E s0 s1 s2 bh bc sb bm x1 x2 y1 y2) (piK k) = kCell E (lwb a s0 s1 s2 bh bc sb bm o1 o2) K00 k := by
  obtain ⟨h1, h2, h3⟩ := hk
  by_cases h6 : k < 6
  · rw [kC_low h6]
    exact lc_l h6
  · by_cases h149 : k < 149
    · obtain ⟨i, j, hi, hj, rfl⟩ : ∃ i j, i < 11 ∧ j < 13 ∧ k = 6 + 13 * i + j := ⟨(k - 6) / 13, (k - 6) % 13, by omega, by omega, by omega⟩
      rw [kC_st hi hj]
      match i, hi with
      | 0, _ => exact lc_s0 hj
      | 1, _ => exact lc_s1 hj
      | 2, _ => exact lc_s2 hj
      | 3, _ => exact lc_s3 hj
      | 4, _ => exact lc_s4 hj
      | 5, _ => exact lc_s5 hj
      | 6, _ => exact lc_s6 hj
      | 7, _ => exact lc_s7 hj
      | 8, _ => exact lc_s8 hj
      | 9, _ => exact lc_s9 hj
      | 10, _ => exact lc_s10 hj
      | i + 11, h => exact absurd h (by omega)
    · by_cases h160 : k < 160
      · obtain ⟨j, hj, rfl⟩ : ∃ j, j < 9 ∧ k = 151 + j := ⟨k - 151, by omega, by omega⟩
        rw [kC_md hj]
        exact lc_m hj
      · rcases (show k = 160 ∨ k = 161 by omega) with rfl | rfl
        · rfl
        · rfl
/-- the world is there -/
theorem start_wd {M0 M : Hp} (hB : Bd E M0 M 164 (lwB a s0 s1 s2 bh bc sb bm o1 o2) (lwC E s0 s1 s2 bh bc sb bm x1 x2 y1 y2)) (h8 : SbP E (bc 1) z0 0 (bc 2) 16 M) (h9 : SbP E (sb 0) z0 0 (sb 1) 16 M) : Lay E 162 (lwb a s0 s1 s2 bh bc sb bm o1 o2) ∧ Wd E (lwb a s0 s1 s2 bh bc sb bm o1 o2) K00 M := by
  obtain ⟨g1, g2, g3⟩ := hB
  have hin : ∀ x y, x < 162 → y < 162 → (lwb a s0 s1 s2 bh bc sb bm o1 o2) x = (lwb a s0 s1 s2 bh bc sb bm o1 o2) y → x = y := fun x y hx hy e => by
    have h := g2 _ _ (piK_lt ⟨x, hx⟩).1 (piK_lt ⟨y, hy⟩).1 e
    have h2 := piK_inj ⟨x, hx⟩ ⟨y, hy⟩ h
    exact congrArg Fin.val h2
  refine ⟨⟨hin, fun x hx => (g1 _ (piK_lt ⟨x, hx⟩).1).2.1⟩, fun k hk => ?_, bc 2, 16, sb 1, 16, h8, h9, fun e => ?_, fun k hk => ⟨fun e => ?_, fun e => ?_⟩⟩
  · rw [← lc_all (x1 := x1) (x2 := x2) (y1 := y1) (y2 := y2) hk]
    exact (g1 _ (piK_lt ⟨k, hk.1⟩).1).2.2
  · have := g2 148 152 (by decide) (by decide) e
    omega
  · exact (piK_lt ⟨k, hk⟩).2.1 (g2 _ 148 (piK_lt ⟨k, hk⟩).1 (by decide) e)
  · exact (piK_lt ⟨k, hk⟩).2.2 (g2 _ 152 (piK_lt ⟨k, hk⟩).1 (by decide) e)
end ST
theorem sim_start : Sim K00 0 := by
  have hb0 : vp_nar .boolean (0 : Int32) = 0 := by decide
  have hc0 : vp_nar .char (0 : Int32) = 0 := by decide
  have hn : Nar S0 := ⟨fun _ => hb0, fun _ => hc0, fun _ => hb0⟩
  refine ⟨0, 0, 0, ⟨⟨⟨rfl, by decide, rfl, by decide, rfl, by decide⟩, hn, fun c h => absurd h (Nat.not_lt_zero c), fun c h => absurd h (Nat.not_lt_zero c), fun c h => absurd h (Nat.not_lt_zero c), fun c h => absurd h (Nat.not_lt_zero c), fun c h => absurd h (Nat.not_lt_zero c), ⟨⟨0, Nat.le_refl _, rfl⟩, fun c h => absurd h (Nat.not_lt_zero c)⟩, rfl⟩, ?_⟩, fun _ _ => hn, ⟨0, 0, 0, ⟨rfl, rfl, by decide, by decide⟩, ⟨rfl, rfl, by decide, by decide⟩, fun j h => absurd h (Nat.not_lt_zero j)⟩, ⟨rfl, fun h => absurd rfl h⟩, ⟨rfl, Nat.zero_le _, fun i h => absurd h (Nat.not_lt_zero i), fun i h => absurd h (Nat.not_lt_zero i)⟩, ⟨⟨rfl, fun i h => absurd h (Nat.not_lt_zero i)⟩, Nat.zero_le _⟩, ⟨rfl, rfl, Or.inl rfl, Or.inl ⟨rfl, rfl⟩⟩⟩
  refine w_ext (fun i hi => ?_) (fun c x hc hx => ?_) (fun t x ht hx => ?_) (fun k x hk hx => ?_) (fun i hi => (w_h hi).symm)
  · rw [w_s hi]
    unfold scO
    split <;> rfl
  · rw [w_c hc hx, if_neg (Nat.not_lt_zero c)]
    rfl
  · rw [w_t ht hx, if_neg (Nat.not_lt_zero t)]
    rfl
  · rw [w_m hk hx, if_neg (Nat.not_lt_zero k)]
    rfl
