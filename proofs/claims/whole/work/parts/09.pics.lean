/-! PICTURES: what the cells of a system of objects are, out of numbers and rows of numbers -/
abbrev St : Type := (Nat → Int32) × (Nat → Nat → Int32)
def setS (S : St) (k : Nat) (v : Int32) : St := (fun i => if i = k then v else S.1 i, S.2)
def setA (S : St) (k : Nat) (f : Nat → Int32) : St := (S.1, fun i => if i = k then f else S.2 i)
def it {α : Type} (f : Nat → α → α) (a : α) : Nat → α
  | 0 => a
  | n + 1 => f n (it f a n)
def putP (n : Nat) (f : Nat → va_E) (b : Nat → Nat) (M : Hp) : Hp := fun a => match (List.range n).find? (fun k => b k == a) with
  | some k => some (f k)
  | none => M a
/-- the addresses of a layout: apart, and above the law's start -/
def Lay (E : Ev) (n : Nat) (b : Nat → Nat) : Prop := (∀ i j, i < n → j < n → b i = b j → i = j) ∧ ∀ i, i < n → E.2.2.1 ≤ b i
theorem putP_at {E : Ev} {n k : Nat} {f : Nat → va_E} {b : Nat → Nat} {M : Hp} (hb : Lay E n b) (hk : k < n) : putP n f b M (b k) = some (f k) := by
  unfold putP
  have h : (List.range n).find? (fun j => b j == b k) = some k := by
    rw [List.find?_eq_some_iff_getElem]
    refine ⟨by simp, k, by simpa using hk, by simp, fun j hj => ?_⟩
    simp only [List.getElem_range, Bool.not_eq_eq_eq_not, Bool.not_true, beq_eq_false_iff_ne, ne_eq]
    intro e
    have := hb.1 j k (by omega) hk e
    omega
  rw [h]
theorem putP_off {n : Nat} {f : Nat → va_E} {b : Nat → Nat} {M : Hp} {a : Nat} (h : ∀ k, k < n → b k ≠ a) : putP n f b M a = M a := by
  unfold putP
  have h2 : (List.range n).find? (fun j => b j == a) = none := by
    rw [List.find?_eq_none]
    intro j hj
    simpa using h j (List.mem_range.mp hj)
  rw [h2]
theorem putP_ext {E : Ev} {n : Nat} {f : Nat → va_E} {b : Nat → Nat} {M M1 : Hp} (hb : Lay E n b) (h1 : ∀ k, k < n → M1 (b k) = some (f k)) (h2 : ∀ a, (∀ k, k < n → b k ≠ a) → M1 a = M a) : M1 = putP n f b M := by
  funext a
  by_cases h : ∃ k, k < n ∧ b k = a
  · obtain ⟨k, hk, rfl⟩ := h
    rw [h1 k hk, putP_at hb hk]
  · have h3 : ∀ k, k < n → b k ≠ a := fun k hk e => h ⟨k, hk, e⟩
    rw [h2 a h3, putP_off h3]
theorem putP_put {E : Ev} {n k : Nat} {f g : Nat → va_E} {b : Nat → Nat} {M : Hp} {x : va_E} (hb : Lay E n b) (hk : k < n) (hx : x = g k) (h : ∀ j, j < n → j ≠ k → g j = f j) : hput (putP n f b M) (b k) x = putP n g b M := by
  subst hx
  refine putP_ext hb (fun j hj => ?_) (fun a ha => ?_)
  · by_cases e : j = k
    · subst e
      exact hput_s _ _ _
    · rw [hput_n (fun z => e (hb.1 j k hj hk z)), putP_at hb hj, h j hj e]
  · rw [hput_n (fun z => ha k hk z.symm), putP_off ha]
theorem putP_self {E : Ev} {n : Nat} {f : Nat → va_E} {b : Nat → Nat} {M : Hp} (hb : Lay E n b) (h : ∀ k, k < n → M (b k) = some (f k)) : putP n f b M = M := (putP_ext hb h (fun _ _ => rfl)).symm
theorem putP_twice {E : Ev} {n : Nat} {f g : Nat → va_E} {b : Nat → Nat} {M : Hp} (hb : Lay E n b) : putP n g b (putP n f b M) = putP n g b M :=
  putP_ext hb (fun _ hk => putP_at hb hk) (fun _ ha => by rw [putP_off ha, putP_off ha])
/-- two layouts apart -/
def Apart (n1 : Nat) (b1 : Nat → Nat) (n2 : Nat) (b2 : Nat → Nat) : Prop := ∀ i j, i < n1 → j < n2 → b1 i ≠ b2 j
theorem putP_comm {E : Ev} {n1 n2 : Nat} {f1 f2 : Nat → va_E} {b1 b2 : Nat → Nat} {M : Hp} (h1 : Lay E n1 b1) (h2 : Lay E n2 b2) (ha : Apart n1 b1 n2 b2) : putP n1 f1 b1 (putP n2 f2 b2 M) = putP n2 f2 b2 (putP n1 f1 b1 M) := by
  refine (putP_ext h1 (fun k hk => ?_) (fun a hn => ?_)).symm
  · rw [putP_off (fun j hj e => ha k j hk hj e.symm), putP_at h1 hk]
  · by_cases h : ∃ j, j < n2 ∧ b2 j = a
    · obtain ⟨j, hj, rfl⟩ := h
      rw [putP_at h2 hj, putP_at h2 hj]
    · have h3 : ∀ k, k < n2 → b2 k ≠ a := fun k hk e => h ⟨k, hk, e⟩
      rw [putP_off h3, putP_off hn, putP_off h3]
theorem nI_m {a b : Nat} : nI a * nI b = nI (a * b) := pk_mul a b
theorem inc1 (j : Nat) : nI j + Int32.ofInt 1 = nI (j + 1) := nI_1 j
theorem cF {x : Int32} {j N : Nat} (hx : x = nI N) (h : j < N) (hN : N < 100000) : ¬ x ≤ nI j := by
  rw [hx]
  exact nI_ge h (by omega)
theorem cT {x : Int32} {j N : Nat} (hx : x = nI N) (h : N ≤ j) (hN : j < 100000) : x ≤ nI j := by
  rw [hx]
  exact nI_le h (by omega)

def sxC (E : Ev) (b : Nat → Nat) (S : St) : Nat → va_E := fun k => match k with
  | 0 => .inr (7, [.int (S.1 0), .ref (b 1), .ref (b 2), .ref (b 3), .int (S.1 1), .ref (b 4), .ref (b 5), .ref (b 6), .int (S.1 2), .int (S.1 3), .int (S.1 4), .int (S.1 5), .int (S.1 6)])
  | 1 => .inl (E.2.2.2.1 0, 6, .inl (S.2 1))
  | 2 => .inl (E.2.2.2.1 0, 6, .inl (S.2 2))
  | 3 => .inl (E.2.2.2.1 2, 6, .inl (S.2 3))
  | 4 => .inl (E.2.2.2.1 0, 8, .inl (S.2 4))
  | 5 => .inl (E.2.2.2.1 0, 8, .inl (S.2 5))
  | 6 => .inr (6, [.int (S.1 7), .int (S.1 8), .ref (b 7), .ref (b 8), .ref (b 9), .ref (b 10), .ref (b 11), .ref (b 12)])
  | 7 => .inl (E.2.2.2.1 0, 8, .inl (S.2 7))
  | 8 => .inl (E.2.2.2.1 1, 8, .inl (S.2 8))
  | 9 => .inl (E.2.2.2.1 0, 8, .inl (S.2 9))
  | 10 => .inl (E.2.2.2.1 0, 8, .inl (S.2 10))
  | 11 => .inl (E.2.2.2.1 0, 8, .inl (S.2 11))
  | _ => .inl (E.2.2.2.1 2, 8, .inl (S.2 12))
abbrev StP (E : Ev) (b : Nat → Nat) (S : St) (M : Hp) : Hp := putP 13 (sxC E b S) b M
section
variable {E : Ev} {b : Nat → Nat} {S : St} {M : Hp}
theorem sxR0 (hb : Lay E 13 b) : StP E b S M (b 0) = some (.inr (7, [.int (S.1 0), .ref (b 1), .ref (b 2), .ref (b 3), .int (S.1 1), .ref (b 4), .ref (b 5), .ref (b 6), .int (S.1 2), .int (S.1 3), .int (S.1 4), .int (S.1 5), .int (S.1 6)])) := putP_at hb (k := 0) (by decide)
theorem sxR1 (hb : Lay E 13 b) : StP E b S M (b 1) = some (.inl (E.2.2.2.1 0, 6, .inl (S.2 1))) := putP_at hb (k := 1) (by decide)
theorem sxR2 (hb : Lay E 13 b) : StP E b S M (b 2) = some (.inl (E.2.2.2.1 0, 6, .inl (S.2 2))) := putP_at hb (k := 2) (by decide)
theorem sxR3 (hb : Lay E 13 b) : StP E b S M (b 3) = some (.inl (E.2.2.2.1 2, 6, .inl (S.2 3))) := putP_at hb (k := 3) (by decide)
theorem sxR4 (hb : Lay E 13 b) : StP E b S M (b 4) = some (.inl (E.2.2.2.1 0, 8, .inl (S.2 4))) := putP_at hb (k := 4) (by decide)
theorem sxR5 (hb : Lay E 13 b) : StP E b S M (b 5) = some (.inl (E.2.2.2.1 0, 8, .inl (S.2 5))) := putP_at hb (k := 5) (by decide)
theorem sxR6 (hb : Lay E 13 b) : StP E b S M (b 6) = some (.inr (6, [.int (S.1 7), .int (S.1 8), .ref (b 7), .ref (b 8), .ref (b 9), .ref (b 10), .ref (b 11), .ref (b 12)])) := putP_at hb (k := 6) (by decide)
theorem sxR7 (hb : Lay E 13 b) : StP E b S M (b 7) = some (.inl (E.2.2.2.1 0, 8, .inl (S.2 7))) := putP_at hb (k := 7) (by decide)
theorem sxR8 (hb : Lay E 13 b) : StP E b S M (b 8) = some (.inl (E.2.2.2.1 1, 8, .inl (S.2 8))) := putP_at hb (k := 8) (by decide)
theorem sxR9 (hb : Lay E 13 b) : StP E b S M (b 9) = some (.inl (E.2.2.2.1 0, 8, .inl (S.2 9))) := putP_at hb (k := 9) (by decide)
theorem sxR10 (hb : Lay E 13 b) : StP E b S M (b 10) = some (.inl (E.2.2.2.1 0, 8, .inl (S.2 10))) := putP_at hb (k := 10) (by decide)
theorem sxR11 (hb : Lay E 13 b) : StP E b S M (b 11) = some (.inl (E.2.2.2.1 0, 8, .inl (S.2 11))) := putP_at hb (k := 11) (by decide)
theorem sxR12 (hb : Lay E 13 b) : StP E b S M (b 12) = some (.inl (E.2.2.2.1 2, 8, .inl (S.2 12))) := putP_at hb (k := 12) (by decide)
theorem sxW0_0 (hb : Lay E 13 b) {v : Int32} : hput (StP E b S M) (b 0) (.inr (7, List.set [.int (S.1 0), .ref (b 1), .ref (b 2), .ref (b 3), .int (S.1 1), .ref (b 4), .ref (b 5), .ref (b 6), .int (S.1 2), .int (S.1 3), .int (S.1 4), .int (S.1 5), .int (S.1 6)] 0 (.int v))) = StP E b (setS S 0 v) M := putP_put hb (k := 0) (by decide) rfl (fun j hj hne => match j, hj, hne with | 0, _, h => absurd rfl h | 1, _, _ => rfl | 2, _, _ => rfl | 3, _, _ => rfl | 4, _, _ => rfl | 5, _, _ => rfl | 6, _, _ => rfl | 7, _, _ => rfl | 8, _, _ => rfl | 9, _, _ => rfl | 10, _, _ => rfl | 11, _, _ => rfl | 12, _, _ => rfl | _ + 13, h, _ => absurd h (by omega))
theorem sxW0_4 (hb : Lay E 13 b) {v : Int32} : hput (StP E b S M) (b 0) (.inr (7, List.set [.int (S.1 0), .ref (b 1), .ref (b 2), .ref (b 3), .int (S.1 1), .ref (b 4), .ref (b 5), .ref (b 6), .int (S.1 2), .int (S.1 3), .int (S.1 4), .int (S.1 5), .int (S.1 6)] 4 (.int v))) = StP E b (setS S 1 v) M := putP_put hb (k := 0) (by decide) rfl (fun j hj hne => match j, hj, hne with | 0, _, h => absurd rfl h | 1, _, _ => rfl | 2, _, _ => rfl | 3, _, _ => rfl | 4, _, _ => rfl | 5, _, _ => rfl | 6, _, _ => rfl | 7, _, _ => rfl | 8, _, _ => rfl | 9, _, _ => rfl | 10, _, _ => rfl | 11, _, _ => rfl | 12, _, _ => rfl | _ + 13, h, _ => absurd h (by omega))
theorem sxW0_8 (hb : Lay E 13 b) {v : Int32} : hput (StP E b S M) (b 0) (.inr (7, List.set [.int (S.1 0), .ref (b 1), .ref (b 2), .ref (b 3), .int (S.1 1), .ref (b 4), .ref (b 5), .ref (b 6), .int (S.1 2), .int (S.1 3), .int (S.1 4), .int (S.1 5), .int (S.1 6)] 8 (.int v))) = StP E b (setS S 2 v) M := putP_put hb (k := 0) (by decide) rfl (fun j hj hne => match j, hj, hne with | 0, _, h => absurd rfl h | 1, _, _ => rfl | 2, _, _ => rfl | 3, _, _ => rfl | 4, _, _ => rfl | 5, _, _ => rfl | 6, _, _ => rfl | 7, _, _ => rfl | 8, _, _ => rfl | 9, _, _ => rfl | 10, _, _ => rfl | 11, _, _ => rfl | 12, _, _ => rfl | _ + 13, h, _ => absurd h (by omega))
theorem sxW0_9 (hb : Lay E 13 b) {v : Int32} : hput (StP E b S M) (b 0) (.inr (7, List.set [.int (S.1 0), .ref (b 1), .ref (b 2), .ref (b 3), .int (S.1 1), .ref (b 4), .ref (b 5), .ref (b 6), .int (S.1 2), .int (S.1 3), .int (S.1 4), .int (S.1 5), .int (S.1 6)] 9 (.int v))) = StP E b (setS S 3 v) M := putP_put hb (k := 0) (by decide) rfl (fun j hj hne => match j, hj, hne with | 0, _, h => absurd rfl h | 1, _, _ => rfl | 2, _, _ => rfl | 3, _, _ => rfl | 4, _, _ => rfl | 5, _, _ => rfl | 6, _, _ => rfl | 7, _, _ => rfl | 8, _, _ => rfl | 9, _, _ => rfl | 10, _, _ => rfl | 11, _, _ => rfl | 12, _, _ => rfl | _ + 13, h, _ => absurd h (by omega))
theorem sxW0_10 (hb : Lay E 13 b) {v : Int32} : hput (StP E b S M) (b 0) (.inr (7, List.set [.int (S.1 0), .ref (b 1), .ref (b 2), .ref (b 3), .int (S.1 1), .ref (b 4), .ref (b 5), .ref (b 6), .int (S.1 2), .int (S.1 3), .int (S.1 4), .int (S.1 5), .int (S.1 6)] 10 (.int v))) = StP E b (setS S 4 v) M := putP_put hb (k := 0) (by decide) rfl (fun j hj hne => match j, hj, hne with | 0, _, h => absurd rfl h | 1, _, _ => rfl | 2, _, _ => rfl | 3, _, _ => rfl | 4, _, _ => rfl | 5, _, _ => rfl | 6, _, _ => rfl | 7, _, _ => rfl | 8, _, _ => rfl | 9, _, _ => rfl | 10, _, _ => rfl | 11, _, _ => rfl | 12, _, _ => rfl | _ + 13, h, _ => absurd h (by omega))
theorem sxW0_11 (hb : Lay E 13 b) {v : Int32} : hput (StP E b S M) (b 0) (.inr (7, List.set [.int (S.1 0), .ref (b 1), .ref (b 2), .ref (b 3), .int (S.1 1), .ref (b 4), .ref (b 5), .ref (b 6), .int (S.1 2), .int (S.1 3), .int (S.1 4), .int (S.1 5), .int (S.1 6)] 11 (.int v))) = StP E b (setS S 5 v) M := putP_put hb (k := 0) (by decide) rfl (fun j hj hne => match j, hj, hne with | 0, _, h => absurd rfl h | 1, _, _ => rfl | 2, _, _ => rfl | 3, _, _ => rfl | 4, _, _ => rfl | 5, _, _ => rfl | 6, _, _ => rfl | 7, _, _ => rfl | 8, _, _ => rfl | 9, _, _ => rfl | 10, _, _ => rfl | 11, _, _ => rfl | 12, _, _ => rfl | _ + 13, h, _ => absurd h (by omega))
theorem sxW0_12 (hb : Lay E 13 b) {v : Int32} : hput (StP E b S M) (b 0) (.inr (7, List.set [.int (S.1 0), .ref (b 1), .ref (b 2), .ref (b 3), .int (S.1 1), .ref (b 4), .ref (b 5), .ref (b 6), .int (S.1 2), .int (S.1 3), .int (S.1 4), .int (S.1 5), .int (S.1 6)] 12 (.int v))) = StP E b (setS S 6 v) M := putP_put hb (k := 0) (by decide) rfl (fun j hj hne => match j, hj, hne with | 0, _, h => absurd rfl h | 1, _, _ => rfl | 2, _, _ => rfl | 3, _, _ => rfl | 4, _, _ => rfl | 5, _, _ => rfl | 6, _, _ => rfl | 7, _, _ => rfl | 8, _, _ => rfl | 9, _, _ => rfl | 10, _, _ => rfl | 11, _, _ => rfl | 12, _, _ => rfl | _ + 13, h, _ => absurd h (by omega))
theorem sxW1 (hb : Lay E 13 b) {f : Nat → Int32} : hput (StP E b S M) (b 1) (.inl (E.2.2.2.1 0, 6, .inl f)) = StP E b (setA S 1 f) M := putP_put hb (k := 1) (by decide) rfl (fun j hj hne => match j, hj, hne with | 0, _, _ => rfl | 1, _, h => absurd rfl h | 2, _, _ => rfl | 3, _, _ => rfl | 4, _, _ => rfl | 5, _, _ => rfl | 6, _, _ => rfl | 7, _, _ => rfl | 8, _, _ => rfl | 9, _, _ => rfl | 10, _, _ => rfl | 11, _, _ => rfl | 12, _, _ => rfl | _ + 13, h, _ => absurd h (by omega))
theorem sxW2 (hb : Lay E 13 b) {f : Nat → Int32} : hput (StP E b S M) (b 2) (.inl (E.2.2.2.1 0, 6, .inl f)) = StP E b (setA S 2 f) M := putP_put hb (k := 2) (by decide) rfl (fun j hj hne => match j, hj, hne with | 0, _, _ => rfl | 1, _, _ => rfl | 2, _, h => absurd rfl h | 3, _, _ => rfl | 4, _, _ => rfl | 5, _, _ => rfl | 6, _, _ => rfl | 7, _, _ => rfl | 8, _, _ => rfl | 9, _, _ => rfl | 10, _, _ => rfl | 11, _, _ => rfl | 12, _, _ => rfl | _ + 13, h, _ => absurd h (by omega))
theorem sxW3 (hb : Lay E 13 b) {f : Nat → Int32} : hput (StP E b S M) (b 3) (.inl (E.2.2.2.1 2, 6, .inl f)) = StP E b (setA S 3 f) M := putP_put hb (k := 3) (by decide) rfl (fun j hj hne => match j, hj, hne with | 0, _, _ => rfl | 1, _, _ => rfl | 2, _, _ => rfl | 3, _, h => absurd rfl h | 4, _, _ => rfl | 5, _, _ => rfl | 6, _, _ => rfl | 7, _, _ => rfl | 8, _, _ => rfl | 9, _, _ => rfl | 10, _, _ => rfl | 11, _, _ => rfl | 12, _, _ => rfl | _ + 13, h, _ => absurd h (by omega))
theorem sxW4 (hb : Lay E 13 b) {f : Nat → Int32} : hput (StP E b S M) (b 4) (.inl (E.2.2.2.1 0, 8, .inl f)) = StP E b (setA S 4 f) M := putP_put hb (k := 4) (by decide) rfl (fun j hj hne => match j, hj, hne with | 0, _, _ => rfl | 1, _, _ => rfl | 2, _, _ => rfl | 3, _, _ => rfl | 4, _, h => absurd rfl h | 5, _, _ => rfl | 6, _, _ => rfl | 7, _, _ => rfl | 8, _, _ => rfl | 9, _, _ => rfl | 10, _, _ => rfl | 11, _, _ => rfl | 12, _, _ => rfl | _ + 13, h, _ => absurd h (by omega))
theorem sxW5 (hb : Lay E 13 b) {f : Nat → Int32} : hput (StP E b S M) (b 5) (.inl (E.2.2.2.1 0, 8, .inl f)) = StP E b (setA S 5 f) M := putP_put hb (k := 5) (by decide) rfl (fun j hj hne => match j, hj, hne with | 0, _, _ => rfl | 1, _, _ => rfl | 2, _, _ => rfl | 3, _, _ => rfl | 4, _, _ => rfl | 5, _, h => absurd rfl h | 6, _, _ => rfl | 7, _, _ => rfl | 8, _, _ => rfl | 9, _, _ => rfl | 10, _, _ => rfl | 11, _, _ => rfl | 12, _, _ => rfl | _ + 13, h, _ => absurd h (by omega))
theorem sxW6_0 (hb : Lay E 13 b) {v : Int32} : hput (StP E b S M) (b 6) (.inr (6, List.set [.int (S.1 7), .int (S.1 8), .ref (b 7), .ref (b 8), .ref (b 9), .ref (b 10), .ref (b 11), .ref (b 12)] 0 (.int v))) = StP E b (setS S 7 v) M := putP_put hb (k := 6) (by decide) rfl (fun j hj hne => match j, hj, hne with | 0, _, _ => rfl | 1, _, _ => rfl | 2, _, _ => rfl | 3, _, _ => rfl | 4, _, _ => rfl | 5, _, _ => rfl | 6, _, h => absurd rfl h | 7, _, _ => rfl | 8, _, _ => rfl | 9, _, _ => rfl | 10, _, _ => rfl | 11, _, _ => rfl | 12, _, _ => rfl | _ + 13, h, _ => absurd h (by omega))
theorem sxW6_1 (hb : Lay E 13 b) {v : Int32} : hput (StP E b S M) (b 6) (.inr (6, List.set [.int (S.1 7), .int (S.1 8), .ref (b 7), .ref (b 8), .ref (b 9), .ref (b 10), .ref (b 11), .ref (b 12)] 1 (.int v))) = StP E b (setS S 8 v) M := putP_put hb (k := 6) (by decide) rfl (fun j hj hne => match j, hj, hne with | 0, _, _ => rfl | 1, _, _ => rfl | 2, _, _ => rfl | 3, _, _ => rfl | 4, _, _ => rfl | 5, _, _ => rfl | 6, _, h => absurd rfl h | 7, _, _ => rfl | 8, _, _ => rfl | 9, _, _ => rfl | 10, _, _ => rfl | 11, _, _ => rfl | 12, _, _ => rfl | _ + 13, h, _ => absurd h (by omega))
theorem sxW7 (hb : Lay E 13 b) {f : Nat → Int32} : hput (StP E b S M) (b 7) (.inl (E.2.2.2.1 0, 8, .inl f)) = StP E b (setA S 7 f) M := putP_put hb (k := 7) (by decide) rfl (fun j hj hne => match j, hj, hne with | 0, _, _ => rfl | 1, _, _ => rfl | 2, _, _ => rfl | 3, _, _ => rfl | 4, _, _ => rfl | 5, _, _ => rfl | 6, _, _ => rfl | 7, _, h => absurd rfl h | 8, _, _ => rfl | 9, _, _ => rfl | 10, _, _ => rfl | 11, _, _ => rfl | 12, _, _ => rfl | _ + 13, h, _ => absurd h (by omega))
theorem sxW8 (hb : Lay E 13 b) {f : Nat → Int32} : hput (StP E b S M) (b 8) (.inl (E.2.2.2.1 1, 8, .inl f)) = StP E b (setA S 8 f) M := putP_put hb (k := 8) (by decide) rfl (fun j hj hne => match j, hj, hne with | 0, _, _ => rfl | 1, _, _ => rfl | 2, _, _ => rfl | 3, _, _ => rfl | 4, _, _ => rfl | 5, _, _ => rfl | 6, _, _ => rfl | 7, _, _ => rfl | 8, _, h => absurd rfl h | 9, _, _ => rfl | 10, _, _ => rfl | 11, _, _ => rfl | 12, _, _ => rfl | _ + 13, h, _ => absurd h (by omega))
theorem sxW9 (hb : Lay E 13 b) {f : Nat → Int32} : hput (StP E b S M) (b 9) (.inl (E.2.2.2.1 0, 8, .inl f)) = StP E b (setA S 9 f) M := putP_put hb (k := 9) (by decide) rfl (fun j hj hne => match j, hj, hne with | 0, _, _ => rfl | 1, _, _ => rfl | 2, _, _ => rfl | 3, _, _ => rfl | 4, _, _ => rfl | 5, _, _ => rfl | 6, _, _ => rfl | 7, _, _ => rfl | 8, _, _ => rfl | 9, _, h => absurd rfl h | 10, _, _ => rfl | 11, _, _ => rfl | 12, _, _ => rfl | _ + 13, h, _ => absurd h (by omega))
theorem sxW10 (hb : Lay E 13 b) {f : Nat → Int32} : hput (StP E b S M) (b 10) (.inl (E.2.2.2.1 0, 8, .inl f)) = StP E b (setA S 10 f) M := putP_put hb (k := 10) (by decide) rfl (fun j hj hne => match j, hj, hne with | 0, _, _ => rfl | 1, _, _ => rfl | 2, _, _ => rfl | 3, _, _ => rfl | 4, _, _ => rfl | 5, _, _ => rfl | 6, _, _ => rfl | 7, _, _ => rfl | 8, _, _ => rfl | 9, _, _ => rfl | 10, _, h => absurd rfl h | 11, _, _ => rfl | 12, _, _ => rfl | _ + 13, h, _ => absurd h (by omega))
theorem sxW11 (hb : Lay E 13 b) {f : Nat → Int32} : hput (StP E b S M) (b 11) (.inl (E.2.2.2.1 0, 8, .inl f)) = StP E b (setA S 11 f) M := putP_put hb (k := 11) (by decide) rfl (fun j hj hne => match j, hj, hne with | 0, _, _ => rfl | 1, _, _ => rfl | 2, _, _ => rfl | 3, _, _ => rfl | 4, _, _ => rfl | 5, _, _ => rfl | 6, _, _ => rfl | 7, _, _ => rfl | 8, _, _ => rfl | 9, _, _ => rfl | 10, _, _ => rfl | 11, _, h => absurd rfl h | 12, _, _ => rfl | _ + 13, h, _ => absurd h (by omega))
theorem sxW12 (hb : Lay E 13 b) {f : Nat → Int32} : hput (StP E b S M) (b 12) (.inl (E.2.2.2.1 2, 8, .inl f)) = StP E b (setA S 12 f) M := putP_put hb (k := 12) (by decide) rfl (fun j hj hne => match j, hj, hne with | 0, _, _ => rfl | 1, _, _ => rfl | 2, _, _ => rfl | 3, _, _ => rfl | 4, _, _ => rfl | 5, _, _ => rfl | 6, _, _ => rfl | 7, _, _ => rfl | 8, _, _ => rfl | 9, _, _ => rfl | 10, _, _ => rfl | 11, _, _ => rfl | 12, _, h => absurd rfl h | _ + 13, h, _ => absurd h (by omega))
end
def mxC (E : Ev) (b : Nat → Nat) (S : St) : Nat → va_E := fun k => match k with
  | 0 => .inr (9, [.int (S.1 0), .ref (b 1), .ref (b 2), .ref (b 3), .ref (b 4), .ref (b 5), .int (S.1 1), .int (S.1 2), .int (S.1 3), .ref (b 6), .int (S.1 4), .ref (b 7), .int (S.1 5), .int (S.1 6), .int (S.1 7), .int (S.1 8), .int (S.1 9), .ref (b 8), .int (S.1 10), .int (S.1 11)])
  | 1 => .inl (E.2.2.2.1 0, 91, .inl (S.2 1))
  | 2 => .inl (E.2.2.2.1 0, 728, .inl (S.2 2))
  | 3 => .inl (E.2.2.2.1 0, 91, .inl (S.2 3))
  | 4 => .inl (E.2.2.2.1 0, 91, .inl (S.2 4))
  | 5 => .inl (E.2.2.2.1 0, 91, .inl (S.2 5))
  | 6 => .inl (E.2.2.2.1 1, 60, .inl (S.2 6))
  | 7 => .inl (E.2.2.2.1 1, 60, .inl (S.2 7))
  | _ => .inl (E.2.2.2.1 0, 2, .inl (S.2 8))
abbrev MdP (E : Ev) (b : Nat → Nat) (S : St) (M : Hp) : Hp := putP 9 (mxC E b S) b M
section
variable {E : Ev} {b : Nat → Nat} {S : St} {M : Hp}
theorem mxR0 (hb : Lay E 9 b) : MdP E b S M (b 0) = some (.inr (9, [.int (S.1 0), .ref (b 1), .ref (b 2), .ref (b 3), .ref (b 4), .ref (b 5), .int (S.1 1), .int (S.1 2), .int (S.1 3), .ref (b 6), .int (S.1 4), .ref (b 7), .int (S.1 5), .int (S.1 6), .int (S.1 7), .int (S.1 8), .int (S.1 9), .ref (b 8), .int (S.1 10), .int (S.1 11)])) := putP_at hb (k := 0) (by decide)
theorem mxR1 (hb : Lay E 9 b) : MdP E b S M (b 1) = some (.inl (E.2.2.2.1 0, 91, .inl (S.2 1))) := putP_at hb (k := 1) (by decide)
theorem mxR2 (hb : Lay E 9 b) : MdP E b S M (b 2) = some (.inl (E.2.2.2.1 0, 728, .inl (S.2 2))) := putP_at hb (k := 2) (by decide)
theorem mxR3 (hb : Lay E 9 b) : MdP E b S M (b 3) = some (.inl (E.2.2.2.1 0, 91, .inl (S.2 3))) := putP_at hb (k := 3) (by decide)
theorem mxR4 (hb : Lay E 9 b) : MdP E b S M (b 4) = some (.inl (E.2.2.2.1 0, 91, .inl (S.2 4))) := putP_at hb (k := 4) (by decide)
theorem mxR5 (hb : Lay E 9 b) : MdP E b S M (b 5) = some (.inl (E.2.2.2.1 0, 91, .inl (S.2 5))) := putP_at hb (k := 5) (by decide)
theorem mxR6 (hb : Lay E 9 b) : MdP E b S M (b 6) = some (.inl (E.2.2.2.1 1, 60, .inl (S.2 6))) := putP_at hb (k := 6) (by decide)
theorem mxR7 (hb : Lay E 9 b) : MdP E b S M (b 7) = some (.inl (E.2.2.2.1 1, 60, .inl (S.2 7))) := putP_at hb (k := 7) (by decide)
theorem mxR8 (hb : Lay E 9 b) : MdP E b S M (b 8) = some (.inl (E.2.2.2.1 0, 2, .inl (S.2 8))) := putP_at hb (k := 8) (by decide)
theorem mxW0_0 (hb : Lay E 9 b) {v : Int32} : hput (MdP E b S M) (b 0) (.inr (9, List.set [.int (S.1 0), .ref (b 1), .ref (b 2), .ref (b 3), .ref (b 4), .ref (b 5), .int (S.1 1), .int (S.1 2), .int (S.1 3), .ref (b 6), .int (S.1 4), .ref (b 7), .int (S.1 5), .int (S.1 6), .int (S.1 7), .int (S.1 8), .int (S.1 9), .ref (b 8), .int (S.1 10), .int (S.1 11)] 0 (.int v))) = MdP E b (setS S 0 v) M := putP_put hb (k := 0) (by decide) rfl (fun j hj hne => match j, hj, hne with | 0, _, h => absurd rfl h | 1, _, _ => rfl | 2, _, _ => rfl | 3, _, _ => rfl | 4, _, _ => rfl | 5, _, _ => rfl | 6, _, _ => rfl | 7, _, _ => rfl | 8, _, _ => rfl | _ + 9, h, _ => absurd h (by omega))
theorem mxW0_6 (hb : Lay E 9 b) {v : Int32} : hput (MdP E b S M) (b 0) (.inr (9, List.set [.int (S.1 0), .ref (b 1), .ref (b 2), .ref (b 3), .ref (b 4), .ref (b 5), .int (S.1 1), .int (S.1 2), .int (S.1 3), .ref (b 6), .int (S.1 4), .ref (b 7), .int (S.1 5), .int (S.1 6), .int (S.1 7), .int (S.1 8), .int (S.1 9), .ref (b 8), .int (S.1 10), .int (S.1 11)] 6 (.int v))) = MdP E b (setS S 1 v) M := putP_put hb (k := 0) (by decide) rfl (fun j hj hne => match j, hj, hne with | 0, _, h => absurd rfl h | 1, _, _ => rfl | 2, _, _ => rfl | 3, _, _ => rfl | 4, _, _ => rfl | 5, _, _ => rfl | 6, _, _ => rfl | 7, _, _ => rfl | 8, _, _ => rfl | _ + 9, h, _ => absurd h (by omega))
theorem mxW0_7 (hb : Lay E 9 b) {v : Int32} : hput (MdP E b S M) (b 0) (.inr (9, List.set [.int (S.1 0), .ref (b 1), .ref (b 2), .ref (b 3), .ref (b 4), .ref (b 5), .int (S.1 1), .int (S.1 2), .int (S.1 3), .ref (b 6), .int (S.1 4), .ref (b 7), .int (S.1 5), .int (S.1 6), .int (S.1 7), .int (S.1 8), .int (S.1 9), .ref (b 8), .int (S.1 10), .int (S.1 11)] 7 (.int v))) = MdP E b (setS S 2 v) M := putP_put hb (k := 0) (by decide) rfl (fun j hj hne => match j, hj, hne with | 0, _, h => absurd rfl h | 1, _, _ => rfl | 2, _, _ => rfl | 3, _, _ => rfl | 4, _, _ => rfl | 5, _, _ => rfl | 6, _, _ => rfl | 7, _, _ => rfl | 8, _, _ => rfl | _ + 9, h, _ => absurd h (by omega))
theorem mxW0_8 (hb : Lay E 9 b) {v : Int32} : hput (MdP E b S M) (b 0) (.inr (9, List.set [.int (S.1 0), .ref (b 1), .ref (b 2), .ref (b 3), .ref (b 4), .ref (b 5), .int (S.1 1), .int (S.1 2), .int (S.1 3), .ref (b 6), .int (S.1 4), .ref (b 7), .int (S.1 5), .int (S.1 6), .int (S.1 7), .int (S.1 8), .int (S.1 9), .ref (b 8), .int (S.1 10), .int (S.1 11)] 8 (.int v))) = MdP E b (setS S 3 v) M := putP_put hb (k := 0) (by decide) rfl (fun j hj hne => match j, hj, hne with | 0, _, h => absurd rfl h | 1, _, _ => rfl | 2, _, _ => rfl | 3, _, _ => rfl | 4, _, _ => rfl | 5, _, _ => rfl | 6, _, _ => rfl | 7, _, _ => rfl | 8, _, _ => rfl | _ + 9, h, _ => absurd h (by omega))
theorem mxW0_10 (hb : Lay E 9 b) {v : Int32} : hput (MdP E b S M) (b 0) (.inr (9, List.set [.int (S.1 0), .ref (b 1), .ref (b 2), .ref (b 3), .ref (b 4), .ref (b 5), .int (S.1 1), .int (S.1 2), .int (S.1 3), .ref (b 6), .int (S.1 4), .ref (b 7), .int (S.1 5), .int (S.1 6), .int (S.1 7), .int (S.1 8), .int (S.1 9), .ref (b 8), .int (S.1 10), .int (S.1 11)] 10 (.int v))) = MdP E b (setS S 4 v) M := putP_put hb (k := 0) (by decide) rfl (fun j hj hne => match j, hj, hne with | 0, _, h => absurd rfl h | 1, _, _ => rfl | 2, _, _ => rfl | 3, _, _ => rfl | 4, _, _ => rfl | 5, _, _ => rfl | 6, _, _ => rfl | 7, _, _ => rfl | 8, _, _ => rfl | _ + 9, h, _ => absurd h (by omega))
theorem mxW0_12 (hb : Lay E 9 b) {v : Int32} : hput (MdP E b S M) (b 0) (.inr (9, List.set [.int (S.1 0), .ref (b 1), .ref (b 2), .ref (b 3), .ref (b 4), .ref (b 5), .int (S.1 1), .int (S.1 2), .int (S.1 3), .ref (b 6), .int (S.1 4), .ref (b 7), .int (S.1 5), .int (S.1 6), .int (S.1 7), .int (S.1 8), .int (S.1 9), .ref (b 8), .int (S.1 10), .int (S.1 11)] 12 (.int v))) = MdP E b (setS S 5 v) M := putP_put hb (k := 0) (by decide) rfl (fun j hj hne => match j, hj, hne with | 0, _, h => absurd rfl h | 1, _, _ => rfl | 2, _, _ => rfl | 3, _, _ => rfl | 4, _, _ => rfl | 5, _, _ => rfl | 6, _, _ => rfl | 7, _, _ => rfl | 8, _, _ => rfl | _ + 9, h, _ => absurd h (by omega))
theorem mxW0_13 (hb : Lay E 9 b) {v : Int32} : hput (MdP E b S M) (b 0) (.inr (9, List.set [.int (S.1 0), .ref (b 1), .ref (b 2), .ref (b 3), .ref (b 4), .ref (b 5), .int (S.1 1), .int (S.1 2), .int (S.1 3), .ref (b 6), .int (S.1 4), .ref (b 7), .int (S.1 5), .int (S.1 6), .int (S.1 7), .int (S.1 8), .int (S.1 9), .ref (b 8), .int (S.1 10), .int (S.1 11)] 13 (.int v))) = MdP E b (setS S 6 v) M := putP_put hb (k := 0) (by decide) rfl (fun j hj hne => match j, hj, hne with | 0, _, h => absurd rfl h | 1, _, _ => rfl | 2, _, _ => rfl | 3, _, _ => rfl | 4, _, _ => rfl | 5, _, _ => rfl | 6, _, _ => rfl | 7, _, _ => rfl | 8, _, _ => rfl | _ + 9, h, _ => absurd h (by omega))
theorem mxW0_14 (hb : Lay E 9 b) {v : Int32} : hput (MdP E b S M) (b 0) (.inr (9, List.set [.int (S.1 0), .ref (b 1), .ref (b 2), .ref (b 3), .ref (b 4), .ref (b 5), .int (S.1 1), .int (S.1 2), .int (S.1 3), .ref (b 6), .int (S.1 4), .ref (b 7), .int (S.1 5), .int (S.1 6), .int (S.1 7), .int (S.1 8), .int (S.1 9), .ref (b 8), .int (S.1 10), .int (S.1 11)] 14 (.int v))) = MdP E b (setS S 7 v) M := putP_put hb (k := 0) (by decide) rfl (fun j hj hne => match j, hj, hne with | 0, _, h => absurd rfl h | 1, _, _ => rfl | 2, _, _ => rfl | 3, _, _ => rfl | 4, _, _ => rfl | 5, _, _ => rfl | 6, _, _ => rfl | 7, _, _ => rfl | 8, _, _ => rfl | _ + 9, h, _ => absurd h (by omega))
theorem mxW0_15 (hb : Lay E 9 b) {v : Int32} : hput (MdP E b S M) (b 0) (.inr (9, List.set [.int (S.1 0), .ref (b 1), .ref (b 2), .ref (b 3), .ref (b 4), .ref (b 5), .int (S.1 1), .int (S.1 2), .int (S.1 3), .ref (b 6), .int (S.1 4), .ref (b 7), .int (S.1 5), .int (S.1 6), .int (S.1 7), .int (S.1 8), .int (S.1 9), .ref (b 8), .int (S.1 10), .int (S.1 11)] 15 (.int v))) = MdP E b (setS S 8 v) M := putP_put hb (k := 0) (by decide) rfl (fun j hj hne => match j, hj, hne with | 0, _, h => absurd rfl h | 1, _, _ => rfl | 2, _, _ => rfl | 3, _, _ => rfl | 4, _, _ => rfl | 5, _, _ => rfl | 6, _, _ => rfl | 7, _, _ => rfl | 8, _, _ => rfl | _ + 9, h, _ => absurd h (by omega))
theorem mxW0_16 (hb : Lay E 9 b) {v : Int32} : hput (MdP E b S M) (b 0) (.inr (9, List.set [.int (S.1 0), .ref (b 1), .ref (b 2), .ref (b 3), .ref (b 4), .ref (b 5), .int (S.1 1), .int (S.1 2), .int (S.1 3), .ref (b 6), .int (S.1 4), .ref (b 7), .int (S.1 5), .int (S.1 6), .int (S.1 7), .int (S.1 8), .int (S.1 9), .ref (b 8), .int (S.1 10), .int (S.1 11)] 16 (.int v))) = MdP E b (setS S 9 v) M := putP_put hb (k := 0) (by decide) rfl (fun j hj hne => match j, hj, hne with | 0, _, h => absurd rfl h | 1, _, _ => rfl | 2, _, _ => rfl | 3, _, _ => rfl | 4, _, _ => rfl | 5, _, _ => rfl | 6, _, _ => rfl | 7, _, _ => rfl | 8, _, _ => rfl | _ + 9, h, _ => absurd h (by omega))
theorem mxW0_18 (hb : Lay E 9 b) {v : Int32} : hput (MdP E b S M) (b 0) (.inr (9, List.set [.int (S.1 0), .ref (b 1), .ref (b 2), .ref (b 3), .ref (b 4), .ref (b 5), .int (S.1 1), .int (S.1 2), .int (S.1 3), .ref (b 6), .int (S.1 4), .ref (b 7), .int (S.1 5), .int (S.1 6), .int (S.1 7), .int (S.1 8), .int (S.1 9), .ref (b 8), .int (S.1 10), .int (S.1 11)] 18 (.int v))) = MdP E b (setS S 10 v) M := putP_put hb (k := 0) (by decide) rfl (fun j hj hne => match j, hj, hne with | 0, _, h => absurd rfl h | 1, _, _ => rfl | 2, _, _ => rfl | 3, _, _ => rfl | 4, _, _ => rfl | 5, _, _ => rfl | 6, _, _ => rfl | 7, _, _ => rfl | 8, _, _ => rfl | _ + 9, h, _ => absurd h (by omega))
theorem mxW0_19 (hb : Lay E 9 b) {v : Int32} : hput (MdP E b S M) (b 0) (.inr (9, List.set [.int (S.1 0), .ref (b 1), .ref (b 2), .ref (b 3), .ref (b 4), .ref (b 5), .int (S.1 1), .int (S.1 2), .int (S.1 3), .ref (b 6), .int (S.1 4), .ref (b 7), .int (S.1 5), .int (S.1 6), .int (S.1 7), .int (S.1 8), .int (S.1 9), .ref (b 8), .int (S.1 10), .int (S.1 11)] 19 (.int v))) = MdP E b (setS S 11 v) M := putP_put hb (k := 0) (by decide) rfl (fun j hj hne => match j, hj, hne with | 0, _, h => absurd rfl h | 1, _, _ => rfl | 2, _, _ => rfl | 3, _, _ => rfl | 4, _, _ => rfl | 5, _, _ => rfl | 6, _, _ => rfl | 7, _, _ => rfl | 8, _, _ => rfl | _ + 9, h, _ => absurd h (by omega))
theorem mxW1 (hb : Lay E 9 b) {f : Nat → Int32} : hput (MdP E b S M) (b 1) (.inl (E.2.2.2.1 0, 91, .inl f)) = MdP E b (setA S 1 f) M := putP_put hb (k := 1) (by decide) rfl (fun j hj hne => match j, hj, hne with | 0, _, _ => rfl | 1, _, h => absurd rfl h | 2, _, _ => rfl | 3, _, _ => rfl | 4, _, _ => rfl | 5, _, _ => rfl | 6, _, _ => rfl | 7, _, _ => rfl | 8, _, _ => rfl | _ + 9, h, _ => absurd h (by omega))
theorem mxW2 (hb : Lay E 9 b) {f : Nat → Int32} : hput (MdP E b S M) (b 2) (.inl (E.2.2.2.1 0, 728, .inl f)) = MdP E b (setA S 2 f) M := putP_put hb (k := 2) (by decide) rfl (fun j hj hne => match j, hj, hne with | 0, _, _ => rfl | 1, _, _ => rfl | 2, _, h => absurd rfl h | 3, _, _ => rfl | 4, _, _ => rfl | 5, _, _ => rfl | 6, _, _ => rfl | 7, _, _ => rfl | 8, _, _ => rfl | _ + 9, h, _ => absurd h (by omega))
theorem mxW3 (hb : Lay E 9 b) {f : Nat → Int32} : hput (MdP E b S M) (b 3) (.inl (E.2.2.2.1 0, 91, .inl f)) = MdP E b (setA S 3 f) M := putP_put hb (k := 3) (by decide) rfl (fun j hj hne => match j, hj, hne with | 0, _, _ => rfl | 1, _, _ => rfl | 2, _, _ => rfl | 3, _, h => absurd rfl h | 4, _, _ => rfl | 5, _, _ => rfl | 6, _, _ => rfl | 7, _, _ => rfl | 8, _, _ => rfl | _ + 9, h, _ => absurd h (by omega))
theorem mxW4 (hb : Lay E 9 b) {f : Nat → Int32} : hput (MdP E b S M) (b 4) (.inl (E.2.2.2.1 0, 91, .inl f)) = MdP E b (setA S 4 f) M := putP_put hb (k := 4) (by decide) rfl (fun j hj hne => match j, hj, hne with | 0, _, _ => rfl | 1, _, _ => rfl | 2, _, _ => rfl | 3, _, _ => rfl | 4, _, h => absurd rfl h | 5, _, _ => rfl | 6, _, _ => rfl | 7, _, _ => rfl | 8, _, _ => rfl | _ + 9, h, _ => absurd h (by omega))
theorem mxW5 (hb : Lay E 9 b) {f : Nat → Int32} : hput (MdP E b S M) (b 5) (.inl (E.2.2.2.1 0, 91, .inl f)) = MdP E b (setA S 5 f) M := putP_put hb (k := 5) (by decide) rfl (fun j hj hne => match j, hj, hne with | 0, _, _ => rfl | 1, _, _ => rfl | 2, _, _ => rfl | 3, _, _ => rfl | 4, _, _ => rfl | 5, _, h => absurd rfl h | 6, _, _ => rfl | 7, _, _ => rfl | 8, _, _ => rfl | _ + 9, h, _ => absurd h (by omega))
theorem mxW6 (hb : Lay E 9 b) {f : Nat → Int32} : hput (MdP E b S M) (b 6) (.inl (E.2.2.2.1 1, 60, .inl f)) = MdP E b (setA S 6 f) M := putP_put hb (k := 6) (by decide) rfl (fun j hj hne => match j, hj, hne with | 0, _, _ => rfl | 1, _, _ => rfl | 2, _, _ => rfl | 3, _, _ => rfl | 4, _, _ => rfl | 5, _, _ => rfl | 6, _, h => absurd rfl h | 7, _, _ => rfl | 8, _, _ => rfl | _ + 9, h, _ => absurd h (by omega))
theorem mxW7 (hb : Lay E 9 b) {f : Nat → Int32} : hput (MdP E b S M) (b 7) (.inl (E.2.2.2.1 1, 60, .inl f)) = MdP E b (setA S 7 f) M := putP_put hb (k := 7) (by decide) rfl (fun j hj hne => match j, hj, hne with | 0, _, _ => rfl | 1, _, _ => rfl | 2, _, _ => rfl | 3, _, _ => rfl | 4, _, _ => rfl | 5, _, _ => rfl | 6, _, _ => rfl | 7, _, h => absurd rfl h | 8, _, _ => rfl | _ + 9, h, _ => absurd h (by omega))
theorem mxW8 (hb : Lay E 9 b) {f : Nat → Int32} : hput (MdP E b S M) (b 8) (.inl (E.2.2.2.1 0, 2, .inl f)) = MdP E b (setA S 8 f) M := putP_put hb (k := 8) (by decide) rfl (fun j hj hne => match j, hj, hne with | 0, _, _ => rfl | 1, _, _ => rfl | 2, _, _ => rfl | 3, _, _ => rfl | 4, _, _ => rfl | 5, _, _ => rfl | 6, _, _ => rfl | 7, _, _ => rfl | 8, _, h => absurd rfl h | _ + 9, h, _ => absurd h (by omega))
end
section LN
variable {E : Ev} {X : Cx0} {μ : Mth} {Q : State → Prop} {pc q : Nat} {ls st : List Value} {M M1 : Hp} {nc ns a : Nat}
theorem gq_ialdN (hX : Cx E X μ) {n j : Nat} {f : Nat → Int32} {i : Int32} (d : decode μ.2.1 pc = .ok (.iaload, 1)) (hq : pc + 1 = q) (hM : M a = some (.inl (E.2.2.2.1 0, n, .inl f))) (hi : i = nI j) (hj : j < n) (hn : n < 100000) (kk : Gq E X μ Q q ls (.int (f j) :: st) M nc ns) : Gq E X μ Q pc ls (.int i :: .ref a :: st) M nc ns := by
  subst hi
  refine gq_iald hX d hq hM (vp_in_nI hj (by omega)) ?_
  rw [nI_clamp (by omega)]
  exact kk
theorem gq_iastN (hX : Cx E X μ) {n j : Nat} {f : Nat → Int32} {i x : Int32} (d : decode μ.2.1 pc = .ok (.iastore, 1)) (hq : pc + 1 = q) (hM : M a = some (.inl (E.2.2.2.1 0, n, .inl f))) (hi : i = nI j) (hj : j < n) (hn : n < 100000) (ha : E.2.2.1 ≤ a) (hu : hput M a (.inl (E.2.2.2.1 0, n, .inl (upd f j x))) = M1) (kk : Gq E X μ Q q ls st M1 nc ns) : Gq E X μ Q pc ls (.int x :: .int i :: .ref a :: st) M nc ns := by
  subst hi
  refine gq_iast hX d hq hM (vp_in_nI hj (by omega)) ha ?_ kk
  rw [nI_clamp (by omega)]
  exact hu
theorem gq_caldN (hX : Cx E X μ) {n j : Nat} {f : Nat → Int32} {i : Int32} (d : decode μ.2.1 pc = .ok (.caload, 1)) (hq : pc + 1 = q) (hM : M a = some (.inl (E.2.2.2.1 1, n, .inl f))) (hi : i = nI j) (hj : j < n) (hn : n < 100000) (kk : Gq E X μ Q q ls (.int (f j) :: st) M nc ns) : Gq E X μ Q pc ls (.int i :: .ref a :: st) M nc ns := by
  subst hi
  refine gq_cald hX d hq hM (vp_in_nI hj (by omega)) ?_
  rw [nI_clamp (by omega)]
  exact kk
theorem gq_castN (hX : Cx E X μ) {n j : Nat} {f : Nat → Int32} {i x : Int32} (d : decode μ.2.1 pc = .ok (.castore, 1)) (hq : pc + 1 = q) (hM : M a = some (.inl (E.2.2.2.1 1, n, .inl f))) (hi : i = nI j) (hj : j < n) (hn : n < 100000) (ha : E.2.2.1 ≤ a) (hu : hput M a (.inl (E.2.2.2.1 1, n, .inl (upd f j (vp_nar .char x)))) = M1) (kk : Gq E X μ Q q ls st M1 nc ns) : Gq E X μ Q pc ls (.int x :: .int i :: .ref a :: st) M nc ns := by
  subst hi
  refine gq_cast hX d hq hM (vp_in_nI hj (by omega)) ha ?_ kk
  rw [nI_clamp (by omega)]
  exact hu
theorem gq_zaldN (hX : Cx E X μ) {n j : Nat} {f : Nat → Int32} {i : Int32} (d : decode μ.2.1 pc = .ok (.baload, 1)) (hq : pc + 1 = q) (hM : M a = some (.inl (E.2.2.2.1 2, n, .inl f))) (hi : i = nI j) (hj : j < n) (hn : n < 100000) (kk : Gq E X μ Q q ls (.int (f j) :: st) M nc ns) : Gq E X μ Q pc ls (.int i :: .ref a :: st) M nc ns := by
  subst hi
  refine gq_zald hX d hq hM (vp_in_nI hj (by omega)) ?_
  rw [nI_clamp (by omega)]
  exact kk
theorem gq_zastN (hX : Cx E X μ) {n j : Nat} {f : Nat → Int32} {i x : Int32} (d : decode μ.2.1 pc = .ok (.bastore, 1)) (hq : pc + 1 = q) (hM : M a = some (.inl (E.2.2.2.1 2, n, .inl f))) (hi : i = nI j) (hj : j < n) (hn : n < 100000) (ha : E.2.2.1 ≤ a) (hu : hput M a (.inl (E.2.2.2.1 2, n, .inl (upd f j (vp_nar .boolean x)))) = M1) (kk : Gq E X μ Q q ls st M1 nc ns) : Gq E X μ Q pc ls (.int x :: .int i :: .ref a :: st) M nc ns := by
  subst hi
  refine gq_zast hX d hq hM (vp_in_nI hj (by omega)) ha ?_ kk
  rw [nI_clamp (by omega)]
  exact hu
theorem gq_baldN (hX : Cx E X μ) {n j : Nat} {f : Nat → Int32} {i : Int32} (d : decode μ.2.1 pc = .ok (.baload, 1)) (hq : pc + 1 = q) (hM : M a = some (.inl (E.2.2.2.1 5, n, .inl f))) (hi : i = nI j) (hj : j < n) (hn : n < 100000) (kk : Gq E X μ Q q ls (.int (f j) :: st) M nc ns) : Gq E X μ Q pc ls (.int i :: .ref a :: st) M nc ns := by
  subst hi
  refine gq_bald hX d hq hM (vp_in_nI hj (by omega)) ?_
  rw [nI_clamp (by omega)]
  exact kk
theorem gq_bastN (hX : Cx E X μ) {n j : Nat} {f : Nat → Int32} {i x : Int32} (d : decode μ.2.1 pc = .ok (.bastore, 1)) (hq : pc + 1 = q) (hM : M a = some (.inl (E.2.2.2.1 5, n, .inl f))) (hi : i = nI j) (hj : j < n) (hn : n < 100000) (ha : E.2.2.1 ≤ a) (hu : hput M a (.inl (E.2.2.2.1 5, n, .inl (upd f j (vp_nar .byte x)))) = M1) (kk : Gq E X μ Q q ls st M1 nc ns) : Gq E X μ Q pc ls (.int x :: .int i :: .ref a :: st) M nc ns := by
  subst hi
  refine gq_bast hX d hq hM (vp_in_nI hj (by omega)) ha ?_ kk
  rw [nI_clamp (by omega)]
  exact hu
/-- a call whose answer and end are known -/
theorem gq_callVe (hX : Cx E X μ) {idx a ci : Nat} {μ2 : Mth} {As rest fs : List Value} {mc ms nc1 ns1 : Nat} {r : Option Value} {M2 : Hp} (d : decode μ.2.1 pc = .ok (.invokevirtual idx, 3)) (hq : pc + 3 = q) (hc : CallV μ.1.cls idx μ2) (hct : Ct E μ2 (.ref a :: As) M (eqR r M2) mc ms) (hst : st = As.reverse ++ .ref a :: rest) (hM : M a = some (.inr (ci, fs))) (hci : (vwCl[ci]?).map (·.1) = some μ2.1.cls) (hnp : As.length = μ2.2.2.2.2.1) (hw : (rest.map fun v => v.category).sum ≤ 8) (hd : μ2.2.2.2.2.2.1 < μ.2.2.2.2.2.1 ∧ μ2.2.2.1 ≤ 45) (hnc : mc + nc1 = nc) (hns : ms + ns1 = ns)
    (kk : Gq E X μ Q q ls (r.toList ++ rest) M2 nc1 ns1) : Gq E X μ Q pc ls st M nc ns := by
  subst hq
  refine gq_callV hX d hc hct hst hM hci hnp hw hd hnc hns ?_
  rintro v M1 ⟨rfl, rfl⟩
  exact kk
theorem gq_callSe (hX : Cx E X μ) {idx : Nat} {μ2 : Mth} {As rest : List Value} {mc ms nc1 ns1 : Nat} {r : Option Value} {M2 : Hp} (d : decode μ.2.1 pc = .ok (.invokestatic idx, 3)) (hq : pc + 3 = q) (hc : CallS μ.1.cls idx μ2) (hct : Ct E μ2 As M (eqR r M2) mc ms) (hst : st = As.reverse ++ rest) (hnp : As.length = μ2.2.2.2.2.1) (hw : (rest.map fun v => v.category).sum ≤ 8) (hd : μ2.2.2.2.2.2.1 < μ.2.2.2.2.2.1 ∧ μ2.2.2.1 ≤ 45) (hnc : mc + nc1 = nc) (hns : ms + ns1 = ns)
    (kk : Gq E X μ Q q ls (r.toList ++ rest) M2 nc1 ns1) : Gq E X μ Q pc ls st M nc ns := by
  subst hq
  refine gq_callS hX d hc hct hst hnp hw hd hnc hns ?_
  rintro v M1 ⟨rfl, rfl⟩
  exact kk
theorem gq_ls {ls' st' : List Value} {M' : Hp} (h1 : ls' = ls) (h2 : st' = st) (h3 : M' = M) (k : Gq E X μ Q pc ls' st' M' nc ns) : Gq E X μ Q pc ls st M nc ns := by
  subst h1; subst h2; subst h3
  exact k
end LN
