/-! THE FORECAST, AND SUMS IN TWO WAYS -/
section FC
variable {S : St} {nc nt no B : Nat}
theorem lenB_cong {T : St} {c : Int32} (h4 : ∀ t, t < nt → T.2 4 t = S.2 4 t) (h5 : ∀ t, t < nt → (T.2 5 t = c ↔ S.2 5 t = c)) : lenB T nt c = lenB S nt c := it_cong (fun t x ht => by
  rw [h4 t ht]
  by_cases h : S.2 5 t = c
  · rw [if_pos h, if_pos ((h5 t ht).mpr h)]
  · rw [if_neg h, if_neg (fun z => h ((h5 t ht).mp z))])
theorem lenB_0 {c : Int32} (h : ∀ t, t < nt → ¬ S.2 5 t = c) : lenB S nt c = nI 0 := it_inv (I := fun s => s = nI 0) rfl (fun t x ht hx => by rw [if_neg (h t ht)]; exact hx)
/-- who has a length behind it, flies -/
theorem len_fly (h : RenOk S nc nt) (hnc : nc ≤ 6) {j : Nat} (hj : j < nc) (hl : ¬ lenB S nt (nI j) = nI 0) : ¬ S.2 3 j = 0 := by
  intro hf
  refine hl (lenB_0 (fun t ht e => ?_))
  rcases h t ht with e2 | ⟨a, ha, e2, f⟩
  · exact nI_m1 (show j < 100000 by omega) (e.symm.trans e2)
  · have := (nI_eq (by omega) (by omega)).mp (e.symm.trans e2)
    subst this
    exact f hf
theorem lenB_gro {i j : Nat} (hi : i < 100000) (hj : j < 100000) : lenB (groS S nt i) nt (nI j) = if i = j then nI 0 else lenB S nt (nI j) := by
  by_cases e : i = j
  · subst e
    rw [if_pos rfl]
    refine lenB_0 (fun t ht e => ?_)
    rw [groS_5 ht] at e
    split at e
    · exact nI_m1 hi e.symm
    · exact absurd e (by assumption)
  · rw [if_neg e]
    refine lenB_cong (fun _ _ => rfl) (fun t ht => ?_)
    rw [groS_5 ht]
    by_cases h : S.2 5 t = nI i
    · rw [if_pos h]
      constructor
      · exact fun z => absurd z.symm (nI_m1 hj)
      · exact fun z => absurd ((nI_eq (by omega) (by omega)).mp (h.symm.trans z)) e
    · rw [if_neg h]
/-- the debtors, one after another: what becomes of j -/
theorem deb_arr : ∀ n, (debS S nt n).1.2 2 = S.2 2
  | 0 => rfl
  | n + 1 => by
    have ih := deb_arr n
    show (if (debS S nt n).1.2 3 n = 0 then debS S nt n else if (debS S nt n).1.2 2 n ≤ nI 30 then debS S nt n else (groS (debS S nt n).1 nt n, (debS S nt n).2 + nI 1)).1.2 2 = _
    split
    · exact ih
    · split
      · exact ih
      · exact ih
theorem deb_j (hnc : nc ≤ 6) {j : Nat} (hj : j < nc) : ∀ n, n ≤ nc → if j < n ∧ ¬ S.2 3 j = 0 ∧ ¬ S.2 2 j ≤ nI 30 then lenB (debS S nt n).1 nt (nI j) = nI 0 else (lenB (debS S nt n).1 nt (nI j) = lenB S nt (nI j) ∧ (debS S nt n).1.2 3 j = S.2 3 j) := by
  intro n
  induction n with
  | zero => exact fun _ => by rw [if_neg (fun z => Nat.not_lt_zero _ z.1)]; exact ⟨rfl, rfl⟩
  | succ n ih =>
    intro hn
    have ih := ih (by omega)
    have hd : debS S nt (n + 1) = if (debS S nt n).1.2 3 n = 0 then debS S nt n else if (debS S nt n).1.2 2 n ≤ nI 30 then debS S nt n else (groS (debS S nt n).1 nt n, (debS S nt n).2 + nI 1) := rfl
    have ha : (debS S nt n).1.2 2 n = S.2 2 n := by rw [deb_arr]
    by_cases e : j = n
    · subst e
      rw [if_neg (fun z => Nat.lt_irrefl _ z.1)] at ih
      by_cases h3 : S.2 3 j = 0
      · rw [if_neg (fun z => z.2.1 h3), hd, if_pos (by rw [ih.2]; exact h3)]
        exact ih
      · by_cases h2 : S.2 2 j ≤ nI 30
        · rw [if_neg (fun z => z.2.2 h2), hd, if_neg (by rw [ih.2]; exact h3), if_pos (by rw [ha]; exact h2)]
          exact ih
        · rw [if_pos ⟨by omega, h3, h2⟩, hd, if_neg (by rw [ih.2]; exact h3), if_neg (by rw [ha]; exact h2)]
          show lenB (groS (debS S nt j).1 nt j) nt (nI j) = _
          rw [lenB_gro (by omega) (by omega), if_pos rfl]
    · have hstep : lenB (debS S nt (n + 1)).1 nt (nI j) = lenB (debS S nt n).1 nt (nI j) ∧ (debS S nt (n + 1)).1.2 3 j = (debS S nt n).1.2 3 j := by
        rw [hd]
        split
        · exact ⟨rfl, rfl⟩
        · split
          · exact ⟨rfl, rfl⟩
          · exact ⟨by show lenB (groS (debS S nt n).1 nt n) nt (nI j) = _; rw [lenB_gro (by omega) (by omega), if_neg (fun z => e z.symm)], by show (groS (debS S nt n).1 nt n).2 3 j = _; rw [groS_3, if_neg e]⟩
      by_cases hc : j < n ∧ ¬ S.2 3 j = 0 ∧ ¬ S.2 2 j ≤ nI 30
      · rw [if_pos hc] at ih
        rw [if_pos ⟨by omega, hc.2⟩, hstep.1]
        exact ih
      · rw [if_neg hc] at ih
        rw [if_neg (fun z => hc ⟨by omega, z.2⟩), hstep.1, hstep.2]
        exact ih
/-- an hour, for j -/
theorem hour_j (h : Ok S nc nt no B) {j : Nat} (hj : j < nc) {a r : Nat} (ea : S.2 2 j = nI a) (er : lenB S nt (nI j) = nI r) (hsm : a + r < 2 ^ 30) (hr : r < 2 ^ 30) :
    (hourS S nt nc).1.2 2 j = nI (a + r) ∧ (if r = 0 then lenB (hourS S nt nc).1 nt (nI j) = nI 0 else if 30 < a + r then lenB (hourS S nt nc).1 nt (nI j) = nI 0 else lenB (hourS S nt nc).1 nt (nI j) = nI r) := by
  have hnc := h.1.2.1
  have hc2 : (chaS S nt nc).2 2 j = nI (a + r) := by rw [chaS_2, if_pos hj, ea, er, nI_add]
  obtain ⟨f1, f3, f4, f5⟩ := chaS_f S nt nc
  have hcl : lenB (chaS S nt nc) nt (nI j) = nI r := by
    rw [← er]
    unfold lenB
    rw [f4, f5]
  have hd := deb_j (S := chaS S nt nc) (nt := nt) hnc hj nc (Nat.le_refl _)
  refine ⟨?_, ?_⟩
  · show (debS (chaS S nt nc) nt nc).1.2 2 j = _
    rw [deb_arr, hc2]
  · show if r = 0 then lenB (debS (chaS S nt nc) nt nc).1 nt (nI j) = nI 0 else if 30 < a + r then lenB (debS (chaS S nt nc) nt nc).1 nt (nI j) = nI 0 else lenB (debS (chaS S nt nc) nt nc).1 nt (nI j) = nI r
    rw [f3, hc2] at hd
    by_cases h0 : r = 0
    · rw [if_pos h0]
      split at hd
      · exact hd
      · rw [hd.1, hcl, h0]
    · rw [if_neg h0]
      have hfl : ¬ S.2 3 j = 0 := len_fly h.2.2.2.2.1 hnc hj (by rw [er]; exact fun e => h0 ((nI_eq (by omega) (by decide)).mp e))
      by_cases h30 : 30 < a + r
      · rw [if_pos h30]
        rw [if_pos ⟨hj, hfl, nI_ge h30 (by omega)⟩] at hd
        exact hd
      · rw [if_neg h30]
        rw [if_neg (fun z => z.2.2 (nI_le (by omega) (by decide)))] at hd
        rw [hd.1, hcl]
/-- hours, for j: r an hour, until the hour that goes beyond 30 -/
def lastH (a r : Nat) : Nat := if 30 < a then 1 else (30 - a) / r + 1
theorem pas_j (h : Ok S nc nt no B) (hB : B < 2 ^ 28) {j : Nat} (hj : j < nc) {a r : Nat} (ea : S.2 2 j = nI a) (haB : a ≤ B) (er : lenB S nt (nI j) = nI r) (hr0 : r ≠ 0) (hr : r ≤ 72) : ∀ q, q ≤ 1000 →
    (pasS S nt nc q).1.2 2 j = nI (a + r * (if q < lastH a r then q else lastH a r)) ∧ (if q < lastH a r then lenB (pasS S nt nc q).1 nt (nI j) = nI r else lenB (pasS S nt nc q).1 nt (nI j) = nI 0) := by
  have hl1 : 1 ≤ lastH a r := by
    unfold lastH
    split
    · exact Nat.le_refl _
    · exact Nat.le_add_left _ _
  have hl31 : lastH a r ≤ 31 := by
    unfold lastH
    split
    · omega
    · have := Nat.div_le_self (30 - a) r
      omega
  intro q
  induction q with
  | zero =>
    intro _
    rw [if_pos (by omega), if_pos (by omega), Nat.mul_zero, Nat.add_zero]
    exact ⟨ea, er⟩
  | succ q ih =>
    intro hq
    obtain ⟨i1, i2⟩ := ih (by omega)
    have hok := h.pas q
    have e1 : (pasS S nt nc (q + 1)).1 = (hourS (pasS S nt nc q).1 nt nc).1 := rfl
    rw [e1]
    by_cases hlt : q < lastH a r
    · rw [if_pos hlt] at i1 i2
      have hmul : r * q ≤ 72 * 31 := Nat.mul_le_mul hr (by omega)
      obtain ⟨h1, h2⟩ := hour_j hok hj i1 i2 (by omega) (by omega)
      rw [if_neg hr0] at h2
      have hsucc : a + r * q + r = a + r * (q + 1) := by rw [Nat.mul_succ, Nat.add_assoc]
      rw [hsucc] at h1 h2
      by_cases hl2 : q + 1 < lastH a r
      · rw [if_pos hl2, if_pos hl2]
        have h30 : ¬ 30 < a + r * (q + 1) := by
          have h9 : q + 1 < if 30 < a then 1 else (30 - a) / r + 1 := hl2
          by_cases ha : 30 < a
          · rw [if_pos ha] at h9
            omega
          · rw [if_neg ha] at h9
            have h10 : q + 1 ≤ (30 - a) / r := by omega
            have h11 := (Nat.le_div_iff_mul_le (by omega)).mp h10
            rw [Nat.mul_comm] at h11
            omega
        rw [if_neg h30] at h2
        exact ⟨h1, h2⟩
      · have hle : lastH a r = q + 1 := by omega
        rw [if_neg hl2, if_neg hl2, hle]
        have h30 : 30 < a + r * (q + 1) := by
          have h9 : (if 30 < a then 1 else (30 - a) / r + 1) = q + 1 := hle
          by_cases ha : 30 < a
          · omega
          · rw [if_neg ha] at h9
            have h10 : (30 - a) / r < q + 1 := by omega
            have h11 := (Nat.div_lt_iff_lt_mul (by omega)).mp h10
            rw [Nat.mul_comm] at h11
            omega
        rw [if_pos h30] at h2
        exact ⟨h1, h2⟩
    · rw [if_neg hlt] at i1 i2
      have hmul : r * lastH a r ≤ 72 * 31 := Nat.mul_le_mul hr (by omega)
      obtain ⟨h1, h2⟩ := hour_j hok hj i1 i2 (by omega) (by omega)
      rw [if_pos rfl] at h2
      rw [if_neg (by omega), if_neg (by omega)]
      exact ⟨h1, h2⟩
theorem pas_j0 (h : Ok S nc nt no B) (hB : B < 2 ^ 28) {j : Nat} (hj : j < nc) {a : Nat} (ea : S.2 2 j = nI a) (haB : a ≤ B) (er : lenB S nt (nI j) = nI 0) : ∀ q, (pasS S nt nc q).1.2 2 j = nI a ∧ lenB (pasS S nt nc q).1 nt (nI j) = nI 0 := by
  intro q
  induction q with
  | zero => exact ⟨ea, er⟩
  | succ q ih =>
    obtain ⟨h1, h2⟩ := hour_j (h.pas q) hj ih.1 ih.2 (by omega) (by decide)
    rw [if_pos rfl] at h2
    exact ⟨h1, h2⟩
theorem rat_pas (h : Ok S nc nt no B) (hB : B < 2 ^ 28) {j : Nat} (hj : j < nc) {q : Nat} (hq : q ≤ 1000) : (pasS S nt nc q).1.2 2 j = ratI S nt j (nI q) := by
  obtain ⟨a, haB, ea⟩ := (h.2.2.1 j hj).2
  obtain ⟨r, hr, er⟩ := lenB_n h.2.2.2.1 (nI j) nt (Nat.le_refl _)
  have hnt := h.1.2.2.2.1
  have hmulr : r ≤ 72 := by omega
  unfold ratI
  rw [er, ea]
  by_cases h0 : r = 0
  · subst h0
    rw [if_pos nI_0]
    exact (pas_j0 h hB hj ea haB er q).1
  · rw [if_neg (show ¬ nI r = 0 from fun e => h0 ((nI_eq (by omega) (by decide)).mp (show nI r = nI 0 from e)))]
    have hl31 : lastH a r ≤ 31 := by
      unfold lastH
      split
      · omega
      · have := Nat.div_le_self (30 - a) r
        omega
    have hL : (if nI a ≤ nI 30 then (nI 30 - nI a) / nI r + nI 1 else nI 1) = nI (lastH a r) := by
      unfold lastH
      by_cases ha : 30 < a
      · rw [if_neg (nI_ge ha (by omega)), if_pos ha]
      · rw [if_pos (nI_le (by omega) (by decide)), if_neg ha, pk_sub (by omega), pk_div (by omega) (by omega) (by omega), inM]
    rw [hL, (pas_j h hB hj ea haB er h0 hmulr q hq).1]
    by_cases hlt : q < lastH a r
    · rw [if_pos hlt, if_neg (nI_nlt (by omega) (by omega)), nI_m, nI_add]
    · rw [if_neg hlt]
      by_cases h2 : lastH a r < q
      · rw [if_pos (nI_lt h2 (by omega)), nI_m, nI_add]
      · have e : q = lastH a r := by omega
        rw [if_neg (nI_nlt (by omega) (by omega)), nI_m, nI_add, e]
/-- the class's check of its forecasts -/
theorem Ok.hag (h : Ok S nc nt no B) (hB : B < 2 ^ 28) {S1 : St} {j q : Nat} (hn : Nar S1) (hj : j < nc) (hq : q ≤ 24) : (pasS (copS S1 S nc nt no) nt nc q).1.2 2 j = ratI S nt j (nI q) := by
  rw [rat_pas (h.cop hn) hB hj (by omega)]
  unfold ratI
  rw [show (copS S1 S nc nt no).2 2 j = S.2 2 j from itU_lt hj, lenB_cong (S := S) (T := copS S1 S nc nt no) (fun t ht => itU_lt ht) (fun t ht => by rw [show (copS S1 S nc nt no).2 5 t = S.2 5 t from itU_lt ht])]
/-- the votes, member by member -/
theorem sumM1_sh (S : St) (k a x : Nat) (s t : Int32) : ∀ n, sumM1 S n k a x (s + t) = sumM1 S n k a x s + t
  | 0 => rfl
  | n + 1 => by
    have ih := sumM1_sh S k a x s t n
    show (if S.2 1 n < nI (x + 1) then sumM1 S n k a x (s + t) else if voiF S k a n = nI 1 then sumM1 S n k a x (s + t) + nI 1 else sumM1 S n k a x (s + t)) = (if S.2 1 n < nI (x + 1) then sumM1 S n k a x s else if voiF S k a n = nI 1 then sumM1 S n k a x s + nI 1 else sumM1 S n k a x s) + t
    rw [ih]
    split
    · rfl
    · split
      · rw [Int32.add_assoc, Int32.add_comm t, ← Int32.add_assoc]
      · rfl
def memE (S : St) (k a n x : Nat) : Int32 := if S.2 1 n < nI (x + 1) then nI 0 else if voiF S k a n = nI 1 then nI 1 else nI 0
theorem sumM_s (S : St) (k a n : Nat) : ∀ X, it (fun x s => sumM1 S (n + 1) k a x s) (nI 0) X = it (fun x s => sumM1 S n k a x s) (nI 0) X + it (fun x s => s + memE S k a n x) (nI 0) X
  | 0 => (Int32.add_zero _).symm
  | X + 1 => by
    have ih := sumM_s S k a n X
    show sumM1 S (n + 1) k a X (it (fun x s => sumM1 S (n + 1) k a x s) (nI 0) X) = sumM1 S n k a X (it (fun x s => sumM1 S n k a x s) (nI 0) X) + (it (fun x s => s + memE S k a n x) (nI 0) X + memE S k a n X)
    rw [ih]
    generalize it (fun x s => sumM1 S n k a x s) (nI 0) X = u
    generalize it (fun x s => s + memE S k a n x) (nI 0) X = v
    have e : sumM1 S (n + 1) k a X (u + v) = sumM1 S n k a X (u + v) + memE S k a n X := by
      show (if S.2 1 n < nI (X + 1) then sumM1 S n k a X (u + v) else if voiF S k a n = nI 1 then sumM1 S n k a X (u + v) + nI 1 else sumM1 S n k a X (u + v)) = _
      unfold memE
      split
      · exact (Int32.add_zero _).symm
      · split
        · rfl
        · exact (Int32.add_zero _).symm
    rw [e, sumM1_sh, Int32.add_assoc]
theorem memE_9 (S : St) (k a n m : Nat) (hm1 : 1 ≤ m) (hm9 : m ≤ 9) (e : S.2 1 n = nI m) : it (fun x s => s + memE S k a n x) (nI 0) 9 = if voiF S k a n = nI 1 then nI m else nI 0 := by
  have h : ∀ x, x < 9 → memE S k a n x = if voiF S k a n = nI 1 then (if m < x + 1 then nI 0 else nI 1) else nI 0 := by
    intro x hx
    unfold memE
    rw [e]
    by_cases h1 : m < x + 1
    · rw [if_pos (nI_lt h1 (by omega)), if_pos h1]
      split <;> rfl
    · rw [if_neg (nI_nlt (by omega) (by omega)), if_neg h1]
  rw [it_cong (fun x s hx => by rw [h x hx])]
  by_cases hv : voiF S k a n = nI 1
  · rw [it_cong (fun x s hx => by rw [if_pos hv]), if_pos hv]
    obtain rfl | rfl | rfl | rfl | rfl | rfl | rfl | rfl | rfl : m = 1 ∨ m = 2 ∨ m = 3 ∨ m = 4 ∨ m = 5 ∨ m = 6 ∨ m = 7 ∨ m = 8 ∨ m = 9 := by omega
    all_goals decide
  · rw [it_cong (fun x s hx => by rw [if_neg hv]), if_neg hv]
    decide
theorem sum_votes (h : okZ S nc B) (k a : Nat) : ∀ n, n ≤ nc → sumM S n k a = sumV S n k a (nI 1)
  | 0, _ => by show it (fun x s => s) (nI 0) 9 = nI 0; decide
  | n + 1, hn => by
    obtain ⟨m, h1, h2, h3⟩ := (h n (by omega)).1
    have ih := sum_votes h k a n (by omega)
    unfold sumM at ih ⊢
    rw [sumM_s, ih, memE_9 S k a n m h1 h2 h3]
    show _ = if voiF S k a n = nI 1 then sumV S n k a (nI 1) + S.2 1 n else sumV S n k a (nI 1)
    rw [h3]
    split
    · rfl
    · exact Int32.add_zero _
theorem Ok.sv (h : Ok S nc nt no B) (k a : Nat) : sumV S nc k a (nI 1) = sumM S nc k a := (sum_votes h.2.2.1 k a nc (Nat.le_refl _)).symm
theorem Ok.hsu (h : Ok S nc nt no B) : ∀ k, k < no → ∃ a, a < nc ∧ S.2 9 k = nI a ∧ sumV S nc k a (nI 1) = sumM S nc k a := fun k hk => by
  obtain ⟨a, o, h1, h2, -⟩ := h.2.2.2.2.2.1 k hk
  exact ⟨a, h1, h2, h.sv k a⟩
/-- rented tails -/
theorem ren_c : ∀ n, taiB S n (-1) + renC S n = nI n
  | 0 => rfl
  | n + 1 => by
    have ih := ren_c n
    show (if S.2 5 n = -1 then taiB S n (-1) + nI 1 else taiB S n (-1)) + (if S.2 5 n = -1 then renC S n else renC S n + nI 1) = _
    rw [show nI (n + 1) = nI n + nI 1 from (inM n).symm, ← ih]
    split
    · rw [Int32.add_assoc, Int32.add_comm (nI 1), ← Int32.add_assoc]
    · rw [← Int32.add_assoc]
theorem Ok.ren (h : Ok S nc nt no B) : S.1 1 - taiB S nt (-1) = renC S nt := by
  rw [h.1.2.2.1, ← ren_c (S := S) nt]
  generalize taiB S nt (-1) = u
  generalize renC S nt = v
  grind
end FC
