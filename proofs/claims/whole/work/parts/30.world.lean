/-- what the whole world is made of: numbers, states, rows, texts; the reference's numbers and rows, its state's row; the law's two rows -/
abbrev Kt : Type := (Nat → Int32) × (Nat → St) × (Nat → Nat → Int32) × (Nat → Ln) × St × (Nat → Int32) × (Nat → Int64) × (Nat → UInt64)
def kSc (K : Kt) (j : Nat) (v : Int32) : Kt := (fun i => if i = j then v else K.1 i, K.2)
def kSs (K : Kt) (j : Nat) (S : St) : Kt := (K.1, fun i => if i = j then S else K.2.1 i, K.2.2)
def kAr (K : Kt) (j : Nat) (f : Nat → Int32) : Kt := (K.1, K.2.1, fun i => if i = j then f else K.2.2.1 i, K.2.2.2)
def kTx (K : Kt) (j : Nat) (l : Ln) : Kt := (K.1, K.2.1, K.2.2.1, fun i => if i = j then l else K.2.2.2.1 i, K.2.2.2.2)
def kMd (K : Kt) (T : St) (w : Nat → Int32) : Kt := (K.1, K.2.1, K.2.2.1, K.2.2.2.1, T, w, K.2.2.2.2.2.2)
def kLo (K : Kt) (f : Nat → Int64) : Kt := (K.1, K.2.1, K.2.2.1, K.2.2.2.1, K.2.2.2.2.1, K.2.2.2.2.2.1, f, K.2.2.2.2.2.2.2)
def kDo (K : Kt) (f : Nat → UInt64) : Kt := (K.1, K.2.1, K.2.2.1, K.2.2.2.1, K.2.2.2.2.1, K.2.2.2.2.2.1, K.2.2.2.2.2.2.1, f)
def bS (b : Nat → Nat) (i : Nat) : Nat → Nat := fun j => b (6 + 13 * i + j)
def bM (b : Nat → Nat) : Nat → Nat := fun j => b (151 + j)
def kC0 (E : Ev) (b : Nat → Nat) (K : Kt) : Nat → va_E := fun k => match k with
  | 0 => .inr (8, [.ref (b 6), .ref (b 19), .ref (b 32), .int (K.1 0), .ref (b 1), .ref (b 3), .int (K.1 1), .int (K.1 2), .int (K.1 3), .ref (b 150)])
  | 1 => .inr (5, [.ref (b 2), .int (K.1 4), .int (K.1 5)])
  | 2 => .inl (E.2.2.2.1 6, 8, .inr (.inr (.inr (.inr (fun i => if i < 8 then some (b (45 + 13 * i)) else none)))))
  | 3 => .inr (4, [.ref (b 149), .ref (b 4), .ref (b 5), .int (K.1 6), .int (K.1 7)])
  | 4 => .inl (E.2.2.2.1 0, 60, .inl (K.2.2.1 0))
  | _ => .inl (E.2.2.2.1 0, 120, .inl (K.2.2.1 1))
def kCell (E : Ev) (b : Nat → Nat) (K : Kt) : Nat → va_E := fun k => if k < 6 then kC0 E b K k else if k < 149 then sxC E (bS b ((k - 6) / 13)) (K.2.1 ((k - 6) / 13)) ((k - 6) % 13) else if k < 160 then mxC E (bM b) (setA K.2.2.2.2.1 1 K.2.2.2.2.2.1) (k - 151) else if k = 160 then .inl (E.2.2.2.1 3, 1, .inr (.inl K.2.2.2.2.2.2.1)) else .inl (E.2.2.2.1 4, 1, .inr (.inr (.inr (.inl K.2.2.2.2.2.2.2))))
def okC (k : Nat) : Prop := k < 162 ∧ k ≠ 149 ∧ k ≠ 150
def Wd (E : Ev) (b : Nat → Nat) (K : Kt) (M : Hp) : Prop := (∀ k, okC k → M (b k) = some (kCell E b K k)) ∧ ∃ v1 m1 v2 m2, SbP E (b 149) (K.2.2.2.1 0).1 (K.2.2.2.1 0).2 v1 m1 M ∧ SbP E (b 150) (K.2.2.2.1 1).1 (K.2.2.2.1 1).2 v2 m2 M ∧ v1 ≠ v2 ∧ ∀ k, k < 162 → b k ≠ v1 ∧ b k ≠ v2
section WD
variable {E : Ev} {b : Nat → Nat} {K K1 : Kt} {M M1 : Hp}
theorem Lay.bS (hb : Lay E 162 b) {i : Nat} (hi : i < 11) : Lay E 13 (bS b i) := ⟨fun x y hx hy h => by have := hb.1 _ _ (show 6 + 13 * i + x < 162 by omega) (show 6 + 13 * i + y < 162 by omega) h; omega, fun x hx => hb.2 _ (by omega)⟩
theorem Lay.bM (hb : Lay E 162 b) : Lay E 9 (bM b) := ⟨fun x y hx hy h => by have := hb.1 _ _ (show 151 + x < 162 by omega) (show 151 + y < 162 by omega) h; omega, fun x hx => hb.2 _ (by omega)⟩
theorem bS_ap (hb : Lay E 162 b) {i j : Nat} (hi : i < 11) (hj : j < 11) (h : i ≠ j) : Apart 13 (bS b i) 13 (bS b j) := fun x y hx hy e => by have := hb.1 _ _ (show 6 + 13 * i + x < 162 by omega) (show 6 + 13 * j + y < 162 by omega) e; omega
theorem SbP.moved {a v n m : Nat} {t : Nat → Nat} (h : SbP E a t n v m M) (h1 : M1 a = M a) (h2 : M1 v = M v) : SbP E a t n v m M1 := by
  obtain ⟨⟨z, ha⟩, ⟨f, hv, hf, ht⟩, r⟩ := h
  exact ⟨⟨z, h1.trans ha⟩, ⟨f, h2.trans hv, hf, ht⟩, r⟩
theorem Wd.change (hb : Lay E 162 b) (hW : Wd E b K M) (h1 : ∀ k, okC k → M1 (b k) = some (kCell E b K1 k)) (h2 : ∀ a, (∀ k, okC k → b k ≠ a) → M1 a = M a) (h3 : K1.2.2.2.1 = K.2.2.2.1) : Wd E b K1 M1 := by
  obtain ⟨-, v1, m1, v2, m2, s1, s2, hv, hk⟩ := hW
  refine ⟨h1, v1, m1, v2, m2, ?_, ?_, hv, hk⟩
  · rw [h3]
    exact s1.moved (h2 _ (fun k hk2 e => hk2.2.1 (hb.1 _ _ hk2.1 (by decide) e))) (h2 _ (fun k hk2 => (hk k hk2.1).1))
  · rw [h3]
    exact s2.moved (h2 _ (fun k hk2 e => hk2.2.2 (hb.1 _ _ hk2.1 (by decide) e))) (h2 _ (fun k hk2 => (hk k hk2.1).2))
theorem Wd.put (hb : Lay E 162 b) (hW : Wd E b K M) {k : Nat} {x : va_E} (hk : okC k) (hx : x = kCell E b K1 k) (hs : ∀ j, okC j → j ≠ k → kCell E b K1 j = kCell E b K j) (h3 : K1.2.2.2.1 = K.2.2.2.1) : Wd E b K1 (hput M (b k) x) := by
  subst hx
  refine hW.change hb (fun j hj => ?_) (fun a ha => hput_n (fun e => ha k hk e.symm)) h3
  by_cases e : j = k
  · subst e
    exact hput_s _ _ _
  · rw [hput_n (fun z => e (hb.1 _ _ hj.1 hk.1 z)), hW.1 j hj, hs j hj e]
theorem kC_st {i j : Nat} (hi : i < 11) (hj : j < 13) : kCell E b K (6 + 13 * i + j) = sxC E (bS b i) (K.2.1 i) j := by
  unfold kCell
  rw [if_neg (by omega), if_pos (by omega), show (6 + 13 * i + j - 6) / 13 = i by omega, show (6 + 13 * i + j - 6) % 13 = j by omega]
theorem kC_md {j : Nat} (hj : j < 9) : kCell E b K (151 + j) = mxC E (bM b) (setA K.2.2.2.2.1 1 K.2.2.2.2.2.1) j := by
  unfold kCell
  rw [if_neg (by omega), if_neg (by omega), if_pos (by omega), show 151 + j - 151 = j by omega]
theorem Wd.s (hW : Wd E b K M) {i j : Nat} (hi : i < 11) (hj : j < 13) : M (bS b i j) = some (sxC E (bS b i) (K.2.1 i) j) := by
  rw [← kC_st (E := E) (K := K) hi hj]
  exact hW.1 _ ⟨by omega, by omega, by omega⟩
theorem Wd.has (hb : Lay E 162 b) (hW : Wd E b K M) {i : Nat} (hi : i < 11) : StP E (bS b i) (K.2.1 i) M = M := putP_self (hb.bS hi) (fun k hk => hW.s hi hk)
theorem Wd.md (hb : Lay E 162 b) (hW : Wd E b K M) : MdW E (bM b) K.2.2.2.2.1 K.2.2.2.2.2.1 M = M := putP_self hb.bM (fun k hk => by
  rw [← kC_md (E := E) (K := K) hk]
  exact hW.1 _ ⟨by omega, by omega, by omega⟩)
theorem kC_low {k : Nat} (hk : k < 6) : kCell E b K k = kC0 E b K k := if_pos hk
theorem kC_hi {k : Nat} (hk : 6 ≤ k) (h : K1.2 = K.2) : kCell E b K1 k = kCell E b K k := by
  unfold kCell
  rw [if_neg (show ¬ k < 6 by omega), if_neg (show ¬ k < 6 by omega), h]
/-- a state is written -/
theorem Wd.st (hb : Lay E 162 b) (hW : Wd E b K M) {i : Nat} (hi : i < 11) (S : St) : Wd E b (kSs K i S) (StP E (bS b i) S M) := by
  refine hW.change hb (fun k hk => ?_) (fun a ha => putP_off (fun j hj => ha _ ⟨by omega, by omega, by omega⟩)) rfl
  by_cases h : 6 + 13 * i ≤ k ∧ k < 6 + 13 * i + 13
  · obtain ⟨j, rfl⟩ : ∃ j, k = 6 + 13 * i + j := ⟨k - (6 + 13 * i), by omega⟩
    rw [kC_st hi (by omega), show (kSs K i S).2.1 i = S from if_pos rfl]
    exact putP_at (hb.bS hi) (by omega)
  · have e0 : StP E (bS b i) S M (b k) = M (b k) := putP_off (n := 13) (fun j hj e => by have := hb.1 _ _ (show 6 + 13 * i + j < 162 by omega) hk.1 e; omega)
    rw [e0, hW.1 k hk]
    refine congrArg some ?_
    unfold kCell
    by_cases h6 : k < 6
    · rw [if_pos h6, if_pos h6]
      rfl
    · rw [if_neg h6, if_neg h6]
      by_cases h149 : k < 149
      · rw [if_pos h149, if_pos h149, show (kSs K i S).2.1 ((k - 6) / 13) = K.2.1 ((k - 6) / 13) from if_neg (by omega)]
      · rw [if_neg h149, if_neg h149]
        rfl
/-- the reference is written -/
theorem Wd.mdw (hb : Lay E 162 b) (hW : Wd E b K M) (T : St) (w : Nat → Int32) : Wd E b (kMd K T w) (MdW E (bM b) T w M) := by
  refine hW.change hb (fun k hk => ?_) (fun a ha => putP_off (fun j hj => ha _ ⟨by omega, by omega, by omega⟩)) rfl
  by_cases h : 151 ≤ k ∧ k < 160
  · obtain ⟨j, rfl⟩ : ∃ j, k = 151 + j := ⟨k - 151, by omega⟩
    rw [kC_md (by omega)]
    exact putP_at hb.bM (by omega)
  · have e0 : MdW E (bM b) T w M (b k) = M (b k) := putP_off (n := 9) (fun j hj e => by have := hb.1 _ _ (show 151 + j < 162 by omega) hk.1 e; omega)
    rw [e0, hW.1 k hk]
    refine congrArg some ?_
    unfold kCell
    by_cases h6 : k < 6
    · rw [if_pos h6, if_pos h6]
      rfl
    · rw [if_neg h6, if_neg h6]
      by_cases h149 : k < 149
      · rw [if_pos h149, if_pos h149]
        rfl
      · rw [if_neg h149, if_neg h149]
        have g1 : k ≠ 149 := hk.2.1
        have g2 : k ≠ 150 := hk.2.2
        have h160 : ¬ k < 160 := by omega
        rw [if_neg h160, if_neg h160]
        rfl
/-- a text is written -/
theorem Wd.tx0 (hb : Lay E 162 b) (hW : Wd E b K M) {v1 m1 v2 m2 : Nat} (s1 : SbP E (b 149) (K.2.2.2.1 0).1 (K.2.2.2.1 0).2 v1 m1 M) (s2 : SbP E (b 150) (K.2.2.2.1 1).1 (K.2.2.2.1 1).2 v2 m2 M) (hv : v1 ≠ v2) (hkv : ∀ k, k < 162 → b k ≠ v1 ∧ b k ≠ v2) {l : Ln} (h : SbN E (b 149) v1 l.1 l.2 M M1) : Wd E b (kTx K 0 l) M1 := by
  obtain ⟨v', m', s', hf, hr⟩ := h
  have hn : ∀ k, k < 162 → b k ≠ v' := by
    intro k hk e
    rcases hf with rfl | hf
    · exact (hkv k hk).1 e
    · rw [← e] at hf
      by_cases h1 : k = 149
      · subst h1
        obtain ⟨⟨z, ha⟩, -⟩ := s1
        rw [hf] at ha
        cases ha
      · by_cases h2 : k = 150
        · subst h2
          obtain ⟨⟨z, ha⟩, -⟩ := s2
          rw [hf] at ha
          cases ha
        · rw [hW.1 k ⟨hk, h1, h2⟩] at hf
          cases hf
  have hn2 : v2 ≠ v' := by
    intro e
    rcases hf with rfl | hf
    · exact hv e.symm
    · obtain ⟨-, ⟨f, ha, -⟩, -⟩ := s2
      rw [← e, ha] at hf
      cases hf
  refine ⟨fun k hk => ?_, v', m', v2, m2, s', s2.moved (hr _ (fun e => by have := hb.1 _ _ (by decide) (by decide) e; omega) (hkv _ (by decide)).1 (hn _ (by decide))) (hr _ (fun e => (hkv 149 (by decide)).2 e.symm) (Ne.symm hv) hn2), Ne.symm hn2, fun k hk => ⟨hn k hk, (hkv k hk).2⟩⟩
  rw [hr _ (fun e => hk.2.1 (hb.1 _ _ hk.1 (by decide) e)) (hkv k hk.1).1 (hn k hk.1), hW.1 k hk]
  rfl
theorem Wd.tx1 (hb : Lay E 162 b) (hW : Wd E b K M) {v1 m1 v2 m2 : Nat} (s1 : SbP E (b 149) (K.2.2.2.1 0).1 (K.2.2.2.1 0).2 v1 m1 M) (s2 : SbP E (b 150) (K.2.2.2.1 1).1 (K.2.2.2.1 1).2 v2 m2 M) (hv : v1 ≠ v2) (hkv : ∀ k, k < 162 → b k ≠ v1 ∧ b k ≠ v2) {l : Ln} (h : SbN E (b 150) v2 l.1 l.2 M M1) : Wd E b (kTx K 1 l) M1 := by
  obtain ⟨v', m', s', hf, hr⟩ := h
  have hn : ∀ k, k < 162 → b k ≠ v' := by
    intro k hk e
    rcases hf with rfl | hf
    · exact (hkv k hk).2 e
    · rw [← e] at hf
      by_cases h1 : k = 149
      · subst h1
        obtain ⟨⟨z, ha⟩, -⟩ := s1
        rw [hf] at ha
        cases ha
      · by_cases h2 : k = 150
        · subst h2
          obtain ⟨⟨z, ha⟩, -⟩ := s2
          rw [hf] at ha
          cases ha
        · rw [hW.1 k ⟨hk, h1, h2⟩] at hf
          cases hf
  have hn2 : v1 ≠ v' := by
    intro e
    rcases hf with rfl | hf
    · exact hv e
    · obtain ⟨-, ⟨f, ha, -⟩, -⟩ := s1
      rw [← e, ha] at hf
      cases hf
  refine ⟨fun k hk => ?_, v1, m1, v', m', s1.moved (hr _ (fun e => by have := hb.1 _ _ (by decide) (by decide) e; omega) (hkv _ (by decide)).2 (hn _ (by decide))) (hr _ (fun e => (hkv 150 (by decide)).1 e.symm) hv hn2), s', hn2, fun k hk => ⟨(hkv k hk).1, hn k hk⟩⟩
  rw [hr _ (fun e => hk.2.2 (hb.1 _ _ hk.1 (by decide) e)) (hkv k hk.1).2 (hn k hk.1), hW.1 k hk]
  rfl
theorem okl {k : Nat} (h : k < 149) : okC k := ⟨by omega, by omega, by omega⟩
/-- lows -/
theorem sc_same {j : Nat} {v : Int32} {k : Nat} (h : ∀ i, i < 6 → i ≠ k → kC0 E b (kSc K j v) i = kC0 E b K i) : ∀ i, okC i → i ≠ k → kCell E b (kSc K j v) i = kCell E b K i := by
  intro i hi hk
  by_cases h6 : i < 6
  · rw [kC_low h6, kC_low h6, h i h6 hk]
  · exact kC_hi (by omega) rfl
theorem low6 {Q : Nat → Prop} (h0 : Q 0) (h1 : Q 1) (h2 : Q 2) (h3 : Q 3) (h4 : Q 4) (h5 : Q 5) : ∀ i, i < 6 → Q i
  | 0, _ => h0 | 1, _ => h1 | 2, _ => h2 | 3, _ => h3 | 4, _ => h4 | 5, _ => h5
  | _ + 6, h => absurd h (by omega)
theorem ar_same {j : Nat} {f : Nat → Int32} {k : Nat} (h : ∀ i, i < 6 → i ≠ k → kC0 E b (kAr K j f) i = kC0 E b K i) : ∀ i, okC i → i ≠ k → kCell E b (kAr K j f) i = kCell E b K i := by
  intro i hi hk
  by_cases h6 : i < 6
  · rw [kC_low h6, kC_low h6, h i h6 hk]
  · unfold kCell
    rw [if_neg h6, if_neg h6]
    rfl
theorem Wd.c0 (hW : Wd E b K M) : M (b 0) = some (.inr (8, [.ref (b 6), .ref (b 19), .ref (b 32), .int (K.1 0), .ref (b 1), .ref (b 3), .int (K.1 1), .int (K.1 2), .int (K.1 3), .ref (b 150)])) := hW.1 0 (okl (by decide))
theorem Wd.c1 (hW : Wd E b K M) : M (b 1) = some (.inr (5, [.ref (b 2), .int (K.1 4), .int (K.1 5)])) := hW.1 1 (okl (by decide))
theorem Wd.c2 (hW : Wd E b K M) : M (b 2) = some (.inl (E.2.2.2.1 6, 8, .inr (.inr (.inr (.inr (fun i => if i < 8 then some (b (45 + 13 * i)) else none)))))) := hW.1 2 (okl (by decide))
theorem Wd.c3 (hW : Wd E b K M) : M (b 3) = some (.inr (4, [.ref (b 149), .ref (b 4), .ref (b 5), .int (K.1 6), .int (K.1 7)])) := hW.1 3 (okl (by decide))
theorem Wd.c4 (hW : Wd E b K M) : M (b 4) = some (.inl (E.2.2.2.1 0, 60, .inl (K.2.2.1 0))) := hW.1 4 (okl (by decide))
theorem Wd.c5 (hW : Wd E b K M) : M (b 5) = some (.inl (E.2.2.2.1 0, 120, .inl (K.2.2.1 1))) := hW.1 5 (okl (by decide))
theorem Wd.lo (hW : Wd E b K M) : M (b 160) = some (.inl (E.2.2.2.1 3, 1, .inr (.inl K.2.2.2.2.2.2.1))) := hW.1 160 ⟨by decide, by decide, by decide⟩
theorem Wd.dq (hW : Wd E b K M) : M (b 161) = some (.inl (E.2.2.2.1 4, 1, .inr (.inr (.inr (.inl K.2.2.2.2.2.2.2))))) := hW.1 161 ⟨by decide, by decide, by decide⟩
theorem Wd.w0_3 (hb : Lay E 162 b) (hW : Wd E b K M) (v : Int32) : Wd E b (kSc K 0 v) (hput M (b 0) (.inr (8, List.set [.ref (b 6), .ref (b 19), .ref (b 32), .int (K.1 0), .ref (b 1), .ref (b 3), .int (K.1 1), .int (K.1 2), .int (K.1 3), .ref (b 150)] 3 (.int v)))) := hW.put hb (okl (by decide)) rfl (sc_same (low6 (Q := fun i => i ≠ 0 → kC0 E b (kSc K 0 v) i = kC0 E b K i) (fun h => absurd rfl h) (fun _ => rfl) (fun _ => rfl) (fun _ => rfl) (fun _ => rfl) (fun _ => rfl))) rfl
theorem Wd.w0_6 (hb : Lay E 162 b) (hW : Wd E b K M) (v : Int32) : Wd E b (kSc K 1 v) (hput M (b 0) (.inr (8, List.set [.ref (b 6), .ref (b 19), .ref (b 32), .int (K.1 0), .ref (b 1), .ref (b 3), .int (K.1 1), .int (K.1 2), .int (K.1 3), .ref (b 150)] 6 (.int v)))) := hW.put hb (okl (by decide)) rfl (sc_same (low6 (Q := fun i => i ≠ 0 → kC0 E b (kSc K 1 v) i = kC0 E b K i) (fun h => absurd rfl h) (fun _ => rfl) (fun _ => rfl) (fun _ => rfl) (fun _ => rfl) (fun _ => rfl))) rfl
theorem Wd.w0_7 (hb : Lay E 162 b) (hW : Wd E b K M) (v : Int32) : Wd E b (kSc K 2 v) (hput M (b 0) (.inr (8, List.set [.ref (b 6), .ref (b 19), .ref (b 32), .int (K.1 0), .ref (b 1), .ref (b 3), .int (K.1 1), .int (K.1 2), .int (K.1 3), .ref (b 150)] 7 (.int v)))) := hW.put hb (okl (by decide)) rfl (sc_same (low6 (Q := fun i => i ≠ 0 → kC0 E b (kSc K 2 v) i = kC0 E b K i) (fun h => absurd rfl h) (fun _ => rfl) (fun _ => rfl) (fun _ => rfl) (fun _ => rfl) (fun _ => rfl))) rfl
theorem Wd.w0_8 (hb : Lay E 162 b) (hW : Wd E b K M) (v : Int32) : Wd E b (kSc K 3 v) (hput M (b 0) (.inr (8, List.set [.ref (b 6), .ref (b 19), .ref (b 32), .int (K.1 0), .ref (b 1), .ref (b 3), .int (K.1 1), .int (K.1 2), .int (K.1 3), .ref (b 150)] 8 (.int v)))) := hW.put hb (okl (by decide)) rfl (sc_same (low6 (Q := fun i => i ≠ 0 → kC0 E b (kSc K 3 v) i = kC0 E b K i) (fun h => absurd rfl h) (fun _ => rfl) (fun _ => rfl) (fun _ => rfl) (fun _ => rfl) (fun _ => rfl))) rfl
theorem Wd.w1_1 (hb : Lay E 162 b) (hW : Wd E b K M) (v : Int32) : Wd E b (kSc K 4 v) (hput M (b 1) (.inr (5, List.set [.ref (b 2), .int (K.1 4), .int (K.1 5)] 1 (.int v)))) := hW.put hb (okl (by decide)) rfl (sc_same (low6 (Q := fun i => i ≠ 1 → kC0 E b (kSc K 4 v) i = kC0 E b K i) (fun _ => rfl) (fun h => absurd rfl h) (fun _ => rfl) (fun _ => rfl) (fun _ => rfl) (fun _ => rfl))) rfl
theorem Wd.w1_2 (hb : Lay E 162 b) (hW : Wd E b K M) (v : Int32) : Wd E b (kSc K 5 v) (hput M (b 1) (.inr (5, List.set [.ref (b 2), .int (K.1 4), .int (K.1 5)] 2 (.int v)))) := hW.put hb (okl (by decide)) rfl (sc_same (low6 (Q := fun i => i ≠ 1 → kC0 E b (kSc K 5 v) i = kC0 E b K i) (fun _ => rfl) (fun h => absurd rfl h) (fun _ => rfl) (fun _ => rfl) (fun _ => rfl) (fun _ => rfl))) rfl
theorem Wd.w3_3 (hb : Lay E 162 b) (hW : Wd E b K M) (v : Int32) : Wd E b (kSc K 6 v) (hput M (b 3) (.inr (4, List.set [.ref (b 149), .ref (b 4), .ref (b 5), .int (K.1 6), .int (K.1 7)] 3 (.int v)))) := hW.put hb (okl (by decide)) rfl (sc_same (low6 (Q := fun i => i ≠ 3 → kC0 E b (kSc K 6 v) i = kC0 E b K i) (fun _ => rfl) (fun _ => rfl) (fun _ => rfl) (fun h => absurd rfl h) (fun _ => rfl) (fun _ => rfl))) rfl
theorem Wd.w3_4 (hb : Lay E 162 b) (hW : Wd E b K M) (v : Int32) : Wd E b (kSc K 7 v) (hput M (b 3) (.inr (4, List.set [.ref (b 149), .ref (b 4), .ref (b 5), .int (K.1 6), .int (K.1 7)] 4 (.int v)))) := hW.put hb (okl (by decide)) rfl (sc_same (low6 (Q := fun i => i ≠ 3 → kC0 E b (kSc K 7 v) i = kC0 E b K i) (fun _ => rfl) (fun _ => rfl) (fun _ => rfl) (fun h => absurd rfl h) (fun _ => rfl) (fun _ => rfl))) rfl
theorem Wd.w4 (hb : Lay E 162 b) (hW : Wd E b K M) (f : Nat → Int32) : Wd E b (kAr K 0 f) (hput M (b 4) (.inl (E.2.2.2.1 0, 60, .inl f))) := hW.put hb (okl (by decide)) rfl (ar_same (low6 (Q := fun i => i ≠ 4 → kC0 E b (kAr K 0 f) i = kC0 E b K i) (fun _ => rfl) (fun _ => rfl) (fun _ => rfl) (fun _ => rfl) (fun h => absurd rfl h) (fun _ => rfl))) rfl
theorem Wd.w5 (hb : Lay E 162 b) (hW : Wd E b K M) (f : Nat → Int32) : Wd E b (kAr K 1 f) (hput M (b 5) (.inl (E.2.2.2.1 0, 120, .inl f))) := hW.put hb (okl (by decide)) rfl (ar_same (low6 (Q := fun i => i ≠ 5 → kC0 E b (kAr K 1 f) i = kC0 E b K i) (fun _ => rfl) (fun _ => rfl) (fun _ => rfl) (fun _ => rfl) (fun _ => rfl) (fun h => absurd rfl h))) rfl
theorem Wd.wlo (hb : Lay E 162 b) (hW : Wd E b K M) (f : Nat → Int64) : Wd E b (kLo K f) (hput M (b 160) (.inl (E.2.2.2.1 3, 1, .inr (.inl f)))) := hW.put hb ⟨by decide, by decide, by decide⟩ rfl (fun j hj hne => by
  unfold kCell
  by_cases h6 : j < 6
  · rw [if_pos h6, if_pos h6]
    rfl
  · rw [if_neg h6, if_neg h6]
    by_cases h149 : j < 149
    · rw [if_pos h149, if_pos h149]
      rfl
    · rw [if_neg h149, if_neg h149]
      by_cases h160 : j < 160
      · rw [if_pos h160, if_pos h160]
        rfl
      · rw [if_neg h160, if_neg h160, if_neg hne, if_neg hne]
        rfl) rfl
theorem Wd.wdo (hb : Lay E 162 b) (hW : Wd E b K M) (f : Nat → UInt64) : Wd E b (kDo K f) (hput M (b 161) (.inl (E.2.2.2.1 4, 1, .inr (.inr (.inr (.inl f)))))) := hW.put hb ⟨by decide, by decide, by decide⟩ rfl (fun j hj hne => by
  unfold kCell
  by_cases h6 : j < 6
  · rw [if_pos h6, if_pos h6]
    rfl
  · rw [if_neg h6, if_neg h6]
    by_cases h149 : j < 149
    · rw [if_pos h149, if_pos h149]
      rfl
    · rw [if_neg h149, if_neg h149]
      by_cases h160 : j < 160
      · rw [if_pos h160, if_pos h160]
        rfl
      · have := hj.1
        rw [if_neg h160, if_neg h160, if_pos (by omega), if_pos (by omega)]
        rfl) rfl
theorem Wd.s0 (hW : Wd E b K M) {i : Nat} (hi : i < 11) : M (bS b i 0) = some (.inr (7, [.int ((K.2.1 i).1 0), .ref (bS b i 1), .ref (bS b i 2), .ref (bS b i 3), .int ((K.2.1 i).1 1), .ref (bS b i 4), .ref (bS b i 5), .ref (bS b i 6), .int ((K.2.1 i).1 2), .int ((K.2.1 i).1 3), .int ((K.2.1 i).1 4), .int ((K.2.1 i).1 5), .int ((K.2.1 i).1 6)])) := hW.s hi (by decide)
theorem Wd.s1 (hW : Wd E b K M) {i : Nat} (hi : i < 11) : M (bS b i 1) = some (.inl (E.2.2.2.1 0, 6, .inl ((K.2.1 i).2 1))) := hW.s hi (by decide)
theorem Wd.s2 (hW : Wd E b K M) {i : Nat} (hi : i < 11) : M (bS b i 2) = some (.inl (E.2.2.2.1 0, 6, .inl ((K.2.1 i).2 2))) := hW.s hi (by decide)
theorem Wd.s3 (hW : Wd E b K M) {i : Nat} (hi : i < 11) : M (bS b i 3) = some (.inl (E.2.2.2.1 2, 6, .inl ((K.2.1 i).2 3))) := hW.s hi (by decide)
theorem Wd.s4 (hW : Wd E b K M) {i : Nat} (hi : i < 11) : M (bS b i 4) = some (.inl (E.2.2.2.1 0, 8, .inl ((K.2.1 i).2 4))) := hW.s hi (by decide)
theorem Wd.s5 (hW : Wd E b K M) {i : Nat} (hi : i < 11) : M (bS b i 5) = some (.inl (E.2.2.2.1 0, 8, .inl ((K.2.1 i).2 5))) := hW.s hi (by decide)
theorem Wd.s6 (hW : Wd E b K M) {i : Nat} (hi : i < 11) : M (bS b i 6) = some (.inr (6, [.int ((K.2.1 i).1 7), .int ((K.2.1 i).1 8), .ref (bS b i 7), .ref (bS b i 8), .ref (bS b i 9), .ref (bS b i 10), .ref (bS b i 11), .ref (bS b i 12)])) := hW.s hi (by decide)
theorem Wd.s7 (hW : Wd E b K M) {i : Nat} (hi : i < 11) : M (bS b i 7) = some (.inl (E.2.2.2.1 0, 8, .inl ((K.2.1 i).2 7))) := hW.s hi (by decide)
theorem Wd.s8 (hW : Wd E b K M) {i : Nat} (hi : i < 11) : M (bS b i 8) = some (.inl (E.2.2.2.1 1, 8, .inl ((K.2.1 i).2 8))) := hW.s hi (by decide)
theorem Wd.s9 (hW : Wd E b K M) {i : Nat} (hi : i < 11) : M (bS b i 9) = some (.inl (E.2.2.2.1 0, 8, .inl ((K.2.1 i).2 9))) := hW.s hi (by decide)
theorem Wd.s10 (hW : Wd E b K M) {i : Nat} (hi : i < 11) : M (bS b i 10) = some (.inl (E.2.2.2.1 0, 8, .inl ((K.2.1 i).2 10))) := hW.s hi (by decide)
theorem Wd.s11 (hW : Wd E b K M) {i : Nat} (hi : i < 11) : M (bS b i 11) = some (.inl (E.2.2.2.1 0, 8, .inl ((K.2.1 i).2 11))) := hW.s hi (by decide)
theorem Wd.s12 (hW : Wd E b K M) {i : Nat} (hi : i < 11) : M (bS b i 12) = some (.inl (E.2.2.2.1 2, 8, .inl ((K.2.1 i).2 12))) := hW.s hi (by decide)
theorem Ct.rd {μ : Mth} {av : List Value} {r : Option Value} {mc ms : Nat} {M0 : Hp} (h : M0 = M) (hc : Ct E μ av M0 (eqR r M0) mc ms) : Ct E μ av M (eqR r M) mc ms := h ▸ hc
theorem Ct.wr {μ : Mth} {av : List Value} {P : Option Value → Hp → Prop} {mc ms : Nat} {M0 : Hp} (h : M0 = M) (hc : Ct E μ av M0 P mc ms) : Ct E μ av M P mc ms := h ▸ hc
end WD
/-- it doesn't return -/
def NoR : Option Value → Hp → Prop := fun _ _ => False
/-- it throws x, and nothing has changed -/
def PXe (x : String) (M : Hp) : String → Hp → Prop := fun y M1 => y = x ∧ M1 = M
section LX
variable {E : Ev} {X : Cx0} {μ : Mth} {Q : State → Prop} {pc q : Nat} {ls st : List Value} {M : Hp} {nc ns : Nat} {P : Option Value → Hp → Prop} {PX : String → Hp → Prop}
theorem gq_callVXe (hX : Cx E X μ) {idx a ci : Nat} {μ2 : Mth} {As rest fs : List Value} {mc ms nc1 ns1 : Nat} {x : String} (d : decode μ.2.1 pc = .ok (.invokevirtual idx, 3)) (hc : CallV μ.1.cls idx μ2) (hct : CtX E μ2 (.ref a :: As) M NoR (PXe x M) mc ms) (hst : st = As.reverse ++ .ref a :: rest) (hM : M a = some (.inr (ci, fs))) (hci : (vwCl[ci]?).map (·.1) = some μ2.1.cls) (hnp : As.length = μ2.2.2.2.2.1) (hw : (rest.map fun v => v.category).sum ≤ 8) (hd : μ2.2.2.2.2.2.1 < μ.2.2.2.2.2.1 ∧ μ2.2.2.1 ≤ 45) (hnc : mc + nc1 = nc) (hns : ms + ns1 = ns)
    (kx : Gx E X μ Q pc ls M nc1 ns1 x) : Gq E X μ Q pc ls st M nc ns := by
  refine gq_callVX hX d hc hct hst hM hci hnp hw hd hnc hns (fun v M1 h => h.elim) ?_
  rintro y M1 ⟨rfl, rfl⟩
  exact kx
end LX
