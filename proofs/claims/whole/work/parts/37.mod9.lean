def pAll (l : Ln) : Nat → Nat → Bool × Nat × List (Nat × List Nat)
  | 0, a => (false, a, [])
  | k + 1, a => if (cmdM l a).1 = true then (if nx l (cmdM l a).2.1 59 = true then ((pAll l k ((cmdM l a).2.1 + 1)).1, (pAll l k ((cmdM l a).2.1 + 1)).2.1, ((cmdM l a).2.2.1, (cmdM l a).2.2.2) :: (pAll l k ((cmdM l a).2.1 + 1)).2.2)
      else (decide ((cmdM l a).2.1 = l.2), (cmdM l a).2.1, [((cmdM l a).2.2.1, (cmdM l a).2.2.2)]))
    else (false, (cmdM l a).2.1, [])
theorem cmdM_form (l : Ln) (a : Nat) : ∃ i, i < 13 ∧ cmdM l a = fmC l i a := by
  unfold cmdM
  (repeat' split) <;> exact ⟨_, by decide, rfl⟩
theorem cmdM_ge (l : Ln) (a : Nat) : a ≤ (cmdM l a).2.1 := by
  obtain ⟨i, hi, e⟩ := cmdM_form l a
  rw [e]
  exact mG_ge _
theorem cmdM_le {l : Ln} {a : Nat} (h : a ≤ l.2) : (cmdM l a).2.1 ≤ l.2 := by
  obtain ⟨i, hi, e⟩ := cmdM_form l a
  rw [e]
  exact mG_le _ h
theorem cmdM_lt {l : Ln} {a : Nat} (h : (cmdM l a).1 = true) : a + 1 ≤ (cmdM l a).2.1 := by
  obtain ⟨i, hi, e⟩ := cmdM_form l a
  rw [e] at h ⊢
  rcases Bool.eq_false_or_eq_true (nx l a (frmN i 0)) with h1 | h1
  · have hq : frmN i 0 ≠ 57 ∧ frmN i 0 ≠ 35 ∧ 0 < frmL.getD i 0 := by
      have : ∀ i : Fin 13, frmN i.1 0 ≠ 57 ∧ frmN i.1 0 ≠ 35 ∧ 0 < frmL.getD i.1 0 := by decide +kernel
      exact this ⟨i, hi⟩
    obtain ⟨k, hk⟩ : ∃ k, frmL.getD i 0 = k + 1 := ⟨frmL.getD i 0 - 1, by have := hq.2.2; omega⟩
    have e2 : fmR l i a = mG l (frmN i) k 1 (a + 1) := by
      unfold fmR
      rw [hk]
      exact mG_y rfl hq.1 hq.2.1 h1
    show a + 1 ≤ (fmR l i a).2.1
    rw [e2]
    exact mG_ge _
  · have e2 : (fmR l i a).1 = true := h
    rw [fmR_n hi h1] at e2
    cases e2
/-- how many numbers a form has -/
def cntP (f : Nat → Nat) : Nat → Nat → Nat
  | 0, _ => 0
  | k + 1, p => (if f p = 57 then 1 else if f p = 35 then 1 else 0) + cntP f k (p + 1)
theorem mG_len {l : Ln} {f : Nat → Nat} : ∀ {k p a : Nat}, (mG l f k p a).1 = true → (mG l f k p a).2.2.length = cntP f k p
  | 0, _, _, _ => rfl
  | k + 1, p, a, h => by
    rw [mG] at h ⊢
    rw [cntP]
    by_cases h1 : f p = 57
    · rw [if_pos h1] at h ⊢
      rw [if_pos h1]
      by_cases h2 : dgm l a 1 = 0
      · rw [if_pos h2] at h
        cases h
      · rw [if_neg h2] at h ⊢
        show (mG l f k (p + 1) (a + dgm l a 1)).2.2.length + 1 = _
        rw [mG_len (show (mG l f k (p + 1) (a + dgm l a 1)).1 = true from h)]
        omega
    · rw [if_neg h1] at h ⊢
      rw [if_neg h1]
      by_cases h3 : f p = 35
      · rw [if_pos h3] at h ⊢
        rw [if_pos h3]
        by_cases h2 : dgm l a 3 = 0
        · rw [if_pos h2] at h
          cases h
        · rw [if_neg h2] at h ⊢
          show (mG l f k (p + 1) (a + dgm l a 3)).2.2.length + 1 = _
          rw [mG_len (show (mG l f k (p + 1) (a + dgm l a 3)).1 = true from h)]
          omega
      · rw [if_neg h3] at h ⊢
        rw [if_neg h3]
        by_cases h4 : nx l a (f p) = true
        · rw [if_pos h4] at h ⊢
          rw [mG_len h]
          omega
        · rw [if_neg h4] at h
          cases h
def arN (i : Nat) : Nat := if i = 2 ∨ i = 4 ∨ i = 5 ∨ i = 6 ∨ i = 7 then 2 else 1
theorem fm_len {l : Ln} {i a : Nat} (hi : i < 13) (h : (fmR l i a).1 = true) : (fmR l i a).2.2.length = arN i := by
  have e : ∀ i : Fin 13, cntP (frmN i.1) (frmL.getD i.1 0) 0 = arN i.1 := by decide +kernel
  exact (mG_len h).trans (e ⟨i, hi⟩)
theorem cm_len {l : Ln} {a : Nat} (h : (cmdM l a).1 = true) : (cmdM l a).2.2.1 < 13 ∧ (cmdM l a).2.2.2.length = arN (cmdM l a).2.2.1 := by
  obtain ⟨i, hi, e⟩ := cmdM_form l a
  rw [e] at h ⊢
  exact ⟨hi, fm_len hi h⟩
/-- a digit's value, a number's value -/
theorem pAll_y {l : Ln} {k a : Nat} (h : (cmdM l a).1 = true) (h2 : nx l (cmdM l a).2.1 59 = true) : pAll l (k + 1) a = ((pAll l k ((cmdM l a).2.1 + 1)).1, (pAll l k ((cmdM l a).2.1 + 1)).2.1, ((cmdM l a).2.2.1, (cmdM l a).2.2.2) :: (pAll l k ((cmdM l a).2.1 + 1)).2.2) := by rw [pAll, if_pos h, if_pos h2]
theorem pAll_e {l : Ln} {k a : Nat} (h : (cmdM l a).1 = true) (h2 : ¬ nx l (cmdM l a).2.1 59 = true) : pAll l (k + 1) a = (decide ((cmdM l a).2.1 = l.2), (cmdM l a).2.1, [((cmdM l a).2.2.1, (cmdM l a).2.2.2)]) := by rw [pAll, if_pos h, if_neg h2]
theorem pAll_n {l : Ln} {k a : Nat} (h : ¬ (cmdM l a).1 = true) : pAll l (k + 1) a = (false, (cmdM l a).2.1, []) := by rw [pAll, if_neg h]
theorem nx_lt {l : Ln} {a c : Nat} (h : nx l a c = true) : a < l.2 := (of_decide_eq_true h : a < l.2 ∧ l.1 a = c).1

set_option maxRecDepth 100000 in
set_option maxHeartbeats 4000000 in
theorem mp_all {E : Ev} {b : Nat → Nat} {T : St} {w : Nat → Int32} {N : Nat → Int32} {s : Int32} {M : Hp} (hb : Lay E 9 b) {l : Ln} (ht : TxP T l) {a : Nat} : Ct E mX5_readsAll [.ref (b 0)] (MdW E b (rdT T N a s) w M) (fun r M1 => r = some (.int (if (pAll l 60 0).1 = true then nI 1 else nI 0)) ∧ ∃ N1 s1, M1 = MdW E b (rdT T N1 (pAll l 60 0).2.1 s1) w M) 0 0 := by
  refine Ct.of gmX5_readsAll (ls := [.ref (b 0), hole]) rfl rfl (Nat.le_of_ble_eq_true rfl) ?_
  intro X hX Q hQ
  have hl60 := ht.2.1
  refine gq_aload_n hX dX5_readsAll_0 rfl rfl rfl ?_
  refine gq_iconst (v := nI 0) hX dX5_readsAll_1 rfl (by decide) ?_
  refine gq_putf hX dX5_readsAll_2 rfl fX5_235 rfl rfl rfl (mqR0 hb) (Nat.le_of_ble_eq_true rfl) (hb.2 0 (by decide)) (mqW0_13 hb) ?_
  rw [rdT_at]
  refine gq_iconst (v := nI 1) hX dX5_readsAll_5 rfl (by decide) ?_
  refine gq_istore_n hX dX5_readsAll_6 rfl rfl (Nat.le_of_ble_eq_true rfl) rfl ?_
  have lp : ∀ k a1 : Nat, a1 ≤ l.2 → l.2 < a1 + 2 * k → ∀ (N1 : Nat → Int32) (s1 : Int32), (pAll l 60 0).1 = (pAll l k a1).1 → (pAll l 60 0).2.1 = (pAll l k a1).2.1 → Gq E X mX5_readsAll Q 7 [.ref (b 0), .int (nI 1)] [] (MdW E b (rdT T N1 a1 s1) w M) 0 0 := by
    intro k
    induction k with
    | zero =>
      intro a1 h1 h2
      omega
    | succ k ih =>
      intro a1 h1 h2 N1 s1 e1 e2
      refine gq_iload_n hX dX5_readsAll_7 rfl rfl rfl ?_
      refine gq_if_eqF (tgt := 30) hX dX5_readsAll_8 rfl rfl (by decide) ?_
      refine gq_aload_n hX dX5_readsAll_11 rfl rfl rfl ?_
      refine gq_callV (mc := 0) (ms := 0) (nc1 := 0) (ns1 := 0) hX dX5_readsAll_12 vX5_281 (mp_cmd hb (T := T) (N := N1) (s := s1) (a := a1) ht (by omega) (by omega)) rfl (mqR0 hb) rfl rfl (Nat.le_of_ble_eq_true rfl) ⟨(Nat.le_of_ble_eq_true rfl), (Nat.le_of_ble_eq_true rfl)⟩ rfl rfl ?_
      rintro r M1 ⟨rfl, N2, s2, rfl, hs⟩
      by_cases hc : (cmdM l a1).1 = true
      · rw [show (cmR (cmdM l a1)).1 = true from hc, if_pos rfl]
        have hg := cmdM_lt hc
        have hle := cmdM_le (l := l) h1
        refine gq_if_neT (tgt := 20) hX dX5_readsAll_15 rfl (by decide) ?_
        refine gq_aload_n hX dX5_readsAll_20 rfl rfl rfl ?_
        refine gq_bipush (v := nI 59) hX dX5_readsAll_21 rfl (by decide) ?_
        rcases Bool.eq_false_or_eq_true (nx l (cmdM l a1).2.1 59) with h9 | h9
        · refine gq_callVe hX dX5_readsAll_23 rfl vX5_248 (mp_reads_y hb (T := T) (N := N2) (s := s2) (a := (cmdM l a1).2.1) ht (by omega) h9) rfl (mqR0 hb) rfl rfl (Nat.le_of_ble_eq_true rfl) ⟨(Nat.le_of_ble_eq_true rfl), (Nat.le_of_ble_eq_true rfl)⟩ (Nat.zero_add _) (Nat.zero_add _) ?_
          refine gq_istore_n hX dX5_readsAll_26 rfl rfl (Nat.le_of_ble_eq_true rfl) rfl ?_
          refine gq_goto (tgt := 7) hX dX5_readsAll_27 rfl ?_
          have hx := nx_lt h9
          exact ih _ (by omega) (by omega) N2 s2 (by rw [e1, pAll_y hc h9]) (by rw [e2, pAll_y hc h9])
        · refine gq_callVe hX dX5_readsAll_23 rfl vX5_248 (mp_reads_n hb (T := T) (N := N2) (s := s2) (a := (cmdM l a1).2.1) ht (by omega) (by decide) h9) rfl (mqR0 hb) rfl rfl (Nat.le_of_ble_eq_true rfl) ⟨(Nat.le_of_ble_eq_true rfl), (Nat.le_of_ble_eq_true rfl)⟩ (Nat.zero_add _) (Nat.zero_add _) ?_
          refine gq_istore_n hX dX5_readsAll_26 rfl rfl (Nat.le_of_ble_eq_true rfl) rfl ?_
          refine gq_goto (tgt := 7) hX dX5_readsAll_27 rfl ?_
          refine gq_iload_n hX dX5_readsAll_7 rfl rfl rfl ?_
          refine gq_if_eqT (tgt := 30) hX dX5_readsAll_8 rfl rfl ?_
          have e3 : pAll l (k + 1) a1 = _ := pAll_e hc (by rw [h9]; decide)
          rw [e3] at e1 e2
          refine gq_aload_n hX dX5_readsAll_30 rfl rfl rfl ?_
          refine gq_getf hX dX5_readsAll_31 rfl fX5_235 (mqR0 hb) rfl ?_
          refine gq_aload_n hX dX5_readsAll_34 rfl rfl rfl ?_
          refine gq_getf hX dX5_readsAll_35 rfl fX5_232 (mqR0 hb) rfl ?_
          rw [show (rdT T N2 (cmdM l a1).2.1 s2).1 6 = nI (cmdM l a1).2.1 from rfl, show (rdT T N2 (cmdM l a1).2.1 s2).1 5 = nI l.2 from ht.1]
          by_cases h8 : (cmdM l a1).2.1 = l.2
          · refine gq_icmp_neF (tgt := 45) hX dX5_readsAll_38 rfl rfl (by rw [h8]) ?_
            refine gq_iconst (v := nI 1) hX dX5_readsAll_41 rfl (by decide) ?_
            refine gq_goto (tgt := 46) hX dX5_readsAll_42 rfl ?_
            exact gq_zret hX hQ dX5_readsAll_46 rfl rfl ⟨by rw [e1, if_pos (decide_eq_true h8)], N2, s2, by rw [e2]⟩
          · refine gq_icmp_neT (tgt := 45) hX dX5_readsAll_38 rfl (fun e => h8 ((nI_eq (by omega) (by omega)).mp e)) ?_
            refine gq_iconst (v := nI 0) hX dX5_readsAll_45 rfl (by decide) ?_
            exact gq_zret hX hQ dX5_readsAll_46 rfl rfl ⟨by rw [e1, decide_eq_false h8]; rfl, N2, s2, by rw [e2]⟩
      · rw [show (cmR (cmdM l a1)).1 = false from Bool.eq_false_iff.mpr hc, if_neg (by decide)]
        rw [pAll_n hc] at e1 e2
        refine gq_if_neF (tgt := 20) hX dX5_readsAll_15 rfl rfl rfl ?_
        refine gq_iconst (v := nI 0) hX dX5_readsAll_18 rfl (by decide) ?_
        exact gq_zret hX hQ dX5_readsAll_19 rfl rfl ⟨by rw [e1]; rfl, N2, s2, by rw [e2]; rfl⟩
  exact lp 60 0 (Nat.zero_le _) (by omega) N s rfl rfl

