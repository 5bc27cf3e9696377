/-- what closing does, in a row -/
def shF (w : Nat → Int32) (s j : Nat) : Nat → Int32 := fun i => if s ≤ i ∧ i < j then w (i + 6) else w i
def zeF (w : Nat → Int32) (l j : Nat) : Nat → Int32 := fun i => if l ≤ i ∧ i < l + j then nI 0 else w i
theorem shF_0 {w : Nat → Int32} {s : Nat} : shF w s s = w := funext fun i => if_neg (by omega)
theorem shF_r {w : Nat → Int32} {s j : Nat} : shF w s j (j + 6) = w (j + 6) := if_neg (by omega)
theorem shF_s {w : Nat → Int32} {s j : Nat} (h : s ≤ j) : upd (shF w s j) j (w (j + 6)) = shF w s (j + 1) := by
  funext i
  by_cases e : i = j
  · subst e
    rw [upd_s]
    exact (if_pos ⟨h, by omega⟩).symm
  · rw [upd_n _ e]
    unfold shF
    by_cases h2 : s ≤ i ∧ i < j
    · rw [if_pos h2, if_pos (by omega)]
    · rw [if_neg h2, if_neg (by omega)]
theorem zeF_0 {w : Nat → Int32} {l : Nat} : zeF w l 0 = w := funext fun i => if_neg (by omega)
theorem zeF_s {w : Nat → Int32} {l j : Nat} : upd (zeF w l j) (l + j) (nI 0) = zeF w l (j + 1) := by
  funext i
  by_cases e : i = l + j
  · subst e
    rw [upd_s]
    exact (if_pos ⟨by omega, by omega⟩).symm
  · rw [upd_n _ e]
    unfold zeF
    by_cases h2 : l ≤ i ∧ i < l + j
    · rw [if_pos h2, if_pos (by omega)]
    · rw [if_neg h2, if_neg (by omega)]
theorem cpS_at (T T2 : St) (x y a : Nat) : (cpS T T2 x y).2 a = if 7 ≤ a ∧ a ≤ 12 then upd (T.2 a) y (T2.2 a x) else T.2 a := by
  by_cases h : 7 ≤ a ∧ a ≤ 12
  · rw [if_pos h]
    obtain rfl | rfl | rfl | rfl | rfl | rfl : a = 7 ∨ a = 8 ∨ a = 9 ∨ a = 10 ∨ a = 11 ∨ a = 12 := by omega
    all_goals rfl
  · rw [if_neg h]
    show (if a = 12 then _ else if a = 11 then _ else if a = 10 then _ else if a = 9 then _ else if a = 8 then _ else if a = 7 then _ else T.2 a) = T.2 a
    rw [if_neg (by omega), if_neg (by omega), if_neg (by omega), if_neg (by omega), if_neg (by omega), if_neg (by omega)]
theorem clo_it (S : St) (k a j : Nat) : ∀ n, (it (fun i T => cpS T T (k + i + 1) (k + i)) S n).2 a j = if (7 ≤ a ∧ a ≤ 12) ∧ k ≤ j ∧ j < k + n then S.2 a (j + 1) else S.2 a j
  | 0 => by rw [if_neg (by omega)]; rfl
  | n + 1 => by
    rw [it, cpS_at]
    by_cases h : 7 ≤ a ∧ a ≤ 12
    · rw [if_pos h]
      by_cases e : j = k + n
      · subst e
        rw [upd_s, if_pos ⟨h, by omega, by omega⟩, clo_it, if_neg (by omega)]
      · rw [upd_n _ e, clo_it]
        by_cases h2 : k ≤ j ∧ j < k + n
        · rw [if_pos ⟨h, h2⟩, if_pos ⟨h, by omega, by omega⟩]
        · rw [if_neg (fun z => h2 z.2), if_neg (fun z => h2 (by omega))]
    · rw [if_neg h, clo_it, if_neg (fun z => h z.1), if_neg (fun z => h z.1)]
theorem clo_at (S : St) (no k a j : Nat) : (cloS S no k).2 a j = if (7 ≤ a ∧ a ≤ 12) ∧ k ≤ j ∧ j < k + (no - 1 - k) then S.2 a (j + 1) else S.2 a j := clo_it (setS S 7 (S.1 7 - nI 1)) k a j (no - 1 - k)
theorem clo_sc (S : St) (no k : Nat) : (cloS S no k).1 = (setS S 7 (S.1 7 - nI 1)).1 := it_inv (I := fun T : St => T.1 = (setS S 7 (S.1 7 - nI 1)).1) rfl (fun _ _ _ h => h)
theorem clo_arr (S S' : St) (no k : Nat) (h : S.2 = S'.2) : (cloS S no k).2 = (cloS S' no k).2 := by
  funext a j
  rw [clo_at, clo_at, h]
theorem clo_set (S : St) (no k m : Nat) (v : Int32) (h : m ≠ 7) : cloS (setS S m v) no k = setS (cloS S no k) m v := by
  refine Prod.ext ?_ (clo_arr _ _ _ _ rfl)
  rw [clo_sc]
  funext i
  show (if i = 7 then (if 7 = m then v else S.1 7) - nI 1 else if i = m then v else S.1 i) = if i = m then v else (cloS S no k).1 i
  rw [clo_sc, if_neg (show ¬ 7 = m from fun e => h e.symm)]
  by_cases e : i = 7
  · subst e
    rw [if_pos rfl, if_neg (fun e => h e.symm)]
    rfl
  · rw [if_neg e]
    split
    · rfl
    · exact (if_neg e).symm
theorem clo_wf {S : St} {nc nt no k : Nat} (h : Wf S nc nt no) (hk : k < no) : Wf (cloS S no k) nc nt (no - 1) := by
  obtain ⟨h0, h1, h2, h3, h4, h5⟩ := h
  unfold Wf
  rw [clo_sc]
  refine ⟨h0, h1, h2, h3, ?_, by omega⟩
  show S.1 7 - nI 1 = _
  rw [h4]
  exact pk_sub (by omega)
theorem w_clo {S : St} {nc nt no k : Nat} (hwf : Wf S nc nt no) (hk : k < no) : zeF (shF (upd (wOf S nc nt no) 2 (nI (no - 1))) (43 + 6 * k) (43 + 6 * (no - 1))) (43 + 6 * (no - 1)) 6 = wOf (cloS S no k) nc nt (no - 1) := by
  obtain ⟨h0, h1, h2, h3, h4, h5⟩ := hwf
  have hz : ∀ i, i < 43 ∨ 91 ≤ i → zeF (shF (upd (wOf S nc nt no) 2 (nI (no - 1))) (43 + 6 * k) (43 + 6 * (no - 1))) (43 + 6 * (no - 1)) 6 i = upd (wOf S nc nt no) 2 (nI (no - 1)) i := by
    intro i hi
    unfold zeF shF
    rw [if_neg (by omega), if_neg (by omega)]
  refine w_ext (fun j hj => ?_) (fun c x g1 g2 => ?_) (fun t x g1 g2 => ?_) (fun m x g1 g2 => ?_) (fun j hj => ?_)
  · rw [hz j (by omega), w_s hj]
    by_cases e : j = 2
    · subst e
      rw [upd_s]
      show _ = (cloS S no k).1 7
      rw [clo_sc]
      show _ = S.1 7 - nI 1
      rw [h4]
      exact (pk_sub (by omega)).symm
    · rw [upd_n _ e, w_s hj]
      revert e
      have hc := clo_sc S no k
      exact sc_all (P := fun j => j ≠ 2 → scO S j = scO (cloS S no k) j) (fun _ => (congrFun hc 0).symm) (fun _ => (congrFun hc 1).symm) (fun h => absurd rfl h) (fun _ => (congrFun hc 8).symm) (fun _ => (congrFun hc 2).symm) (fun _ => (congrFun hc 3).symm) (fun _ => (congrFun hc 4).symm) (fun _ => (congrFun hc 5).symm) (fun _ => (congrFun hc 6).symm) j hj
  · rw [hz _ (by omega), upd_n _ (by omega), w_c g1 g2, w_c g1 g2]
    have e1 : coO S x c = coO (cloS S no k) x c := by
      unfold coO
      split <;> (rw [clo_at, if_neg (by omega)])
    rw [e1]
  · rw [hz _ (by omega), upd_n _ (by omega), w_t g1 g2, w_t g1 g2]
    have e1 : taO S x t = taO (cloS S no k) x t := by
      unfold taO
      split <;> (rw [clo_at, if_neg (by omega)])
    rw [e1]
  · rw [w_m g1 g2]
    by_cases hl : m < no - 1
    · rw [if_pos hl]
      have e0 : zeF (shF (upd (wOf S nc nt no) 2 (nI (no - 1))) (43 + 6 * k) (43 + 6 * (no - 1))) (43 + 6 * (no - 1)) 6 (43 + 6 * m + x) = shF (upd (wOf S nc nt no) 2 (nI (no - 1))) (43 + 6 * k) (43 + 6 * (no - 1)) (43 + 6 * m + x) := if_neg (by omega)
      rw [e0]
      unfold shF
      by_cases h9 : k ≤ m
      · rw [if_pos (by omega), upd_n _ (by omega), show 43 + 6 * m + x + 6 = 43 + 6 * (m + 1) + x by omega, wR_m h5 (by omega) g2]
        unfold moO
        split <;> (rw [clo_at, if_pos (by omega)])
      · rw [if_neg (by omega), upd_n _ (by omega), wR_m h5 (by omega) g2]
        unfold moO
        split <;> (rw [clo_at, if_neg (by omega)])
    · rw [if_neg hl]
      by_cases e : m = no - 1
      · exact if_pos (by omega)
      · have e0 : zeF (shF (upd (wOf S nc nt no) 2 (nI (no - 1))) (43 + 6 * k) (43 + 6 * (no - 1))) (43 + 6 * (no - 1)) 6 (43 + 6 * m + x) = upd (wOf S nc nt no) 2 (nI (no - 1)) (43 + 6 * m + x) := (if_neg (by omega)).trans (if_neg (by omega))
        rw [e0, upd_n _ (by omega), w_m g1 g2, if_neg (by omega)]
  · rw [hz _ (by omega), upd_n _ (by omega), w_h hj, w_h hj]
theorem kd114 : kdO (nI 114) = nI 0 := by decide
theorem kd116 : kdO (nI 116) = nI 1 := by decide
theorem kd103 : kdO (nI 103) = nI 2 := by decide

set_option maxRecDepth 100000 in
set_option maxHeartbeats 4000000 in
theorem mt_closes {E : Ev} {b : Nat → Nat} {T : St} {M : Hp} (hb : Lay E 9 b) {S : St} {nc nt no : Nat} (hwf : Wf S nc nt no) {k : Nat} (hk : k < no) : Ct E mX5_closes [.ref (b 0), .int (nI k)] (MdW E b T (wOf S nc nt no) M) (eqR (none) (MdW E b T (wOf (cloS S no k) nc nt (no - 1)) M)) 0 0 := by
  refine Ct.of gmX5_closes (ls := [.ref (b 0), .int (nI k), hole, hole]) rfl rfl (Nat.le_of_ble_eq_true rfl) ?_
  intro X hX Q hQ
  have hwf2 := hwf
  obtain ⟨hnc, hncl, hnt, hntl, hno, hnol⟩ := hwf2
  have hw0 : wOf S nc nt no 0 = nI nc := hnc
  have hw1 : wOf S nc nt no 1 = nI nt := hnt
  have hw2 : wOf S nc nt no 2 = nI no := hno
  refine gq_aload_n hX dX5_closes_0 rfl rfl rfl ?_
  refine gq_getf hX dX5_closes_1 rfl fX5_7 (mqR0 hb) rfl ?_
  refine gq_iconst (v := nI 2) hX dX5_closes_4 rfl (by decide) ?_
  refine gq_dup2 hX dX5_closes_5 rfl rfl rfl ?_
  refine gq_ialdN hX dX5_closes_6 rfl (mqR1 hb) rfl (by omega) (Nat.le_of_ble_eq_true rfl) ?_
  rw [hw2]
  refine gq_iconst (v := nI 1) hX dX5_closes_7 rfl (by decide) ?_
  refine gq_isub hX dX5_closes_8 rfl ?_
  rw [pk_sub (by omega)]
  refine gq_iastN hX dX5_closes_9 rfl (mqR1 hb) rfl (by omega) (Nat.le_of_ble_eq_true rfl) (hb.2 1 (by decide)) (mqW1 hb) ?_
  refine gq_bipush (v := nI 43) hX dX5_closes_10 rfl (by decide) ?_
  refine gq_bipush (v := nI 6) hX dX5_closes_12 rfl (by decide) ?_
  refine gq_aload_n hX dX5_closes_14 rfl rfl rfl ?_
  refine gq_getf hX dX5_closes_15 rfl fX5_7 (mqR0 hb) rfl ?_
  refine gq_iconst (v := nI 2) hX dX5_closes_18 rfl (by decide) ?_
  refine gq_ialdN hX dX5_closes_19 rfl (mqR1 hb) rfl (by omega) (Nat.le_of_ble_eq_true rfl) ?_
  rw [upd_s]
  refine gq_imul hX dX5_closes_20 rfl ?_
  rw [nI_m]
  refine gq_iadd hX dX5_closes_21 rfl ?_
  rw [nI_add]
  refine gq_istore_n hX dX5_closes_22 rfl rfl (Nat.le_of_ble_eq_true rfl) rfl ?_
  refine gq_bipush (v := nI 43) hX dX5_closes_23 rfl (by decide) ?_
  refine gq_bipush (v := nI 6) hX dX5_closes_25 rfl (by decide) ?_
  refine gq_iload_n hX dX5_closes_27 rfl rfl rfl ?_
  refine gq_imul hX dX5_closes_28 rfl ?_
  rw [nI_m]
  refine gq_iadd hX dX5_closes_29 rfl ?_
  rw [nI_add]
  refine gq_istore_n hX dX5_closes_30 rfl rfl (Nat.le_of_ble_eq_true rfl) rfl ?_
  have hcl : wOf S nc nt no 2 = nI no := hw2
  have loop : ∀ n j : Nat, j + n = (43 + 6 * (no - 1)) →  43 + 6 * k ≤ j → Gq E X mX5_closes Q 31 [.ref (b 0), .int (nI k), .int (nI (43 + 6 * (no - 1))), .int (nI j)] [] (MdW E b T (shF (upd (wOf S nc nt no) 2 (nI (no - 1))) (43 + 6 * k) j) M) 0 0 := by
    intro n
    induction n with
    | zero =>
      intro j hj  hs
      refine gq_iload_n hX dX5_closes_31 rfl rfl rfl ?_
      refine gq_iload_n hX dX5_closes_32 rfl rfl rfl ?_
      refine gq_icmp_geT (tgt := 57) hX dX5_closes_33 rfl (cT rfl (by omega) (by omega)) ?_
      have ej : (43 + 6 * (no - 1)) = j := by omega
      subst ej
      refine gq_iconst (v := nI 0) hX dX5_closes_57 rfl (by decide) ?_
      refine gq_istore_n hX dX5_closes_58 rfl rfl (Nat.le_of_ble_eq_true rfl) rfl ?_
      have loop2 : ∀ n2 i : Nat, i + n2 = 6 → Gq E X mX5_closes Q 59 [.ref (b 0), .int (nI k), .int (nI (43 + 6 * (no - 1))), .int (nI i)] [] (MdW E b T (zeF (shF (upd (wOf S nc nt no) 2 (nI (no - 1))) (43 + 6 * k) (43 + 6 * (no - 1))) (43 + 6 * (no - 1)) i) M) 0 0 := by
        intro n2
        induction n2 with
        | zero =>
          intro i hi
          refine gq_iload_n hX dX5_closes_59 rfl rfl rfl ?_
          refine gq_bipush (v := nI 6) hX dX5_closes_60 rfl (by decide) ?_
          refine gq_icmp_geT (tgt := 80) hX dX5_closes_62 rfl (cT (rfl : nI 6 = nI 6) (by omega) (by omega)) ?_
          have ej : 6 = i := by omega
          subst ej
          exact gq_vret hX hQ dX5_closes_80 rfl ⟨rfl, congrArg (fun z => MdW E b T z M) (w_clo hwf hk)⟩
        | succ n2 ih2 =>
          intro i hi
          refine gq_iload_n hX dX5_closes_59 rfl rfl rfl ?_
          refine gq_bipush (v := nI 6) hX dX5_closes_60 rfl (by decide) ?_
          refine gq_icmp_geF (tgt := 80) hX dX5_closes_62 rfl rfl (cF (rfl : nI 6 = nI 6) (by omega) (by omega)) ?_
          refine gq_aload_n hX dX5_closes_65 rfl rfl rfl ?_
          refine gq_getf hX dX5_closes_66 rfl fX5_7 (mqR0 hb) rfl ?_
          refine gq_iload_n hX dX5_closes_69 rfl rfl rfl ?_
          refine gq_iload_n hX dX5_closes_70 rfl rfl rfl ?_
          refine gq_iadd hX dX5_closes_71 rfl ?_
          rw [nI_add]
          refine gq_iconst (v := nI 0) hX dX5_closes_72 rfl (by decide) ?_
          refine gq_iastN hX dX5_closes_73 rfl (mqR1 hb) rfl (by omega) (Nat.le_of_ble_eq_true rfl) (hb.2 1 (by decide)) (mqW1 hb) ?_
          rw [zeF_s]
          refine gq_iinc hX dX5_closes_74 rfl rfl (inc1 _) (Nat.le_of_ble_eq_true rfl) rfl ?_
          refine gq_goto (tgt := 59) hX dX5_closes_77 rfl ?_
          exact ih2 (i + 1) (by omega)
      refine gq_ls rfl rfl ?_ (loop2 6 0 (by omega))
      rw [zeF_0]
    | succ n ih =>
      intro j hj  hs
      refine gq_iload_n hX dX5_closes_31 rfl rfl rfl ?_
      refine gq_iload_n hX dX5_closes_32 rfl rfl rfl ?_
      refine gq_icmp_geF (tgt := 57) hX dX5_closes_33 rfl rfl (cF rfl (by omega) (by omega)) ?_
      refine gq_aload_n hX dX5_closes_36 rfl rfl rfl ?_
      refine gq_getf hX dX5_closes_37 rfl fX5_7 (mqR0 hb) rfl ?_
      refine gq_iload_n hX dX5_closes_40 rfl rfl rfl ?_
      refine gq_aload_n hX dX5_closes_41 rfl rfl rfl ?_
      refine gq_getf hX dX5_closes_42 rfl fX5_7 (mqR0 hb) rfl ?_
      refine gq_iload_n hX dX5_closes_45 rfl rfl rfl ?_
      refine gq_bipush (v := nI 6) hX dX5_closes_46 rfl (by decide) ?_
      refine gq_iadd hX dX5_closes_48 rfl ?_
      rw [nI_add]
      refine gq_ialdN hX dX5_closes_49 rfl (mqR1 hb) rfl (by omega) (Nat.le_of_ble_eq_true rfl) ?_
      rw [shF_r]
      refine gq_iastN hX dX5_closes_50 rfl (mqR1 hb) rfl (by omega) (Nat.le_of_ble_eq_true rfl) (hb.2 1 (by decide)) (mqW1 hb) ?_
      rw [shF_s hs]
      refine gq_iinc hX dX5_closes_51 rfl rfl (inc1 _) (Nat.le_of_ble_eq_true rfl) rfl ?_
      refine gq_goto (tgt := 31) hX dX5_closes_54 rfl ?_
      exact ih (j + 1) (by omega) (by omega)
  refine gq_ls rfl rfl ?_ (loop (6 * (no - 1 - k)) (43 + 6 * k) (by omega) (Nat.le_refl _))
  rw [shF_0]

set_option maxRecDepth 100000 in
set_option maxHeartbeats 4000000 in
theorem mt_withdraws {E : Ev} {b : Nat → Nat} {T : St} {M : Hp} (hb : Lay E 9 b) {S : St} {nc nt no : Nat} (hwf : Wf S nc nt no) {id : Int32} {k : Nat} (ho : slotO S no id = some k) : Ct E mX5_withdraws [.ref (b 0), .int id] (MdW E b T (wOf S nc nt no) M) (eqR (some (.int ((cloS S no k).1 7))) (MdW E b T (wOf (cloS S no k) nc nt (no - 1)) M)) 0 0 := by
  refine Ct.of gmX5_withdraws (ls := [.ref (b 0), .int id]) rfl rfl (Nat.le_of_ble_eq_true rfl) ?_
  intro X hX Q hQ
  have hwf2 := hwf
  obtain ⟨hnc, hncl, hnt, hntl, hno, hnol⟩ := hwf2
  have hw0 : wOf S nc nt no 0 = nI nc := hnc
  have hw1 : wOf S nc nt no 1 = nI nt := hnt
  have hw2 : wOf S nc nt no 2 = nI no := hno
  have hct := mt_slotOf (M := M) (T := T) hb hwf id
  rw [ho] at hct
  obtain ⟨hk, hid⟩ := slotO_lt ho
  refine gq_aload_n hX dX5_withdraws_0 rfl rfl rfl ?_
  refine gq_aload_n hX dX5_withdraws_1 rfl rfl rfl ?_
  refine gq_iload_n hX dX5_withdraws_2 rfl rfl rfl ?_
  refine gq_callVe hX dX5_withdraws_3 rfl vX5_133 (hct) rfl (mqR0 hb) rfl rfl (Nat.le_of_ble_eq_true rfl) ⟨(Nat.le_of_ble_eq_true rfl), (Nat.le_of_ble_eq_true rfl)⟩ (Nat.zero_add _) (Nat.zero_add _) ?_
  refine gq_callVe hX dX5_withdraws_6 rfl vX5_152 (mt_closes hb hwf hk) rfl (mqR0 hb) rfl rfl (Nat.le_of_ble_eq_true rfl) ⟨(Nat.le_of_ble_eq_true rfl), (Nat.le_of_ble_eq_true rfl)⟩ (Nat.zero_add _) (Nat.zero_add _) ?_
  refine gq_aload_n hX dX5_withdraws_9 rfl rfl rfl ?_
  refine gq_getf hX dX5_withdraws_10 rfl fX5_7 (mqR0 hb) rfl ?_
  refine gq_iconst (v := nI 2) hX dX5_withdraws_13 rfl (by decide) ?_
  refine gq_ialdN hX dX5_withdraws_14 rfl (mqR1 hb) rfl (by omega) (Nat.le_of_ble_eq_true rfl) ?_
  exact gq_iret hX hQ dX5_withdraws_15 rfl ⟨rfl, rfl⟩

set_option maxRecDepth 100000 in
set_option maxHeartbeats 4000000 in
theorem mt_voteOf {E : Ev} {b : Nat → Nat} {T : St} {M : Hp} (hb : Lay E 9 b) {S : St} {nc nt no : Nat} (hwf : Wf S nc nt no) (hn : Nar S) {k a : Nat} (hk : k < no) (hmv : S.2 9 k = nI a) (ha : a < nc) {j : Nat} (hj : j < nc) : Ct E mX5_voteOf [.ref (b 0), .int (nI j), .int (nI k)] (MdW E b T (wOf S nc nt no) M) (eqR (some (.int (voiF S k a j))) (MdW E b T (wOf S nc nt no) M)) 0 0 := by
  refine Ct.of gmX5_voteOf (ls := [.ref (b 0), .int (nI j), .int (nI k), hole]) rfl rfl (Nat.le_of_ble_eq_true rfl) ?_
  intro X hX Q hQ
  have hwf2 := hwf
  obtain ⟨hnc, hncl, hnt, hntl, hno, hnol⟩ := hwf2
  have hw0 : wOf S nc nt no 0 = nI nc := hnc
  have hw1 : wOf S nc nt no 1 = nI nt := hnt
  have hw2 : wOf S nc nt no 2 = nI no := hno
  refine gq_aload_n hX dX5_voteOf_0 rfl rfl rfl ?_
  refine gq_iload_n hX dX5_voteOf_1 rfl rfl rfl ?_
  refine gq_iconst (v := nI 2) hX dX5_voteOf_2 rfl (by decide) ?_
  refine gq_callVe hX dX5_voteOf_3 rfl vX5_61 (mt_motion hb (c := k) (x := 2) (by omega) (by decide)) rfl (mqR0 hb) rfl rfl (Nat.le_of_ble_eq_true rfl) ⟨(Nat.le_of_ble_eq_true rfl), (Nat.le_of_ble_eq_true rfl)⟩ (Nat.zero_add _) (Nat.zero_add _) ?_
  rw [wM2 hnol hk, hmv]
  refine gq_istore_n hX dX5_voteOf_6 rfl rfl (Nat.le_of_ble_eq_true rfl) rfl ?_
  refine gq_iload_n hX dX5_voteOf_7 rfl rfl rfl ?_
  refine gq_iload_n hX dX5_voteOf_8 rfl rfl rfl ?_
  refine gq_icmp_eq (tgt := 24) hX dX5_voteOf_9 rfl rfl (fun c9 => ?_) (fun c9 => ?_)
  · refine gq_iconst (v := nI 1) hX dX5_voteOf_24 rfl (by decide) ?_
    exact gq_iret hX hQ dX5_voteOf_25 rfl ⟨congrArg (fun z => some (Value.int z)) (by clear hQ hX; first | (simp [voiF, *]; done) | (simp_all [voiF]; done)), rfl⟩
  · refine gq_iload_n hX dX5_voteOf_12 rfl rfl rfl ?_
    refine gq_iconst (v := nI 1) hX dX5_voteOf_13 rfl (by decide) ?_
    refine gq_iadd hX dX5_voteOf_14 rfl ?_
    refine gq_aload_n hX dX5_voteOf_15 rfl rfl rfl ?_
    refine gq_iload_n hX dX5_voteOf_16 rfl rfl rfl ?_
    refine gq_iconst (v := nI 4) hX dX5_voteOf_17 rfl (by decide) ?_
    refine gq_callVe hX dX5_voteOf_18 rfl vX5_61 (mt_motion hb (c := k) (x := 4) (by omega) (by decide)) rfl (mqR0 hb) rfl rfl (Nat.le_of_ble_eq_true rfl) ⟨(Nat.le_of_ble_eq_true rfl), (Nat.le_of_ble_eq_true rfl)⟩ (Nat.zero_add _) (Nat.zero_add _) ?_
    rw [wM4 hnol hk]
    refine gq_icmp_ne (tgt := 26) hX dX5_voteOf_21 rfl rfl (fun c21z => ?_) (fun c21z => ?_)
    · have c21 : ¬ nI j = S.2 11 k := fun e => c21z (add1_inj.mpr e)
      refine gq_aload_n hX dX5_voteOf_26 rfl rfl rfl ?_
      refine gq_iload_n hX dX5_voteOf_27 rfl rfl rfl ?_
      refine gq_callVe hX dX5_voteOf_28 rfl vX5_104 (mt_flies hb hwf hn hj) rfl (mqR0 hb) rfl rfl (Nat.le_of_ble_eq_true rfl) ⟨(Nat.le_of_ble_eq_true rfl), (Nat.le_of_ble_eq_true rfl)⟩ (Nat.zero_add _) (Nat.zero_add _) ?_
      refine gq_if_ne (tgt := 36) hX dX5_voteOf_31 rfl rfl (fun c31 => ?_) (fun c31 => ?_)
      · refine gq_aload_n hX dX5_voteOf_36 rfl rfl rfl ?_
        refine gq_iload_n hX dX5_voteOf_37 rfl rfl rfl ?_
        refine gq_iconst (v := nI 1) hX dX5_voteOf_38 rfl (by decide) ?_
        refine gq_callVe hX dX5_voteOf_39 rfl vX5_65 (mt_of hb (c := j) (x := 1) (by omega) (by decide)) rfl (mqR0 hb) rfl rfl (Nat.le_of_ble_eq_true rfl) ⟨(Nat.le_of_ble_eq_true rfl), (Nat.le_of_ble_eq_true rfl)⟩ (Nat.zero_add _) (Nat.zero_add _) ?_
        rw [wC1 hncl hj]
        refine gq_aload_n hX dX5_voteOf_42 rfl rfl rfl ?_
        refine gq_iload_n hX dX5_voteOf_43 rfl rfl rfl ?_
        refine gq_iconst (v := nI 1) hX dX5_voteOf_44 rfl (by decide) ?_
        refine gq_callVe hX dX5_voteOf_45 rfl vX5_65 (mt_of hb (c := a) (x := 1) (by omega) (by decide)) rfl (mqR0 hb) rfl rfl (Nat.le_of_ble_eq_true rfl) ⟨(Nat.le_of_ble_eq_true rfl), (Nat.le_of_ble_eq_true rfl)⟩ (Nat.zero_add _) (Nat.zero_add _) ?_
        rw [wC1 hncl ha]
        refine gq_icmp_gt (tgt := 55) hX dX5_voteOf_48 rfl rfl (fun c48 => ?_) (fun c48 => ?_)
        · refine gq_iconst (v := -1) hX dX5_voteOf_55 rfl (by decide) ?_
          exact gq_iret hX hQ dX5_voteOf_56 rfl ⟨congrArg (fun z => some (Value.int z)) (by clear hQ hX; first | (simp [voiF, *]; done) | (simp_all [voiF]; done)), rfl⟩
        · refine gq_iconst (v := nI 1) hX dX5_voteOf_51 rfl (by decide) ?_
          refine gq_goto (tgt := 56) hX dX5_voteOf_52 rfl ?_
          exact gq_iret hX hQ dX5_voteOf_56 rfl ⟨congrArg (fun z => some (Value.int z)) (by clear hQ hX; first | (simp [voiF, *]; done) | (simp_all [voiF]; done)), rfl⟩
      · refine gq_iconst (v := nI 0) hX dX5_voteOf_34 rfl (by decide) ?_
        exact gq_iret hX hQ dX5_voteOf_35 rfl ⟨congrArg (fun z => some (Value.int z)) (by clear hQ hX; first | (simp [voiF, *]; done) | (simp_all [voiF]; done)), rfl⟩
    · have c21 : nI j = S.2 11 k := add1_inj.mp c21z
      refine gq_iconst (v := nI 1) hX dX5_voteOf_24 rfl (by decide) ?_
      exact gq_iret hX hQ dX5_voteOf_25 rfl ⟨congrArg (fun z => some (Value.int z)) (by clear hQ hX; first | (simp [voiF, *]; done) | (simp_all [voiF]; done)), rfl⟩

set_option maxRecDepth 100000 in
set_option maxHeartbeats 4000000 in
theorem mt_votes {E : Ev} {b : Nat → Nat} {T : St} {M : Hp} (hb : Lay E 9 b) {S : St} {nc nt no : Nat} (hwf : Wf S nc nt no) (hn : Nar S) {k a : Nat} (hk : k < no) (hmv : S.2 9 k = nI a) (ha : a < nc) (v : Int32) : Ct E mX5_votes [.ref (b 0), .int (nI k), .int v] (MdW E b T (wOf S nc nt no) M) (eqR (some (.int (sumV S nc k a v))) (MdW E b T (wOf S nc nt no) M)) 0 0 := by
  refine Ct.of gmX5_votes (ls := [.ref (b 0), .int (nI k), .int v, hole, hole]) rfl rfl (Nat.le_of_ble_eq_true rfl) ?_
  intro X hX Q hQ
  have hwf2 := hwf
  obtain ⟨hnc, hncl, hnt, hntl, hno, hnol⟩ := hwf2
  have hw0 : wOf S nc nt no 0 = nI nc := hnc
  have hw1 : wOf S nc nt no 1 = nI nt := hnt
  have hw2 : wOf S nc nt no 2 = nI no := hno
  refine gq_iconst (v := nI 0) hX dX5_votes_0 rfl (by decide) ?_
  refine gq_istore_n hX dX5_votes_1 rfl rfl (Nat.le_of_ble_eq_true rfl) rfl ?_
  refine gq_iconst (v := nI 0) hX dX5_votes_2 rfl (by decide) ?_
  refine gq_istore hX dX5_votes_3 rfl (Nat.le_of_ble_eq_true rfl) rfl ?_
  have loop : ∀ n j : Nat, j + n = nc → Gq E X mX5_votes Q 5 [.ref (b 0), .int (nI k), .int v, .int (it (fun j s => if voiF S k a j = v then s + S.2 1 j else s) (nI 0) j), .int (nI j)] [] (MdW E b T (wOf S nc nt no) M) 0 0 := by
    intro n
    induction n with
    | zero =>
      intro j hj
      refine gq_iload hX dX5_votes_5 rfl rfl ?_
      refine gq_aload_n hX dX5_votes_7 rfl rfl rfl ?_
      refine gq_getf hX dX5_votes_8 rfl fX5_7 (mqR0 hb) rfl ?_
      refine gq_iconst (v := nI 0) hX dX5_votes_11 rfl (by decide) ?_
      refine gq_ialdN hX dX5_votes_12 rfl (mqR1 hb) rfl (by omega) (Nat.le_of_ble_eq_true rfl) ?_
      refine gq_icmp_geT (tgt := 47) hX dX5_votes_13 rfl (cT hw0 (by omega) (by omega)) ?_
      have ej : nc = j := by omega
      subst ej
      refine gq_iload_n hX dX5_votes_47 rfl rfl rfl ?_
      exact gq_iret hX hQ dX5_votes_48 rfl ⟨rfl, rfl⟩
    | succ n ih =>
      intro j hj
      refine gq_iload hX dX5_votes_5 rfl rfl ?_
      refine gq_aload_n hX dX5_votes_7 rfl rfl rfl ?_
      refine gq_getf hX dX5_votes_8 rfl fX5_7 (mqR0 hb) rfl ?_
      refine gq_iconst (v := nI 0) hX dX5_votes_11 rfl (by decide) ?_
      refine gq_ialdN hX dX5_votes_12 rfl (mqR1 hb) rfl (by omega) (Nat.le_of_ble_eq_true rfl) ?_
      refine gq_icmp_geF (tgt := 47) hX dX5_votes_13 rfl rfl (cF hw0 (by omega) (by omega)) ?_
      refine gq_iload_n hX dX5_votes_16 rfl rfl rfl ?_
      refine gq_aload_n hX dX5_votes_17 rfl rfl rfl ?_
      refine gq_iload hX dX5_votes_18 rfl rfl ?_
      refine gq_iload_n hX dX5_votes_20 rfl rfl rfl ?_
      refine gq_callVe hX dX5_votes_21 rfl vX5_162 (mt_voteOf hb hwf hn hk hmv ha (by omega)) rfl (mqR0 hb) rfl rfl (Nat.le_of_ble_eq_true rfl) ⟨(Nat.le_of_ble_eq_true rfl), (Nat.le_of_ble_eq_true rfl)⟩ (Nat.zero_add _) (Nat.zero_add _) ?_
      refine gq_iload_n hX dX5_votes_24 rfl rfl rfl ?_
      refine gq_icmp_ne (tgt := 38) hX dX5_votes_25 rfl rfl (fun c9 => ?_) (fun c9 => ?_)
      · refine gq_iconst (v := nI 0) hX dX5_votes_38 rfl (by decide) ?_
        refine gq_iadd hX dX5_votes_39 rfl ?_
        refine gq_istore_n hX dX5_votes_40 rfl rfl (Nat.le_of_ble_eq_true rfl) rfl ?_
        refine gq_iinc hX dX5_votes_41 rfl rfl (inc1 _) (Nat.le_of_ble_eq_true rfl) rfl ?_
        refine gq_goto (tgt := 5) hX dX5_votes_44 rfl ?_
        exact gq_ls (by rw [show it (fun j s => if voiF S k a j = v then s + S.2 1 j else s) (nI 0) (j + 1) = it (fun j s => if voiF S k a j = v then s + S.2 1 j else s) (nI 0) j from if_neg c9, show it (fun j s => if voiF S k a j = v then s + S.2 1 j else s) (nI 0) j + nI 0 = it (fun j s => if voiF S k a j = v then s + S.2 1 j else s) (nI 0) j from Int32.add_zero _]; rfl) rfl rfl (ih (j + 1) (by omega))
      · refine gq_aload_n hX dX5_votes_28 rfl rfl rfl ?_
        refine gq_iload hX dX5_votes_29 rfl rfl ?_
        refine gq_iconst (v := nI 0) hX dX5_votes_31 rfl (by decide) ?_
        refine gq_callVe hX dX5_votes_32 rfl vX5_65 (mt_of hb (c := j) (x := 0) (by omega) (by decide)) rfl (mqR0 hb) rfl rfl (Nat.le_of_ble_eq_true rfl) ⟨(Nat.le_of_ble_eq_true rfl), (Nat.le_of_ble_eq_true rfl)⟩ (Nat.zero_add _) (Nat.zero_add _) ?_
        rw [wC0 hncl (by omega)]
        refine gq_goto (tgt := 39) hX dX5_votes_35 rfl ?_
        refine gq_iadd hX dX5_votes_39 rfl ?_
        refine gq_istore_n hX dX5_votes_40 rfl rfl (Nat.le_of_ble_eq_true rfl) rfl ?_
        refine gq_iinc hX dX5_votes_41 rfl rfl (inc1 _) (Nat.le_of_ble_eq_true rfl) rfl ?_
        refine gq_goto (tgt := 5) hX dX5_votes_44 rfl ?_
        exact gq_ls (by rw [show it (fun j s => if voiF S k a j = v then s + S.2 1 j else s) (nI 0) (j + 1) = it (fun j s => if voiF S k a j = v then s + S.2 1 j else s) (nI 0) j + S.2 1 j from if_pos c9]; rfl) rfl rfl (ih (j + 1) (by omega))
  exact loop nc 0 (by omega)

set_option maxRecDepth 100000 in
set_option maxHeartbeats 4000000 in
theorem mt_isPoss {E : Ev} {b : Nat → Nat} {T : St} {M : Hp} (hb : Lay E 9 b) {S : St} {nc nt no : Nat} (hwf : Wf S nc nt no) (hn : Nar S) {k a : Nat} (hk : k < no) (hmv : S.2 9 k = nI a) (ha : a < nc) {o : Nat} (ho : ObjOk S nc nt k o) : Ct E mX5_isPossible [.ref (b 0), .int (nI k)] (MdW E b T (wOf S nc nt no) M) (eqR (some (.int (posI S k a o))) (MdW E b T (wOf S nc nt no) M)) 0 0 := by
  refine Ct.of gmX5_isPossible (ls := [.ref (b 0), .int (nI k), hole, hole]) rfl rfl (Nat.le_of_ble_eq_true rfl) ?_
  intro X hX Q hQ
  have hwf2 := hwf
  obtain ⟨hnc, hncl, hnt, hntl, hno, hnol⟩ := hwf2
  have hw0 : wOf S nc nt no 0 = nI nc := hnc
  have hw1 : wOf S nc nt no 1 = nI nt := hnt
  have hw2 : wOf S nc nt no 2 = nI no := hno
  obtain ⟨hob, hkd⟩ := id ho
  refine gq_aload_n hX dX5_isPossible_0 rfl rfl rfl ?_
  refine gq_iload_n hX dX5_isPossible_1 rfl rfl rfl ?_
  refine gq_iconst (v := nI 2) hX dX5_isPossible_2 rfl (by decide) ?_
  refine gq_callVe hX dX5_isPossible_3 rfl vX5_61 (mt_motion hb (c := k) (x := 2) (by omega) (by decide)) rfl (mqR0 hb) rfl rfl (Nat.le_of_ble_eq_true rfl) ⟨(Nat.le_of_ble_eq_true rfl), (Nat.le_of_ble_eq_true rfl)⟩ (Nat.zero_add _) (Nat.zero_add _) ?_
  rw [wM2 hnol hk, hmv]
  refine gq_istore_n hX dX5_isPossible_6 rfl rfl (Nat.le_of_ble_eq_true rfl) rfl ?_
  refine gq_aload_n hX dX5_isPossible_7 rfl rfl rfl ?_
  refine gq_iload_n hX dX5_isPossible_8 rfl rfl rfl ?_
  refine gq_iconst (v := nI 3) hX dX5_isPossible_9 rfl (by decide) ?_
  refine gq_callVe hX dX5_isPossible_10 rfl vX5_61 (mt_motion hb (c := k) (x := 3) (by omega) (by decide)) rfl (mqR0 hb) rfl rfl (Nat.le_of_ble_eq_true rfl) ⟨(Nat.le_of_ble_eq_true rfl), (Nat.le_of_ble_eq_true rfl)⟩ (Nat.zero_add _) (Nat.zero_add _) ?_
  rw [wM3 hnol hk, ho.1]
  refine gq_istore_n hX dX5_isPossible_13 rfl rfl (Nat.le_of_ble_eq_true rfl) rfl ?_
  refine gq_aload_n hX dX5_isPossible_14 rfl rfl rfl ?_
  refine gq_iload_n hX dX5_isPossible_15 rfl rfl rfl ?_
  refine gq_iconst (v := nI 1) hX dX5_isPossible_16 rfl (by decide) ?_
  rcases hkd with ⟨h8, hot⟩ | ⟨h8, hot⟩ | ⟨h8, hoc⟩
  · refine gq_callVe hX dX5_isPossible_17 rfl vX5_61 (mt_motion hb (c := k) (x := 1) (by omega) (by decide)) rfl (mqR0 hb) rfl rfl (Nat.le_of_ble_eq_true rfl) ⟨(Nat.le_of_ble_eq_true rfl), (Nat.le_of_ble_eq_true rfl)⟩ (Nat.zero_add _) (Nat.zero_add _) ?_
    rw [wM1 hnol hk, h8, kd114]
    refine gq_if_neF (tgt := 46) hX dX5_isPossible_20 rfl rfl rfl ?_
    refine gq_aload_n hX dX5_isPossible_23 rfl rfl rfl ?_
    refine gq_iload_n hX dX5_isPossible_24 rfl rfl rfl ?_
    refine gq_iconst (v := nI 1) hX dX5_isPossible_25 rfl (by decide) ?_
    refine gq_callVe hX dX5_isPossible_26 rfl vX5_68 (mt_tail hb (c := o) (x := 1) (by omega) (by decide)) rfl (mqR0 hb) rfl rfl (Nat.le_of_ble_eq_true rfl) ⟨(Nat.le_of_ble_eq_true rfl), (Nat.le_of_ble_eq_true rfl)⟩ (Nat.zero_add _) (Nat.zero_add _) ?_
    rw [wT1 hntl hot]
    refine gq_if_ne (tgt := 44) hX dX5_isPossible_29 rfl rfl (fun c29 => ?_) (fun c29 => ?_)
    · refine gq_iconst (v := nI 0) hX dX5_isPossible_44 rfl (by decide) ?_
      exact gq_zret hX hQ dX5_isPossible_45 rfl rfl ⟨congrArg (fun z => some (Value.int z)) (by rw [posI, if_pos h8, if_neg (fun e => c29 (add1_0.mpr e))]), rfl⟩
    · refine gq_aload_n hX dX5_isPossible_32 rfl rfl rfl ?_
      refine gq_iload_n hX dX5_isPossible_33 rfl rfl rfl ?_
      refine gq_callVe hX dX5_isPossible_34 rfl vX5_104 (mt_flies hb hwf hn ha) rfl (mqR0 hb) rfl rfl (Nat.le_of_ble_eq_true rfl) ⟨(Nat.le_of_ble_eq_true rfl), (Nat.le_of_ble_eq_true rfl)⟩ (Nat.zero_add _) (Nat.zero_add _) ?_
      refine gq_if_eq (tgt := 44) hX dX5_isPossible_37 rfl rfl (fun c37 => ?_) (fun c37 => ?_)
      · refine gq_iconst (v := nI 0) hX dX5_isPossible_44 rfl (by decide) ?_
        exact gq_zret hX hQ dX5_isPossible_45 rfl rfl ⟨congrArg (fun z => some (Value.int z)) (by rw [posI, if_pos h8, if_pos (add1_0.mp c29), if_pos c37]), rfl⟩
      · refine gq_iconst (v := nI 1) hX dX5_isPossible_40 rfl (by decide) ?_
        refine gq_goto (tgt := 45) hX dX5_isPossible_41 rfl ?_
        exact gq_zret hX hQ dX5_isPossible_45 rfl rfl ⟨congrArg (fun z => some (Value.int z)) (by rw [posI, if_pos h8, if_pos (add1_0.mp c29), if_neg c37]), rfl⟩
  · refine gq_callVe hX dX5_isPossible_17 rfl vX5_61 (mt_motion hb (c := k) (x := 1) (by omega) (by decide)) rfl (mqR0 hb) rfl rfl (Nat.le_of_ble_eq_true rfl) ⟨(Nat.le_of_ble_eq_true rfl), (Nat.le_of_ble_eq_true rfl)⟩ (Nat.zero_add _) (Nat.zero_add _) ?_
    rw [wM1 hnol hk, h8, kd116]
    refine gq_if_neT (tgt := 46) hX dX5_isPossible_20 rfl (by decide) ?_
    refine gq_aload_n hX dX5_isPossible_46 rfl rfl rfl ?_
    refine gq_iload_n hX dX5_isPossible_47 rfl rfl rfl ?_
    refine gq_iconst (v := nI 1) hX dX5_isPossible_48 rfl (by decide) ?_
    refine gq_callVe hX dX5_isPossible_49 rfl vX5_61 (mt_motion hb (c := k) (x := 1) (by omega) (by decide)) rfl (mqR0 hb) rfl rfl (Nat.le_of_ble_eq_true rfl) ⟨(Nat.le_of_ble_eq_true rfl), (Nat.le_of_ble_eq_true rfl)⟩ (Nat.zero_add _) (Nat.zero_add _) ?_
    rw [wM1 hnol hk, h8, kd116]
    refine gq_iconst (v := nI 1) hX dX5_isPossible_52 rfl (by decide) ?_
    refine gq_icmp_neF (tgt := 74) hX dX5_isPossible_53 rfl rfl rfl ?_
    refine gq_aload_n hX dX5_isPossible_56 rfl rfl rfl ?_
    refine gq_iload_n hX dX5_isPossible_57 rfl rfl rfl ?_
    refine gq_iconst (v := nI 1) hX dX5_isPossible_58 rfl (by decide) ?_
    refine gq_callVe hX dX5_isPossible_59 rfl vX5_68 (mt_tail hb (c := o) (x := 1) (by omega) (by decide)) rfl (mqR0 hb) rfl rfl (Nat.le_of_ble_eq_true rfl) ⟨(Nat.le_of_ble_eq_true rfl), (Nat.le_of_ble_eq_true rfl)⟩ (Nat.zero_add _) (Nat.zero_add _) ?_
    rw [wT1 hntl hot]
    refine gq_iload_n hX dX5_isPossible_62 rfl rfl rfl ?_
    refine gq_iconst (v := nI 1) hX dX5_isPossible_63 rfl (by decide) ?_
    refine gq_iadd hX dX5_isPossible_64 rfl ?_
    refine gq_icmp_ne (tgt := 72) hX dX5_isPossible_65 rfl rfl (fun c65 => ?_) (fun c65 => ?_)
    · refine gq_iconst (v := nI 0) hX dX5_isPossible_72 rfl (by decide) ?_
      exact gq_zret hX hQ dX5_isPossible_73 rfl rfl ⟨congrArg (fun z => some (Value.int z)) (by rw [posI, h8, if_neg k114, if_pos rfl, if_neg (fun e => c65 (add1_inj.mpr e))]), rfl⟩
    · refine gq_iconst (v := nI 1) hX dX5_isPossible_68 rfl (by decide) ?_
      refine gq_goto (tgt := 73) hX dX5_isPossible_69 rfl ?_
      exact gq_zret hX hQ dX5_isPossible_73 rfl rfl ⟨congrArg (fun z => some (Value.int z)) (by rw [posI, h8, if_neg k114, if_pos rfl, if_pos (add1_inj.mp c65)]), rfl⟩
  · refine gq_callVe hX dX5_isPossible_17 rfl vX5_61 (mt_motion hb (c := k) (x := 1) (by omega) (by decide)) rfl (mqR0 hb) rfl rfl (Nat.le_of_ble_eq_true rfl) ⟨(Nat.le_of_ble_eq_true rfl), (Nat.le_of_ble_eq_true rfl)⟩ (Nat.zero_add _) (Nat.zero_add _) ?_
    rw [wM1 hnol hk, h8, kd103]
    refine gq_if_neT (tgt := 46) hX dX5_isPossible_20 rfl (by decide) ?_
    refine gq_aload_n hX dX5_isPossible_46 rfl rfl rfl ?_
    refine gq_iload_n hX dX5_isPossible_47 rfl rfl rfl ?_
    refine gq_iconst (v := nI 1) hX dX5_isPossible_48 rfl (by decide) ?_
    refine gq_callVe hX dX5_isPossible_49 rfl vX5_61 (mt_motion hb (c := k) (x := 1) (by omega) (by decide)) rfl (mqR0 hb) rfl rfl (Nat.le_of_ble_eq_true rfl) ⟨(Nat.le_of_ble_eq_true rfl), (Nat.le_of_ble_eq_true rfl)⟩ (Nat.zero_add _) (Nat.zero_add _) ?_
    rw [wM1 hnol hk, h8, kd103]
    refine gq_iconst (v := nI 1) hX dX5_isPossible_52 rfl (by decide) ?_
    refine gq_icmp_neT (tgt := 74) hX dX5_isPossible_53 rfl (by decide) ?_
    refine gq_aload_n hX dX5_isPossible_74 rfl rfl rfl ?_
    refine gq_iload_n hX dX5_isPossible_75 rfl rfl rfl ?_
    refine gq_callVe hX dX5_isPossible_76 rfl vX5_104 (mt_flies hb hwf hn hoc) rfl (mqR0 hb) rfl rfl (Nat.le_of_ble_eq_true rfl) ⟨(Nat.le_of_ble_eq_true rfl), (Nat.le_of_ble_eq_true rfl)⟩ (Nat.zero_add _) (Nat.zero_add _) ?_
    exact gq_zret hX hQ dX5_isPossible_79 rfl (by rcases bool_01 (hn.1 o) with h | h <;> rw [h] <;> rfl) ⟨congrArg (fun z => some (Value.int z)) (by rw [posI, h8, if_neg k103, if_neg k103']), rfl⟩

set_option maxRecDepth 100000 in
set_option maxHeartbeats 4000000 in
theorem mt_carries {E : Ev} {b : Nat → Nat} {T : St} {M : Hp} (hb : Lay E 9 b) {S : St} {nc nt no : Nat} (hwf : Wf S nc nt no) (hn : Nar S) {k a : Nat} (hk : k < no) (hmv : S.2 9 k = nI a) (ha : a < nc) {o : Nat} (ho : ObjOk S nc nt k o) : Ct E mX5_carries [.ref (b 0), .int (nI k)] (MdW E b T (wOf S nc nt no) M) (eqR (none) (MdW E b T (wOf (effS S nt k a o) nc nt no) M)) 0 0 := by
  refine Ct.of gmX5_carries (ls := [.ref (b 0), .int (nI k), hole]) rfl rfl (Nat.le_of_ble_eq_true rfl) ?_
  intro X hX Q hQ
  have hwf2 := hwf
  obtain ⟨hnc, hncl, hnt, hntl, hno, hnol⟩ := hwf2
  have hw0 : wOf S nc nt no 0 = nI nc := hnc
  have hw1 : wOf S nc nt no 1 = nI nt := hnt
  have hw2 : wOf S nc nt no 2 = nI no := hno
  obtain ⟨hob, hkd⟩ := id ho
  refine gq_aload_n hX dX5_carries_0 rfl rfl rfl ?_
  refine gq_iload_n hX dX5_carries_1 rfl rfl rfl ?_
  refine gq_iconst (v := nI 3) hX dX5_carries_2 rfl (by decide) ?_
  refine gq_callVe hX dX5_carries_3 rfl vX5_61 (mt_motion hb (c := k) (x := 3) (by omega) (by decide)) rfl (mqR0 hb) rfl rfl (Nat.le_of_ble_eq_true rfl) ⟨(Nat.le_of_ble_eq_true rfl), (Nat.le_of_ble_eq_true rfl)⟩ (Nat.zero_add _) (Nat.zero_add _) ?_
  rw [wM3 hnol hk, ho.1]
  refine gq_istore_n hX dX5_carries_6 rfl rfl (Nat.le_of_ble_eq_true rfl) rfl ?_
  refine gq_aload_n hX dX5_carries_7 rfl rfl rfl ?_
  refine gq_iload_n hX dX5_carries_8 rfl rfl rfl ?_
  refine gq_iconst (v := nI 1) hX dX5_carries_9 rfl (by decide) ?_
  rcases hkd with ⟨h8, hot⟩ | ⟨h8, hot⟩ | ⟨h8, hoc⟩
  · refine gq_callVe hX dX5_carries_10 rfl vX5_61 (mt_motion hb (c := k) (x := 1) (by omega) (by decide)) rfl (mqR0 hb) rfl rfl (Nat.le_of_ble_eq_true rfl) ⟨(Nat.le_of_ble_eq_true rfl), (Nat.le_of_ble_eq_true rfl)⟩ (Nat.zero_add _) (Nat.zero_add _) ?_
    rw [wM1 hnol hk, h8, kd114]
    refine gq_if_neF (tgt := 40) hX dX5_carries_13 rfl rfl rfl ?_
    refine gq_aload_n hX dX5_carries_16 rfl rfl rfl ?_
    refine gq_getf hX dX5_carries_17 rfl fX5_7 (mqR0 hb) rfl ?_
    refine gq_bipush (v := nI 27) hX dX5_carries_20 rfl (by decide) ?_
    refine gq_iconst (v := nI 2) hX dX5_carries_22 rfl (by decide) ?_
    refine gq_iload_n hX dX5_carries_23 rfl rfl rfl ?_
    refine gq_imul hX dX5_carries_24 rfl ?_
    rw [nI_m]
    refine gq_iadd hX dX5_carries_25 rfl ?_
    rw [nI_add]
    refine gq_iconst (v := nI 1) hX dX5_carries_26 rfl (by decide) ?_
    refine gq_iadd hX dX5_carries_27 rfl ?_
    rw [nI_add]
    refine gq_aload_n hX dX5_carries_28 rfl rfl rfl ?_
    refine gq_iload_n hX dX5_carries_29 rfl rfl rfl ?_
    refine gq_iconst (v := nI 2) hX dX5_carries_30 rfl (by decide) ?_
    refine gq_callVe hX dX5_carries_31 rfl vX5_61 (mt_motion hb (c := k) (x := 2) (by omega) (by decide)) rfl (mqR0 hb) rfl rfl (Nat.le_of_ble_eq_true rfl) ⟨(Nat.le_of_ble_eq_true rfl), (Nat.le_of_ble_eq_true rfl)⟩ (Nat.zero_add _) (Nat.zero_add _) ?_
    rw [wM2 hnol hk, hmv]
    refine gq_iconst (v := nI 1) hX dX5_carries_34 rfl (by decide) ?_
    refine gq_iadd hX dX5_carries_35 rfl ?_
    refine gq_iastN hX dX5_carries_36 rfl (mqR1 hb) rfl (by omega) (Nat.le_of_ble_eq_true rfl) (hb.2 1 (by decide)) (mqW1 hb) ?_
    rw [wU_re hntl hot]
    refine gq_goto (tgt := 72) hX dX5_carries_37 rfl ?_
    exact gq_vret hX hQ dX5_carries_72 rfl ⟨rfl, by rw [effS, if_pos h8]⟩
  · refine gq_callVe hX dX5_carries_10 rfl vX5_61 (mt_motion hb (c := k) (x := 1) (by omega) (by decide)) rfl (mqR0 hb) rfl rfl (Nat.le_of_ble_eq_true rfl) ⟨(Nat.le_of_ble_eq_true rfl), (Nat.le_of_ble_eq_true rfl)⟩ (Nat.zero_add _) (Nat.zero_add _) ?_
    rw [wM1 hnol hk, h8, kd116]
    refine gq_if_neT (tgt := 40) hX dX5_carries_13 rfl (by decide) ?_
    refine gq_aload_n hX dX5_carries_40 rfl rfl rfl ?_
    refine gq_iload_n hX dX5_carries_41 rfl rfl rfl ?_
    refine gq_iconst (v := nI 1) hX dX5_carries_42 rfl (by decide) ?_
    refine gq_callVe hX dX5_carries_43 rfl vX5_61 (mt_motion hb (c := k) (x := 1) (by omega) (by decide)) rfl (mqR0 hb) rfl rfl (Nat.le_of_ble_eq_true rfl) ⟨(Nat.le_of_ble_eq_true rfl), (Nat.le_of_ble_eq_true rfl)⟩ (Nat.zero_add _) (Nat.zero_add _) ?_
    rw [wM1 hnol hk, h8, kd116]
    refine gq_iconst (v := nI 1) hX dX5_carries_46 rfl (by decide) ?_
    refine gq_icmp_neF (tgt := 67) hX dX5_carries_47 rfl rfl rfl ?_
    refine gq_aload_n hX dX5_carries_50 rfl rfl rfl ?_
    refine gq_getf hX dX5_carries_51 rfl fX5_7 (mqR0 hb) rfl ?_
    refine gq_bipush (v := nI 27) hX dX5_carries_54 rfl (by decide) ?_
    refine gq_iconst (v := nI 2) hX dX5_carries_56 rfl (by decide) ?_
    refine gq_iload_n hX dX5_carries_57 rfl rfl rfl ?_
    refine gq_imul hX dX5_carries_58 rfl ?_
    rw [nI_m]
    refine gq_iadd hX dX5_carries_59 rfl ?_
    rw [nI_add]
    refine gq_iconst (v := nI 1) hX dX5_carries_60 rfl (by decide) ?_
    refine gq_iadd hX dX5_carries_61 rfl ?_
    rw [nI_add]
    refine gq_iconst (v := nI 0) hX dX5_carries_62 rfl (by decide) ?_
    refine gq_iastN hX dX5_carries_63 rfl (mqR1 hb) rfl (by omega) (Nat.le_of_ble_eq_true rfl) (hb.2 1 (by decide)) (mqW1 hb) ?_
    rw [show nI 0 = (-1 : Int32) + nI 1 from by decide, wU_re hntl hot]
    refine gq_goto (tgt := 72) hX dX5_carries_64 rfl ?_
    exact gq_vret hX hQ dX5_carries_72 rfl ⟨rfl, by rw [effS, h8, if_neg k114, if_pos rfl]⟩
  · refine gq_callVe hX dX5_carries_10 rfl vX5_61 (mt_motion hb (c := k) (x := 1) (by omega) (by decide)) rfl (mqR0 hb) rfl rfl (Nat.le_of_ble_eq_true rfl) ⟨(Nat.le_of_ble_eq_true rfl), (Nat.le_of_ble_eq_true rfl)⟩ (Nat.zero_add _) (Nat.zero_add _) ?_
    rw [wM1 hnol hk, h8, kd103]
    refine gq_if_neT (tgt := 40) hX dX5_carries_13 rfl (by decide) ?_
    refine gq_aload_n hX dX5_carries_40 rfl rfl rfl ?_
    refine gq_iload_n hX dX5_carries_41 rfl rfl rfl ?_
    refine gq_iconst (v := nI 1) hX dX5_carries_42 rfl (by decide) ?_
    refine gq_callVe hX dX5_carries_43 rfl vX5_61 (mt_motion hb (c := k) (x := 1) (by omega) (by decide)) rfl (mqR0 hb) rfl rfl (Nat.le_of_ble_eq_true rfl) ⟨(Nat.le_of_ble_eq_true rfl), (Nat.le_of_ble_eq_true rfl)⟩ (Nat.zero_add _) (Nat.zero_add _) ?_
    rw [wM1 hnol hk, h8, kd103]
    refine gq_iconst (v := nI 1) hX dX5_carries_46 rfl (by decide) ?_
    refine gq_icmp_neT (tgt := 67) hX dX5_carries_47 rfl (by decide) ?_
    refine gq_aload_n hX dX5_carries_67 rfl rfl rfl ?_
    refine gq_iload_n hX dX5_carries_68 rfl rfl rfl ?_
    refine gq_callVe hX dX5_carries_69 rfl vX5_165 (mt_grounds hb hwf hoc) rfl (mqR0 hb) rfl rfl (Nat.le_of_ble_eq_true rfl) ⟨(Nat.le_of_ble_eq_true rfl), (Nat.le_of_ble_eq_true rfl)⟩ (Nat.zero_add _) (Nat.zero_add _) ?_
    exact gq_vret hX hQ dX5_carries_72 rfl ⟨rfl, by rw [effS, h8, if_neg k103, if_neg k103']⟩

set_option maxRecDepth 100000 in
set_option maxHeartbeats 4000000 in
theorem mt_votesOn {E : Ev} {b : Nat → Nat} {T : St} {M : Hp} (hb : Lay E 9 b) {S : St} {nc nt no : Nat} (hwf : Wf S nc nt no) {id : Int32} {k : Nat} (ho : slotO S no id = some k) (hn : Nar S) {a o : Nat} (hmv : S.2 9 k = nI a) (ha : a < nc) (ho2 : ObjOk S nc nt k o) : Ct E mX5_votesOn [.ref (b 0), .int id] (MdW E b T (wOf S nc nt no) M) (eqR (some (.int (carI S nc k a o))) (MdW E b T (wOf (votS S nc nt no k a o) nc nt (no - 1)) M)) 0 0 := by
  refine Ct.of gmX5_votesOn (ls := [.ref (b 0), .int id, hole, hole]) rfl rfl (Nat.le_of_ble_eq_true rfl) ?_
  intro X hX Q hQ
  have hwf2 := hwf
  obtain ⟨hnc, hncl, hnt, hntl, hno, hnol⟩ := hwf2
  have hw0 : wOf S nc nt no 0 = nI nc := hnc
  have hw1 : wOf S nc nt no 1 = nI nt := hnt
  have hw2 : wOf S nc nt no 2 = nI no := hno
  have hct := mt_slotOf (M := M) (T := T) hb hwf id
  rw [ho] at hct
  obtain ⟨hk, hid⟩ := slotO_lt ho
  refine gq_aload_n hX dX5_votesOn_0 rfl rfl rfl ?_
  refine gq_iload_n hX dX5_votesOn_1 rfl rfl rfl ?_
  refine gq_callVe hX dX5_votesOn_2 rfl vX5_133 (hct) rfl (mqR0 hb) rfl rfl (Nat.le_of_ble_eq_true rfl) ⟨(Nat.le_of_ble_eq_true rfl), (Nat.le_of_ble_eq_true rfl)⟩ (Nat.zero_add _) (Nat.zero_add _) ?_
  refine gq_istore_n hX dX5_votesOn_5 rfl rfl (Nat.le_of_ble_eq_true rfl) rfl ?_
  refine gq_aload_n hX dX5_votesOn_6 rfl rfl rfl ?_
  refine gq_iload_n hX dX5_votesOn_7 rfl rfl rfl ?_
  refine gq_iconst (v := nI 1) hX dX5_votesOn_8 rfl (by decide) ?_
  refine gq_callVe hX dX5_votesOn_9 rfl vX5_168 (mt_votes hb hwf hn hk hmv ha _) rfl (mqR0 hb) rfl rfl (Nat.le_of_ble_eq_true rfl) ⟨(Nat.le_of_ble_eq_true rfl), (Nat.le_of_ble_eq_true rfl)⟩ (Nat.zero_add _) (Nat.zero_add _) ?_
  refine gq_aload_n hX dX5_votesOn_12 rfl rfl rfl ?_
  refine gq_iload_n hX dX5_votesOn_13 rfl rfl rfl ?_
  refine gq_iconst (v := -1) hX dX5_votesOn_14 rfl (by decide) ?_
  refine gq_callVe hX dX5_votesOn_15 rfl vX5_168 (mt_votes hb hwf hn hk hmv ha _) rfl (mqR0 hb) rfl rfl (Nat.le_of_ble_eq_true rfl) ⟨(Nat.le_of_ble_eq_true rfl), (Nat.le_of_ble_eq_true rfl)⟩ (Nat.zero_add _) (Nat.zero_add _) ?_
  refine gq_icmp_le (tgt := 33) hX dX5_votesOn_18 rfl rfl (fun c18 => ?_) (fun c18 => ?_)
  · have hcar : carI S nc k a o = nI 0 := if_pos c18
    refine gq_iconst (v := nI 0) hX dX5_votesOn_33 rfl (by decide) ?_
    refine gq_istore_n hX dX5_votesOn_34 rfl rfl (Nat.le_of_ble_eq_true rfl) rfl ?_
    refine gq_iload_n hX dX5_votesOn_35 rfl rfl rfl ?_
    refine gq_if_eqT (tgt := 44) hX dX5_votesOn_36 rfl rfl ?_
    refine gq_aload_n hX dX5_votesOn_44 rfl rfl rfl ?_
    refine gq_iload_n hX dX5_votesOn_45 rfl rfl rfl ?_
    refine gq_callVe hX dX5_votesOn_46 rfl vX5_152 (mt_closes hb hwf hk) rfl (mqR0 hb) rfl rfl (Nat.le_of_ble_eq_true rfl) ⟨(Nat.le_of_ble_eq_true rfl), (Nat.le_of_ble_eq_true rfl)⟩ (Nat.zero_add _) (Nat.zero_add _) ?_
    refine gq_aload_n hX dX5_votesOn_49 rfl rfl rfl ?_
    refine gq_getf hX dX5_votesOn_50 rfl fX5_7 (mqR0 hb) rfl ?_
    refine gq_iload_n hX dX5_votesOn_53 rfl rfl rfl ?_
    refine gq_if_eqT (tgt := 61) hX dX5_votesOn_54 rfl rfl ?_
    refine gq_bipush (v := nI 6) hX dX5_votesOn_61 rfl (by decide) ?_
    refine gq_dup2 hX dX5_votesOn_63 rfl rfl rfl ?_
    refine gq_ialdN hX dX5_votesOn_64 rfl (mqR1 hb) rfl (by omega) (Nat.le_of_ble_eq_true rfl) ?_
    rw [wS6]
    refine gq_iconst (v := nI 1) hX dX5_votesOn_65 rfl (by decide) ?_
    refine gq_iadd hX dX5_votesOn_66 rfl ?_
    refine gq_iastN hX dX5_votesOn_67 rfl (mqR1 hb) rfl (by omega) (Nat.le_of_ble_eq_true rfl) (hb.2 1 (by decide)) (mqW1 hb) ?_
    rw [wU_6]
    refine gq_iload_n hX dX5_votesOn_68 rfl rfl rfl ?_
    refine gq_if_eqT (tgt := 76) hX dX5_votesOn_69 rfl rfl ?_
    refine gq_iconst (v := nI 0) hX dX5_votesOn_76 rfl (by decide) ?_
    refine gq_iret hX hQ dX5_votesOn_77 rfl ⟨by rw [hcar], ?_⟩
    rw [votS, if_pos (hcar.trans nI_0), clo_set _ _ _ _ _ (by decide)]
    rw [show (cloS S no k).1 4 = S.1 4 from congrFun (clo_sc S no k) 4]
  · refine gq_aload_n hX dX5_votesOn_21 rfl rfl rfl ?_
    refine gq_iload_n hX dX5_votesOn_22 rfl rfl rfl ?_
    refine gq_callVe hX dX5_votesOn_23 rfl vX5_171 (mt_isPoss hb hwf hn hk hmv ha ho2) rfl (mqR0 hb) rfl rfl (Nat.le_of_ble_eq_true rfl) ⟨(Nat.le_of_ble_eq_true rfl), (Nat.le_of_ble_eq_true rfl)⟩ (Nat.zero_add _) (Nat.zero_add _) ?_
    refine gq_if_eq (tgt := 33) hX dX5_votesOn_26 rfl rfl (fun c26 => ?_) (fun c26 => ?_)
    · have hcar : carI S nc k a o = nI 0 := (if_neg c18).trans (if_pos c26)
      refine gq_iconst (v := nI 0) hX dX5_votesOn_33 rfl (by decide) ?_
      refine gq_istore_n hX dX5_votesOn_34 rfl rfl (Nat.le_of_ble_eq_true rfl) rfl ?_
      refine gq_iload_n hX dX5_votesOn_35 rfl rfl rfl ?_
      refine gq_if_eqT (tgt := 44) hX dX5_votesOn_36 rfl rfl ?_
      refine gq_aload_n hX dX5_votesOn_44 rfl rfl rfl ?_
      refine gq_iload_n hX dX5_votesOn_45 rfl rfl rfl ?_
      refine gq_callVe hX dX5_votesOn_46 rfl vX5_152 (mt_closes hb hwf hk) rfl (mqR0 hb) rfl rfl (Nat.le_of_ble_eq_true rfl) ⟨(Nat.le_of_ble_eq_true rfl), (Nat.le_of_ble_eq_true rfl)⟩ (Nat.zero_add _) (Nat.zero_add _) ?_
      refine gq_aload_n hX dX5_votesOn_49 rfl rfl rfl ?_
      refine gq_getf hX dX5_votesOn_50 rfl fX5_7 (mqR0 hb) rfl ?_
      refine gq_iload_n hX dX5_votesOn_53 rfl rfl rfl ?_
      refine gq_if_eqT (tgt := 61) hX dX5_votesOn_54 rfl rfl ?_
      refine gq_bipush (v := nI 6) hX dX5_votesOn_61 rfl (by decide) ?_
      refine gq_dup2 hX dX5_votesOn_63 rfl rfl rfl ?_
      refine gq_ialdN hX dX5_votesOn_64 rfl (mqR1 hb) rfl (by omega) (Nat.le_of_ble_eq_true rfl) ?_
      rw [wS6]
      refine gq_iconst (v := nI 1) hX dX5_votesOn_65 rfl (by decide) ?_
      refine gq_iadd hX dX5_votesOn_66 rfl ?_
      refine gq_iastN hX dX5_votesOn_67 rfl (mqR1 hb) rfl (by omega) (Nat.le_of_ble_eq_true rfl) (hb.2 1 (by decide)) (mqW1 hb) ?_
      rw [wU_6]
      refine gq_iload_n hX dX5_votesOn_68 rfl rfl rfl ?_
      refine gq_if_eqT (tgt := 76) hX dX5_votesOn_69 rfl rfl ?_
      refine gq_iconst (v := nI 0) hX dX5_votesOn_76 rfl (by decide) ?_
      refine gq_iret hX hQ dX5_votesOn_77 rfl ⟨by rw [hcar], ?_⟩
      rw [votS, if_pos (hcar.trans nI_0), clo_set _ _ _ _ _ (by decide)]
      rw [show (cloS S no k).1 4 = S.1 4 from congrFun (clo_sc S no k) 4]
    · have hcar : carI S nc k a o = nI 1 := (if_neg c18).trans (if_neg c26)
      refine gq_iconst (v := nI 1) hX dX5_votesOn_29 rfl (by decide) ?_
      refine gq_goto (tgt := 34) hX dX5_votesOn_30 rfl ?_
      refine gq_istore_n hX dX5_votesOn_34 rfl rfl (Nat.le_of_ble_eq_true rfl) rfl ?_
      refine gq_iload_n hX dX5_votesOn_35 rfl rfl rfl ?_
      refine gq_if_eqF (tgt := 44) hX dX5_votesOn_36 rfl rfl (by decide) ?_
      refine gq_aload_n hX dX5_votesOn_39 rfl rfl rfl ?_
      refine gq_iload_n hX dX5_votesOn_40 rfl rfl rfl ?_
      refine gq_callVe hX dX5_votesOn_41 rfl vX5_174 (mt_carries hb hwf hn hk hmv ha ho2) rfl (mqR0 hb) rfl rfl (Nat.le_of_ble_eq_true rfl) ⟨(Nat.le_of_ble_eq_true rfl), (Nat.le_of_ble_eq_true rfl)⟩ (Nat.zero_add _) (Nat.zero_add _) ?_
      refine gq_aload_n hX dX5_votesOn_44 rfl rfl rfl ?_
      refine gq_iload_n hX dX5_votesOn_45 rfl rfl rfl ?_
      refine gq_callVe hX dX5_votesOn_46 rfl vX5_152 (mt_closes hb (S := effS S nt k a o) (effS_wf hwf) hk) rfl (mqR0 hb) rfl rfl (Nat.le_of_ble_eq_true rfl) ⟨(Nat.le_of_ble_eq_true rfl), (Nat.le_of_ble_eq_true rfl)⟩ (Nat.zero_add _) (Nat.zero_add _) ?_
      refine gq_aload_n hX dX5_votesOn_49 rfl rfl rfl ?_
      refine gq_getf hX dX5_votesOn_50 rfl fX5_7 (mqR0 hb) rfl ?_
      refine gq_iload_n hX dX5_votesOn_53 rfl rfl rfl ?_
      refine gq_if_eqF (tgt := 61) hX dX5_votesOn_54 rfl rfl (by decide) ?_
      refine gq_iconst (v := nI 5) hX dX5_votesOn_57 rfl (by decide) ?_
      refine gq_goto (tgt := 63) hX dX5_votesOn_58 rfl ?_
      refine gq_dup2 hX dX5_votesOn_63 rfl rfl rfl ?_
      refine gq_ialdN hX dX5_votesOn_64 rfl (mqR1 hb) rfl (by omega) (Nat.le_of_ble_eq_true rfl) ?_
      rw [wS5]
      refine gq_iconst (v := nI 1) hX dX5_votesOn_65 rfl (by decide) ?_
      refine gq_iadd hX dX5_votesOn_66 rfl ?_
      refine gq_iastN hX dX5_votesOn_67 rfl (mqR1 hb) rfl (by omega) (Nat.le_of_ble_eq_true rfl) (hb.2 1 (by decide)) (mqW1 hb) ?_
      rw [wU_5]
      refine gq_iload_n hX dX5_votesOn_68 rfl rfl rfl ?_
      refine gq_if_eqF (tgt := 76) hX dX5_votesOn_69 rfl rfl (by decide) ?_
      refine gq_iconst (v := nI 1) hX dX5_votesOn_72 rfl (by decide) ?_
      refine gq_goto (tgt := 77) hX dX5_votesOn_73 rfl ?_
      refine gq_iret hX hQ dX5_votesOn_77 rfl ⟨by rw [hcar], ?_⟩
      rw [votS, if_neg (by rw [hcar]; decide), clo_set _ _ _ _ _ (by decide)]
      rw [show (cloS (effS S nt k a o) no k).1 3 = S.1 3 from (congrFun (clo_sc _ no k) 3).trans (congrFun (effS_s) 3)]

set_option maxRecDepth 100000 in
set_option maxHeartbeats 4000000 in
theorem mt_blows {E : Ev} {b : Nat → Nat} {T : St} {M : Hp} (hb : Lay E 9 b) {S : St} {nc nt no : Nat} (hwf : Wf S nc nt no) (hn : Nar S) (hmo : ∀ k, k < no → ∃ a, a < nc ∧ S.2 9 k = nI a) (str : Int32) : Ct E mX5_blows [.ref (b 0), .int str] (MdW E b T (wOf S nc nt no) M) (eqR (some (.int (gusS S nt no str).2)) (MdW E b T (wOf (gusS S nt no str).1 nc nt no) M)) 0 0 := by
  refine Ct.of gmX5_blows (ls := [.ref (b 0), .int str, hole, hole, hole]) rfl rfl (Nat.le_of_ble_eq_true rfl) ?_
  intro X hX Q hQ
  have hwf2 := hwf
  obtain ⟨hnc, hncl, hnt, hntl, hno, hnol⟩ := hwf2
  have hw0 : wOf S nc nt no 0 = nI nc := hnc
  have hw1 : wOf S nc nt no 1 = nI nt := hnt
  have hw2 : wOf S nc nt no 2 = nI no := hno
  refine gq_iconst (v := nI 0) hX dX5_blows_0 rfl (by decide) ?_
  refine gq_istore_n hX dX5_blows_1 rfl rfl (Nat.le_of_ble_eq_true rfl) rfl ?_
  refine gq_iconst (v := nI 0) hX dX5_blows_2 rfl (by decide) ?_
  refine gq_istore_n hX dX5_blows_3 rfl rfl (Nat.le_of_ble_eq_true rfl) rfl ?_
  have hTw : ∀ i, (gusS S nt i str).1.1 = S.1 ∧ (gusS S nt i str).1.2 9 = S.2 9 ∧ (gusS S nt i str).1.2 3 = S.2 3 ∧ (gusS S nt i str).1.2 5 = S.2 5 ∧ (gusS S nt i str).1.2 4 = S.2 4 := fun i => it_inv (I := fun s : St × Int32 => s.1.1 = S.1 ∧ s.1.2 9 = S.2 9 ∧ s.1.2 3 = S.2 3 ∧ s.1.2 5 = S.2 5 ∧ s.1.2 4 = S.2 4) ⟨rfl, rfl, rfl, rfl, rfl⟩ (fun j s _ h => by
    split
    · split
      · exact h
      · split
        · exact h
        · exact h
    · exact h)
  have hnT : ∀ i, Nar (gusS S nt i str).1 := fun i => it_inv (I := fun s : St × Int32 => Nar s.1) hn (fun j s _ h => by
    split
    · split
      · exact h
      · split
        · exact h
        · exact nar_tb h vz1
    · exact h)
  have hwT : ∀ i, Wf (gusS S nt i str).1 nc nt no := fun i => by unfold Wf; rw [(hTw i).1]; exact hwf
  have hlT : ∀ i c, lenB (gusS S nt i str).1 nt c = lenB S nt c := fun i c => by unfold lenB; rw [(hTw i).2.2.2.1, (hTw i).2.2.2.2]
  have hw2T : ∀ i, wOf (gusS S nt i str).1 nc nt no 2 = nI no := fun i => (hwT i).2.2.2.2.1
  have loop : ∀ n j : Nat, j + n = no → ∀ z : Value, Gq E X mX5_blows Q 4 [.ref (b 0), .int str, .int (gusS S nt j str).2, .int (nI j), z] [] (MdW E b T (wOf (gusS S nt j str).1 nc nt no) M) 0 0 := by
    intro n
    induction n with
    | zero =>
      intro j hj z
      refine gq_iload_n hX dX5_blows_4 rfl rfl rfl ?_
      refine gq_aload_n hX dX5_blows_5 rfl rfl rfl ?_
      refine gq_getf hX dX5_blows_6 rfl fX5_7 (mqR0 hb) rfl ?_
      refine gq_iconst (v := nI 2) hX dX5_blows_9 rfl (by decide) ?_
      refine gq_ialdN hX dX5_blows_10 rfl (mqR1 hb) rfl (by omega) (Nat.le_of_ble_eq_true rfl) ?_
      refine gq_icmp_geT (tgt := 70) hX dX5_blows_11 rfl (cT (hw2T j) (by omega) (by omega)) ?_
      have ej : no = j := by omega
      subst ej
      refine gq_iload_n hX dX5_blows_70 rfl rfl rfl ?_
      exact gq_iret hX hQ dX5_blows_71 rfl ⟨rfl, rfl⟩
    | succ n ih =>
      intro j hj z
      refine gq_iload_n hX dX5_blows_4 rfl rfl rfl ?_
      refine gq_aload_n hX dX5_blows_5 rfl rfl rfl ?_
      refine gq_getf hX dX5_blows_6 rfl fX5_7 (mqR0 hb) rfl ?_
      refine gq_iconst (v := nI 2) hX dX5_blows_9 rfl (by decide) ?_
      refine gq_ialdN hX dX5_blows_10 rfl (mqR1 hb) rfl (by omega) (Nat.le_of_ble_eq_true rfl) ?_
      refine gq_icmp_geF (tgt := 70) hX dX5_blows_11 rfl rfl (cF (hw2T j) (by omega) (by omega)) ?_
      obtain ⟨a, ha, hma⟩ := hmo j (by omega)
      have hmj : (gusS S nt j str).1.2 9 j = nI a := by rw [(hTw j).2.1]; exact hma
      have hcl : ((gusS S nt j str).1.2 9 j).toNatClampNeg = a := by rw [hmj]; exact nI_clamp (by omega)
      refine gq_aload_n hX dX5_blows_14 rfl rfl rfl ?_
      refine gq_iload_n hX dX5_blows_15 rfl rfl rfl ?_
      refine gq_iconst (v := nI 2) hX dX5_blows_16 rfl (by decide) ?_
      refine gq_callVe hX dX5_blows_17 rfl vX5_61 (mt_motion hb (c := j) (x := 2) (by omega) (by decide)) rfl (mqR0 hb) rfl rfl (Nat.le_of_ble_eq_true rfl) ⟨(Nat.le_of_ble_eq_true rfl), (Nat.le_of_ble_eq_true rfl)⟩ (Nat.zero_add _) (Nat.zero_add _) ?_
      rw [wM2 hnol (by omega), hmj]
      refine gq_istore hX dX5_blows_20 rfl (Nat.le_of_ble_eq_true rfl) rfl ?_
      refine gq_aload_n hX dX5_blows_22 rfl rfl rfl ?_
      refine gq_iload_n hX dX5_blows_23 rfl rfl rfl ?_
      refine gq_iconst (v := nI 5) hX dX5_blows_24 rfl (by decide) ?_
      refine gq_callVe hX dX5_blows_25 rfl vX5_61 (mt_motion hb (c := j) (x := 5) (by omega) (by decide)) rfl (mqR0 hb) rfl rfl (Nat.le_of_ble_eq_true rfl) ⟨(Nat.le_of_ble_eq_true rfl), (Nat.le_of_ble_eq_true rfl)⟩ (Nat.zero_add _) (Nat.zero_add _) ?_
      rw [wM5 hnol (by omega)]
      refine gq_iconst (v := nI 1) hX dX5_blows_28 rfl (by decide) ?_
      refine gq_icmp_eq (tgt := 64) hX dX5_blows_29 rfl rfl (fun c7 => ?_) (fun c7 => ?_)
      · refine gq_iinc hX dX5_blows_64 rfl rfl (inc1 _) (Nat.le_of_ble_eq_true rfl) rfl ?_
        refine gq_goto (tgt := 4) hX dX5_blows_67 rfl ?_
        have c7z : ¬ (gusS S nt j str).1.2 12 j = 0 := by rw [c7]; decide
        have h9 : gusS S nt (j + 1) str = gusS S nt j str := if_neg c7z
        exact gq_ls (by rw [h9]; rfl) rfl (by rw [h9]) (ih (j + 1) (by omega) _)
      · have c7z : (gusS S nt j str).1.2 12 j = 0 := ((bool_01 ((hnT j).2.2 j)).resolve_right c7).trans nI_0
        refine gq_aload_n hX dX5_blows_32 rfl rfl rfl ?_
        refine gq_iload hX dX5_blows_33 rfl rfl ?_
        refine gq_callVe hX dX5_blows_35 rfl vX5_104 (mt_flies hb (hwT j) (hnT j) ha) rfl (mqR0 hb) rfl rfl (Nat.le_of_ble_eq_true rfl) ⟨(Nat.le_of_ble_eq_true rfl), (Nat.le_of_ble_eq_true rfl)⟩ (Nat.zero_add _) (Nat.zero_add _) ?_
        refine gq_if_eq (tgt := 64) hX dX5_blows_38 rfl rfl (fun c8 => ?_) (fun c8 => ?_)
        · refine gq_iinc hX dX5_blows_64 rfl rfl (inc1 _) (Nat.le_of_ble_eq_true rfl) rfl ?_
          refine gq_goto (tgt := 4) hX dX5_blows_67 rfl ?_
          have c8p : (gusS S nt j str).1.2 3 ((gusS S nt j str).1.2 9 j).toNatClampNeg = 0 := by rw [hcl]; exact c8
          have h9 : gusS S nt (j + 1) str = gusS S nt j str := (if_pos c7z).trans (if_pos c8p)
          exact gq_ls (by rw [h9]; rfl) rfl (by rw [h9]) (ih (j + 1) (by omega) _)
        · have c8p : ¬ (gusS S nt j str).1.2 3 ((gusS S nt j str).1.2 9 j).toNatClampNeg = 0 := by rw [hcl]; exact c8
          refine gq_aload_n hX dX5_blows_41 rfl rfl rfl ?_
          refine gq_iload hX dX5_blows_42 rfl rfl ?_
          refine gq_callVe hX dX5_blows_44 rfl vX5_183 (mt_len hb (hwT j) _) rfl (mqR0 hb) rfl rfl (Nat.le_of_ble_eq_true rfl) ⟨(Nat.le_of_ble_eq_true rfl), (Nat.le_of_ble_eq_true rfl)⟩ (Nat.zero_add _) (Nat.zero_add _) ?_
          rw [hlT]
          refine gq_iload_n hX dX5_blows_47 rfl rfl rfl ?_
          refine gq_icmp_lt (tgt := 54) hX dX5_blows_48 rfl rfl (fun c9 => ?_) (fun c9 => ?_)
          · refine gq_aload_n hX dX5_blows_54 rfl rfl rfl ?_
            refine gq_iload_n hX dX5_blows_55 rfl rfl rfl ?_
            refine gq_iconst (v := nI 5) hX dX5_blows_56 rfl (by decide) ?_
            refine gq_iconst (v := nI 1) hX dX5_blows_57 rfl (by decide) ?_
            refine gq_callVe hX dX5_blows_58 rfl vX5_120 (mt_sets hb (c := j) (x := 5) (by omega) (by decide) _) rfl (mqR0 hb) rfl rfl (Nat.le_of_ble_eq_true rfl) ⟨(Nat.le_of_ble_eq_true rfl), (Nat.le_of_ble_eq_true rfl)⟩ (Nat.zero_add _) (Nat.zero_add _) ?_
            rw [wU_tb hnol (by omega)]
            refine gq_iinc hX dX5_blows_61 rfl rfl (incA _) (Nat.le_of_ble_eq_true rfl) rfl ?_
            refine gq_iinc hX dX5_blows_64 rfl rfl (inc1 _) (Nat.le_of_ble_eq_true rfl) rfl ?_
            refine gq_goto (tgt := 4) hX dX5_blows_67 rfl ?_
            have c9z : ¬ str ≤ lenB S nt ((gusS S nt j str).1.2 9 j) := by rw [hmj]; exact i32_le.mpr c9
            have h9 : gusS S nt (j + 1) str = (setA (gusS S nt j str).1 12 (upd ((gusS S nt j str).1.2 12) j (nI 1)), (gusS S nt j str).2 + nI 1) := (if_pos c7z).trans ((if_neg c8p).trans (if_neg c9z))
            exact gq_ls (by rw [h9]; rfl) rfl (by rw [h9]) (ih (j + 1) (by omega) _)
          · refine gq_goto (tgt := 64) hX dX5_blows_51 rfl ?_
            refine gq_iinc hX dX5_blows_64 rfl rfl (inc1 _) (Nat.le_of_ble_eq_true rfl) rfl ?_
            refine gq_goto (tgt := 4) hX dX5_blows_67 rfl ?_
            have c9z : str ≤ lenB S nt ((gusS S nt j str).1.2 9 j) := by rw [hmj]; exact i32_lt.mp c9
            have h9 : gusS S nt (j + 1) str = gusS S nt j str := (if_pos c7z).trans ((if_neg c8p).trans (if_pos c9z))
            exact gq_ls (by rw [h9]; rfl) rfl (by rw [h9]) (ih (j + 1) (by omega) _)
  exact loop no 0 (by omega) _

set_option maxRecDepth 100000 in
set_option maxHeartbeats 4000000 in
theorem mt_passOne {E : Ev} {b : Nat → Nat} {T : St} {M : Hp} (hb : Lay E 9 b) {S : St} {nc nt no : Nat} (hwf : Wf S nc nt no) (hn : Nar S) : Ct E mX5_passesOne [.ref (b 0)] (MdW E b T (wOf S nc nt no) M) (eqR (some (.int (hourS S nt nc).2)) (MdW E b T (wOf (hourS S nt nc).1 nc nt no) M)) 0 0 := by
  refine Ct.of gmX5_passesOne (ls := [.ref (b 0), hole, hole]) rfl rfl (Nat.le_of_ble_eq_true rfl) ?_
  intro X hX Q hQ
  have hwf2 := hwf
  obtain ⟨hnc, hncl, hnt, hntl, hno, hnol⟩ := hwf2
  have hw0 : wOf S nc nt no 0 = nI nc := hnc
  have hw1 : wOf S nc nt no 1 = nI nt := hnt
  have hw2 : wOf S nc nt no 2 = nI no := hno
  refine gq_iconst (v := nI 0) hX dX5_passesOne_0 rfl (by decide) ?_
  refine gq_istore_n hX dX5_passesOne_1 rfl rfl (Nat.le_of_ble_eq_true rfl) rfl ?_
  refine gq_iconst (v := nI 0) hX dX5_passesOne_2 rfl (by decide) ?_
  refine gq_istore_n hX dX5_passesOne_3 rfl rfl (Nat.le_of_ble_eq_true rfl) rfl ?_
  have hTw : ∀ i, Wf (chaS S nt i) nc nt no := fun i => chaS_wf hwf
  have hTl : ∀ i j, lenB (chaS S nt i) nt (nI j) = lenB S nt (nI j) := by
    intro i j
    have h5 : (chaS S nt i).2 5 = S.2 5 ∧ (chaS S nt i).2 4 = S.2 4 := it_inv (I := fun T : St => T.2 5 = S.2 5 ∧ T.2 4 = S.2 4) ⟨rfl, rfl⟩ (fun _ _ _ h => h)
    unfold lenB
    rw [h5.1, h5.2]
  have hw0T : ∀ i, wOf (chaS S nt i) nc nt no 0 = nI nc := fun i => (hTw i).1
  obtain ⟨S1, hS1⟩ : ∃ z, z = chaS S nt nc := ⟨_, rfl⟩
  have hwf1 : Wf S1 nc nt no := by rw [hS1]; exact chaS_wf hwf
  have hn1 : Nar S1 := by rw [hS1]; exact it_inv (I := Nar) hn (fun _ _ _ h => h)
  have hDw : ∀ i, Wf (debS S1 nt i).1 nc nt no := fun i => debS_wf hwf1
  have hw0D : ∀ i, wOf (debS S1 nt i).1 nc nt no 0 = nI nc := fun i => (hDw i).1
  have hDn : ∀ i, Nar (debS S1 nt i).1 := fun i => it_inv (I := fun s : St × Int32 => Nar s.1) hn1 (fun j s _ h => by
    split
    · exact h
    · split
      · exact h
      · exact nar_groS h)
  have loop2 : ∀ n j : Nat, j + n = nc → Gq E X mX5_passesOne Q 32 [.ref (b 0), .int (debS S1 nt j).2, .int (nI j)] [] (MdW E b T (wOf (debS S1 nt j).1 nc nt no) M) 0 0 := by
    intro n
    induction n with
    | zero =>
      intro j hj
      refine gq_iload_n hX dX5_passesOne_32 rfl rfl rfl ?_
      refine gq_aload_n hX dX5_passesOne_33 rfl rfl rfl ?_
      refine gq_getf hX dX5_passesOne_34 rfl fX5_7 (mqR0 hb) rfl ?_
      refine gq_iconst (v := nI 0) hX dX5_passesOne_37 rfl (by decide) ?_
      refine gq_ialdN hX dX5_passesOne_38 rfl (mqR1 hb) rfl (by omega) (Nat.le_of_ble_eq_true rfl) ?_
      refine gq_icmp_geT (tgt := 78) hX dX5_passesOne_39 rfl (cT (hw0D j) (by omega) (by omega)) ?_
      have ej : nc = j := by omega
      subst ej
      refine gq_aload_n hX dX5_passesOne_78 rfl rfl rfl ?_
      refine gq_getf hX dX5_passesOne_79 rfl fX5_7 (mqR0 hb) rfl ?_
      refine gq_iconst (v := nI 4) hX dX5_passesOne_82 rfl (by decide) ?_
      refine gq_dup2 hX dX5_passesOne_83 rfl rfl rfl ?_
      refine gq_ialdN hX dX5_passesOne_84 rfl (mqR1 hb) rfl (by omega) (Nat.le_of_ble_eq_true rfl) ?_
      rw [wS4]
      refine gq_iconst (v := nI 1) hX dX5_passesOne_85 rfl (by decide) ?_
      refine gq_iadd hX dX5_passesOne_86 rfl ?_
      refine gq_iastN hX dX5_passesOne_87 rfl (mqR1 hb) rfl (by omega) (Nat.le_of_ble_eq_true rfl) (hb.2 1 (by decide)) (mqW1 hb) ?_
      rw [wU_4]
      refine gq_iload_n hX dX5_passesOne_88 rfl rfl rfl ?_
      exact gq_iret hX hQ dX5_passesOne_89 rfl ⟨by rw [hS1]; rfl, by rw [hS1]; rfl⟩
    | succ n ih =>
      intro j hj
      refine gq_iload_n hX dX5_passesOne_32 rfl rfl rfl ?_
      refine gq_aload_n hX dX5_passesOne_33 rfl rfl rfl ?_
      refine gq_getf hX dX5_passesOne_34 rfl fX5_7 (mqR0 hb) rfl ?_
      refine gq_iconst (v := nI 0) hX dX5_passesOne_37 rfl (by decide) ?_
      refine gq_ialdN hX dX5_passesOne_38 rfl (mqR1 hb) rfl (by omega) (Nat.le_of_ble_eq_true rfl) ?_
      refine gq_icmp_geF (tgt := 78) hX dX5_passesOne_39 rfl rfl (cF (hw0D j) (by omega) (by omega)) ?_
      refine gq_aload_n hX dX5_passesOne_42 rfl rfl rfl ?_
      refine gq_iload_n hX dX5_passesOne_43 rfl rfl rfl ?_
      refine gq_callVe hX dX5_passesOne_44 rfl vX5_104 (mt_flies hb (hDw j) (hDn j) (by omega)) rfl (mqR0 hb) rfl rfl (Nat.le_of_ble_eq_true rfl) ⟨(Nat.le_of_ble_eq_true rfl), (Nat.le_of_ble_eq_true rfl)⟩ (Nat.zero_add _) (Nat.zero_add _) ?_
      refine gq_if_eq (tgt := 72) hX dX5_passesOne_47 rfl rfl (fun c8 => ?_) (fun c8 => ?_)
      · refine gq_iinc hX dX5_passesOne_72 rfl rfl (inc1 _) (Nat.le_of_ble_eq_true rfl) rfl ?_
        refine gq_goto (tgt := 32) hX dX5_passesOne_75 rfl ?_
        have h9 : debS S1 nt (j + 1) = debS S1 nt j := if_pos c8
        exact gq_ls (by rw [h9]; rfl) rfl (by rw [h9]) (ih (j + 1) (by omega))
      · refine gq_aload_n hX dX5_passesOne_50 rfl rfl rfl ?_
        refine gq_iload_n hX dX5_passesOne_51 rfl rfl rfl ?_
        refine gq_iconst (v := nI 1) hX dX5_passesOne_52 rfl (by decide) ?_
        refine gq_callVe hX dX5_passesOne_53 rfl vX5_65 (mt_of hb (c := j) (x := 1) (by omega) (by decide)) rfl (mqR0 hb) rfl rfl (Nat.le_of_ble_eq_true rfl) ⟨(Nat.le_of_ble_eq_true rfl), (Nat.le_of_ble_eq_true rfl)⟩ (Nat.zero_add _) (Nat.zero_add _) ?_
        rw [wC1 hncl (by omega)]
        refine gq_bipush (v := nI 30) hX dX5_passesOne_56 rfl (by decide) ?_
        refine gq_icmp_gt (tgt := 64) hX dX5_passesOne_58 rfl rfl (fun c9 => ?_) (fun c9 => ?_)
        · refine gq_aload_n hX dX5_passesOne_64 rfl rfl rfl ?_
          refine gq_iload_n hX dX5_passesOne_65 rfl rfl rfl ?_
          refine gq_callVe hX dX5_passesOne_66 rfl vX5_165 (mt_grounds hb (hDw j) (by omega)) rfl (mqR0 hb) rfl rfl (Nat.le_of_ble_eq_true rfl) ⟨(Nat.le_of_ble_eq_true rfl), (Nat.le_of_ble_eq_true rfl)⟩ (Nat.zero_add _) (Nat.zero_add _) ?_
          refine gq_iinc hX dX5_passesOne_69 rfl rfl (incA _) (Nat.le_of_ble_eq_true rfl) rfl ?_
          refine gq_iinc hX dX5_passesOne_72 rfl rfl (inc1 _) (Nat.le_of_ble_eq_true rfl) rfl ?_
          refine gq_goto (tgt := 32) hX dX5_passesOne_75 rfl ?_
          have h9 : debS S1 nt (j + 1) = (groS (debS S1 nt j).1 nt j, (debS S1 nt j).2 + nI 1) := (if_neg c8).trans (if_neg (i32_le.mpr c9))
          exact gq_ls (by rw [h9]; rfl) rfl (by rw [h9]) (ih (j + 1) (by omega))
        · refine gq_goto (tgt := 72) hX dX5_passesOne_61 rfl ?_
          refine gq_iinc hX dX5_passesOne_72 rfl rfl (inc1 _) (Nat.le_of_ble_eq_true rfl) rfl ?_
          refine gq_goto (tgt := 32) hX dX5_passesOne_75 rfl ?_
          have h9 : debS S1 nt (j + 1) = debS S1 nt j := (if_neg c8).trans (if_pos (i32_lt.mp c9))
          exact gq_ls (by rw [h9]; rfl) rfl (by rw [h9]) (ih (j + 1) (by omega))
  have loop : ∀ n j : Nat, j + n = nc → Gq E X mX5_passesOne Q 4 [.ref (b 0), .int (nI 0), .int (nI j)] [] (MdW E b T (wOf (chaS S nt j) nc nt no) M) 0 0 := by
    intro n
    induction n with
    | zero =>
      intro j hj
      refine gq_iload_n hX dX5_passesOne_4 rfl rfl rfl ?_
      refine gq_aload_n hX dX5_passesOne_5 rfl rfl rfl ?_
      refine gq_getf hX dX5_passesOne_6 rfl fX5_7 (mqR0 hb) rfl ?_
      refine gq_iconst (v := nI 0) hX dX5_passesOne_9 rfl (by decide) ?_
      refine gq_ialdN hX dX5_passesOne_10 rfl (mqR1 hb) rfl (by omega) (Nat.le_of_ble_eq_true rfl) ?_
      refine gq_icmp_geT (tgt := 30) hX dX5_passesOne_11 rfl (cT (hw0T j) (by omega) (by omega)) ?_
      have ej : nc = j := by omega
      subst ej
      refine gq_iconst (v := nI 0) hX dX5_passesOne_30 rfl (by decide) ?_
      refine gq_istore_n hX dX5_passesOne_31 rfl rfl (Nat.le_of_ble_eq_true rfl) rfl ?_
      refine gq_ls rfl rfl ?_ (loop2 nc 0 (by omega))
      rw [hS1]
      rfl
    | succ n ih =>
      intro j hj
      refine gq_iload_n hX dX5_passesOne_4 rfl rfl rfl ?_
      refine gq_aload_n hX dX5_passesOne_5 rfl rfl rfl ?_
      refine gq_getf hX dX5_passesOne_6 rfl fX5_7 (mqR0 hb) rfl ?_
      refine gq_iconst (v := nI 0) hX dX5_passesOne_9 rfl (by decide) ?_
      refine gq_ialdN hX dX5_passesOne_10 rfl (mqR1 hb) rfl (by omega) (Nat.le_of_ble_eq_true rfl) ?_
      refine gq_icmp_geF (tgt := 30) hX dX5_passesOne_11 rfl rfl (cF (hw0T j) (by omega) (by omega)) ?_
      refine gq_aload_n hX dX5_passesOne_14 rfl rfl rfl ?_
      refine gq_iload_n hX dX5_passesOne_15 rfl rfl rfl ?_
      refine gq_aload_n hX dX5_passesOne_16 rfl rfl rfl ?_
      refine gq_iload_n hX dX5_passesOne_17 rfl rfl rfl ?_
      refine gq_callVe hX dX5_passesOne_18 rfl vX5_183 (mt_len hb (hTw j) _) rfl (mqR0 hb) rfl rfl (Nat.le_of_ble_eq_true rfl) ⟨(Nat.le_of_ble_eq_true rfl), (Nat.le_of_ble_eq_true rfl)⟩ (Nat.zero_add _) (Nat.zero_add _) ?_
      rw [hTl]
      refine gq_callVe hX dX5_passesOne_21 rfl vX5_142 (mt_charges hb (hTw j) (by omega) _) rfl (mqR0 hb) rfl rfl (Nat.le_of_ble_eq_true rfl) ⟨(Nat.le_of_ble_eq_true rfl), (Nat.le_of_ble_eq_true rfl)⟩ (Nat.zero_add _) (Nat.zero_add _) ?_
      refine gq_iinc hX dX5_passesOne_24 rfl rfl (inc1 _) (Nat.le_of_ble_eq_true rfl) rfl ?_
      refine gq_goto (tgt := 4) hX dX5_passesOne_27 rfl ?_
      exact ih (j + 1) (by omega)
  exact loop nc 0 (by omega)

theorem hourS_nar {S : St} {nt nc : Nat} (hn : Nar S) : Nar (hourS S nt nc).1 := it_inv (I := fun s : St × Int32 => Nar s.1) (show Nar (chaS S nt nc) from it_inv (I := Nar) hn (fun _ _ _ h => h)) (fun j s _ h => by
  split
  · exact h
  · split
    · exact h
    · exact nar_groS h)
theorem pasS_nar {S : St} {nt nc h : Nat} (hn : Nar S) : Nar (pasS S nt nc h).1 := it_inv (I := fun s : St × Int32 => Nar s.1) hn (fun _ _ _ hs => hourS_nar hs)
theorem pasS_wf {S : St} {nc nt no h : Nat} (hwf : Wf S nc nt no) : Wf (pasS S nt nc h).1 nc nt no := it_inv (I := fun s : St × Int32 => Wf s.1 nc nt no) hwf (fun _ _ _ hs => hourS_wf hs)

set_option maxRecDepth 100000 in
set_option maxHeartbeats 4000000 in
theorem mt_passes {E : Ev} {b : Nat → Nat} {T : St} {M : Hp} (hb : Lay E 9 b) {S : St} {nc nt no : Nat} (hwf : Wf S nc nt no) (hn : Nar S) {h : Nat} (hh : h < 1000) : Ct E mX5_passes [.ref (b 0), .int (nI h)] (MdW E b T (wOf S nc nt no) M) (eqR (some (.int (pasS S nt nc h).2)) (MdW E b T (wOf (pasS S nt nc h).1 nc nt no) M)) 0 0 := by
  refine Ct.of gmX5_passes (ls := [.ref (b 0), .int (nI h), hole, hole]) rfl rfl (Nat.le_of_ble_eq_true rfl) ?_
  intro X hX Q hQ
  have hwf2 := hwf
  obtain ⟨hnc, hncl, hnt, hntl, hno, hnol⟩ := hwf2
  have hw0 : wOf S nc nt no 0 = nI nc := hnc
  have hw1 : wOf S nc nt no 1 = nI nt := hnt
  have hw2 : wOf S nc nt no 2 = nI no := hno
  refine gq_iconst (v := nI 0) hX dX5_passes_0 rfl (by decide) ?_
  refine gq_istore_n hX dX5_passes_1 rfl rfl (Nat.le_of_ble_eq_true rfl) rfl ?_
  refine gq_iconst (v := nI 0) hX dX5_passes_2 rfl (by decide) ?_
  refine gq_istore_n hX dX5_passes_3 rfl rfl (Nat.le_of_ble_eq_true rfl) rfl ?_
  have loop : ∀ n j : Nat, j + n = h → Gq E X mX5_passes Q 4 [.ref (b 0), .int (nI h), .int (pasS S nt nc j).2, .int (nI j)] [] (MdW E b T (wOf (pasS S nt nc j).1 nc nt no) M) 0 0 := by
    intro n
    induction n with
    | zero =>
      intro j hj
      refine gq_iload_n hX dX5_passes_4 rfl rfl rfl ?_
      refine gq_iload_n hX dX5_passes_5 rfl rfl rfl ?_
      refine gq_icmp_geT (tgt := 22) hX dX5_passes_6 rfl (cT (rfl : nI h = nI h) (by omega) (by omega)) ?_
      have ej : h = j := by omega
      subst ej
      refine gq_iload_n hX dX5_passes_22 rfl rfl rfl ?_
      exact gq_iret hX hQ dX5_passes_23 rfl ⟨rfl, rfl⟩
    | succ n ih =>
      intro j hj
      refine gq_iload_n hX dX5_passes_4 rfl rfl rfl ?_
      refine gq_iload_n hX dX5_passes_5 rfl rfl rfl ?_
      refine gq_icmp_geF (tgt := 22) hX dX5_passes_6 rfl rfl (cF (rfl : nI h = nI h) (by omega) (by omega)) ?_
      refine gq_iload_n hX dX5_passes_9 rfl rfl rfl ?_
      refine gq_aload_n hX dX5_passes_10 rfl rfl rfl ?_
      refine gq_callVe hX dX5_passes_11 rfl vX5_192 (mt_passOne hb (pasS_wf hwf) (pasS_nar hn)) rfl (mqR0 hb) rfl rfl (Nat.le_of_ble_eq_true rfl) ⟨(Nat.le_of_ble_eq_true rfl), (Nat.le_of_ble_eq_true rfl)⟩ (Nat.zero_add _) (Nat.zero_add _) ?_
      refine gq_iadd hX dX5_passes_14 rfl ?_
      refine gq_istore_n hX dX5_passes_15 rfl rfl (Nat.le_of_ble_eq_true rfl) rfl ?_
      refine gq_iinc hX dX5_passes_16 rfl rfl (inc1 _) (Nat.le_of_ble_eq_true rfl) rfl ?_
      refine gq_goto (tgt := 4) hX dX5_passes_19 rfl ?_
      exact gq_ls rfl rfl rfl (ih (j + 1) (by omega))
  exact loop h 0 (by omega)

