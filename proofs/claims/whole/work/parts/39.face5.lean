set_option maxHeartbeats 4000000 in
theorem cp_formOf {E : Ev} {M : Hp} {i : Nat} (hi : i < 13) : Ct E mX0_formOf [.int (nI i)] M (eqR (some (.ref (E.2.2.2.2.1 i))) M) 0 0 := by
  match i, hi with
  | 0, _ =>
    refine Ct.of gmX0_formOf (ls := [.int (nI 0)]) rfl rfl (Nat.le_of_ble_eq_true rfl) ?_
    intro X hX Q hQ
    refine gq_iload_n hX dX0_formOf_0 rfl rfl rfl ?_
    refine gq_tableIn (tgt := 64) (off := 63) hX dX0_formOf_1 (by decide) (by decide) (by decide +kernel) rfl ?_
    refine gq_ldcK hX (i := 0) rfl rfl dX0_formOf_64 rfl ?_
    exact gq_aret hX hQ dX0_formOf_66 rfl (Or.inl ⟨_, rfl⟩) ⟨rfl, rfl⟩
  | 1, _ =>
    refine Ct.of gmX0_formOf (ls := [.int (nI 1)]) rfl rfl (Nat.le_of_ble_eq_true rfl) ?_
    intro X hX Q hQ
    refine gq_iload_n hX dX0_formOf_0 rfl rfl rfl ?_
    refine gq_tableIn (tgt := 67) (off := 66) hX dX0_formOf_1 (by decide) (by decide) (by decide +kernel) rfl ?_
    refine gq_ldcK hX (i := 1) rfl rfl dX0_formOf_67 rfl ?_
    exact gq_aret hX hQ dX0_formOf_69 rfl (Or.inl ⟨_, rfl⟩) ⟨rfl, rfl⟩
  | 2, _ =>
    refine Ct.of gmX0_formOf (ls := [.int (nI 2)]) rfl rfl (Nat.le_of_ble_eq_true rfl) ?_
    intro X hX Q hQ
    refine gq_iload_n hX dX0_formOf_0 rfl rfl rfl ?_
    refine gq_tableIn (tgt := 70) (off := 69) hX dX0_formOf_1 (by decide) (by decide) (by decide +kernel) rfl ?_
    refine gq_ldcK hX (i := 2) rfl rfl dX0_formOf_70 rfl ?_
    exact gq_aret hX hQ dX0_formOf_72 rfl (Or.inl ⟨_, rfl⟩) ⟨rfl, rfl⟩
  | 3, _ =>
    refine Ct.of gmX0_formOf (ls := [.int (nI 3)]) rfl rfl (Nat.le_of_ble_eq_true rfl) ?_
    intro X hX Q hQ
    refine gq_iload_n hX dX0_formOf_0 rfl rfl rfl ?_
    refine gq_tableIn (tgt := 73) (off := 72) hX dX0_formOf_1 (by decide) (by decide) (by decide +kernel) rfl ?_
    refine gq_ldcK hX (i := 3) rfl rfl dX0_formOf_73 rfl ?_
    exact gq_aret hX hQ dX0_formOf_75 rfl (Or.inl ⟨_, rfl⟩) ⟨rfl, rfl⟩
  | 4, _ =>
    refine Ct.of gmX0_formOf (ls := [.int (nI 4)]) rfl rfl (Nat.le_of_ble_eq_true rfl) ?_
    intro X hX Q hQ
    refine gq_iload_n hX dX0_formOf_0 rfl rfl rfl ?_
    refine gq_tableIn (tgt := 76) (off := 75) hX dX0_formOf_1 (by decide) (by decide) (by decide +kernel) rfl ?_
    refine gq_ldcK hX (i := 4) rfl rfl dX0_formOf_76 rfl ?_
    exact gq_aret hX hQ dX0_formOf_78 rfl (Or.inl ⟨_, rfl⟩) ⟨rfl, rfl⟩
  | 5, _ =>
    refine Ct.of gmX0_formOf (ls := [.int (nI 5)]) rfl rfl (Nat.le_of_ble_eq_true rfl) ?_
    intro X hX Q hQ
    refine gq_iload_n hX dX0_formOf_0 rfl rfl rfl ?_
    refine gq_tableIn (tgt := 79) (off := 78) hX dX0_formOf_1 (by decide) (by decide) (by decide +kernel) rfl ?_
    refine gq_ldcK hX (i := 5) rfl rfl dX0_formOf_79 rfl ?_
    exact gq_aret hX hQ dX0_formOf_81 rfl (Or.inl ⟨_, rfl⟩) ⟨rfl, rfl⟩
  | 6, _ =>
    refine Ct.of gmX0_formOf (ls := [.int (nI 6)]) rfl rfl (Nat.le_of_ble_eq_true rfl) ?_
    intro X hX Q hQ
    refine gq_iload_n hX dX0_formOf_0 rfl rfl rfl ?_
    refine gq_tableIn (tgt := 82) (off := 81) hX dX0_formOf_1 (by decide) (by decide) (by decide +kernel) rfl ?_
    refine gq_ldcK hX (i := 6) rfl rfl dX0_formOf_82 rfl ?_
    exact gq_aret hX hQ dX0_formOf_84 rfl (Or.inl ⟨_, rfl⟩) ⟨rfl, rfl⟩
  | 7, _ =>
    refine Ct.of gmX0_formOf (ls := [.int (nI 7)]) rfl rfl (Nat.le_of_ble_eq_true rfl) ?_
    intro X hX Q hQ
    refine gq_iload_n hX dX0_formOf_0 rfl rfl rfl ?_
    refine gq_tableIn (tgt := 85) (off := 84) hX dX0_formOf_1 (by decide) (by decide) (by decide +kernel) rfl ?_
    refine gq_ldcK hX (i := 7) rfl rfl dX0_formOf_85 rfl ?_
    exact gq_aret hX hQ dX0_formOf_87 rfl (Or.inl ⟨_, rfl⟩) ⟨rfl, rfl⟩
  | 8, _ =>
    refine Ct.of gmX0_formOf (ls := [.int (nI 8)]) rfl rfl (Nat.le_of_ble_eq_true rfl) ?_
    intro X hX Q hQ
    refine gq_iload_n hX dX0_formOf_0 rfl rfl rfl ?_
    refine gq_tableIn (tgt := 88) (off := 87) hX dX0_formOf_1 (by decide) (by decide) (by decide +kernel) rfl ?_
    refine gq_ldcK hX (i := 8) rfl rfl dX0_formOf_88 rfl ?_
    exact gq_aret hX hQ dX0_formOf_90 rfl (Or.inl ⟨_, rfl⟩) ⟨rfl, rfl⟩
  | 9, _ =>
    refine Ct.of gmX0_formOf (ls := [.int (nI 9)]) rfl rfl (Nat.le_of_ble_eq_true rfl) ?_
    intro X hX Q hQ
    refine gq_iload_n hX dX0_formOf_0 rfl rfl rfl ?_
    refine gq_tableIn (tgt := 91) (off := 90) hX dX0_formOf_1 (by decide) (by decide) (by decide +kernel) rfl ?_
    refine gq_ldcK hX (i := 9) rfl rfl dX0_formOf_91 rfl ?_
    exact gq_aret hX hQ dX0_formOf_93 rfl (Or.inl ⟨_, rfl⟩) ⟨rfl, rfl⟩
  | 10, _ =>
    refine Ct.of gmX0_formOf (ls := [.int (nI 10)]) rfl rfl (Nat.le_of_ble_eq_true rfl) ?_
    intro X hX Q hQ
    refine gq_iload_n hX dX0_formOf_0 rfl rfl rfl ?_
    refine gq_tableIn (tgt := 94) (off := 93) hX dX0_formOf_1 (by decide) (by decide) (by decide +kernel) rfl ?_
    refine gq_ldcK hX (i := 10) rfl rfl dX0_formOf_94 rfl ?_
    exact gq_aret hX hQ dX0_formOf_96 rfl (Or.inl ⟨_, rfl⟩) ⟨rfl, rfl⟩
  | 11, _ =>
    refine Ct.of gmX0_formOf (ls := [.int (nI 11)]) rfl rfl (Nat.le_of_ble_eq_true rfl) ?_
    intro X hX Q hQ
    refine gq_iload_n hX dX0_formOf_0 rfl rfl rfl ?_
    refine gq_tableIn (tgt := 97) (off := 96) hX dX0_formOf_1 (by decide) (by decide) (by decide +kernel) rfl ?_
    refine gq_ldcK hX (i := 11) rfl rfl dX0_formOf_97 rfl ?_
    exact gq_aret hX hQ dX0_formOf_99 rfl (Or.inl ⟨_, rfl⟩) ⟨rfl, rfl⟩
  | 12, _ =>
    refine Ct.of gmX0_formOf (ls := [.int (nI 12)]) rfl rfl (Nat.le_of_ble_eq_true rfl) ?_
    intro X hX Q hQ
    refine gq_iload_n hX dX0_formOf_0 rfl rfl rfl ?_
    refine gq_tableOut (tgt := 100) hX dX0_formOf_1 (by decide) rfl ?_
    refine gq_ldcK hX (i := 12) rfl rfl dX0_formOf_100 rfl ?_
    exact gq_aret hX hQ dX0_formOf_102 rfl (Or.inl ⟨_, rfl⟩) ⟨rfl, rfl⟩
  | n + 13, h => exact absurd h (by omega)

/-- what reading a form leaves -/
def FmP (E : Ev) (b : Nat → Nat) (K : Kt) (kd pm : Nat → Int32) (cnt : Nat) (res : Rs) : Option Value → Hp → Prop := fun r M1 => r = some (.int (if res.1 = true then nI 1 else nI 0)) ∧ ∃ pm', Wd E b (rdK K res.2.1 kd pm') M1 ∧ (∀ q, q < 2 * cnt → pm' q = pm q) ∧ (res.1 = true → ∀ q, q < res.2.2.length → pm' (2 * cnt + q) = nI (res.2.2.getD q 0))
theorem frmL_le {i : Nat} (hi : i < 13) : frmL.getD i 0 ≤ 11 := by
  have : ∀ i : Fin 13, frmL.getD i.1 0 ≤ 11 := by decide +kernel
  exact this ⟨i, hi⟩
theorem cntP_i {i : Nat} (hi : i < 13) : cntP (frmN i) (frmL.getD i 0) 0 ≤ 2 := by
  have : ∀ i : Fin 13, cntP (frmN i.1) (frmL.getD i.1 0) 0 ≤ 2 := by decide +kernel
  exact this ⟨i, hi⟩
theorem getD_ap1 {x : List Nat} {v q : Nat} (h : q < x.length) : (x ++ [v]).getD q 0 = x.getD q 0 := by
  rw [List.getD_eq_getElem?_getD, List.getD_eq_getElem?_getD, List.getElem?_append_left h]
theorem getD_ap2 {x : List Nat} {v : Nat} : (x ++ [v]).getD x.length 0 = v := by
  rw [List.getD_eq_getElem?_getD, List.getElem?_append_right (Nat.le_refl _), Nat.sub_self]
  rfl
set_option maxRecDepth 100000 in
set_option maxHeartbeats 4000000 in
theorem cp_form {E : Ev} {b : Nat → Nat} {K : Kt} {M : Hp} (hb : Lay E 162 b) {a : Nat} {kd pm : Nat → Int32} (hW : Wd E b (rdK K a kd pm) M) (hl : (K.2.2.2.1 0).2 ≤ 60) {i cnt : Nat} (hi : i < 13) (ha : a ≤ (K.2.2.2.1 0).2) (hcnt : K.1 6 = nI cnt) (hc60 : cnt < 60) : Ct E mX0_readForm [.ref (b 3), .ref (E.2.2.2.2.1 i)] M (FmP E b K kd pm cnt (fmR (K.2.2.2.1 0) i a)) 0 0 := by
  refine Ct.of gmX0_readForm (ls := [.ref (b 3), .ref (E.2.2.2.2.1 i), hole, hole, hole]) rfl rfl (Nat.le_of_ble_eq_true rfl) ?_
  intro X hX Q hQ
  have hlf := frmL_le hi
  refine gq_iconst (v := nI 2) hX dX0_readForm_0 rfl (by decide) ?_
  refine gq_aload_n hX dX0_readForm_1 rfl rfl rfl ?_
  refine gq_getf hX dX0_readForm_2 rfl fX0_25 hW.c3 rfl ?_
  rw [show (rdK K a kd pm).1 6 = K.1 6 from rfl, hcnt]
  refine gq_imul hX dX0_readForm_5 rfl ?_
  rw [nI_m]
  refine gq_istore_n hX dX0_readForm_6 rfl rfl (Nat.le_of_ble_eq_true rfl) rfl ?_
  refine gq_iconst (v := nI 0) hX dX0_readForm_7 rfl (by decide) ?_
  refine gq_istore_n hX dX0_readForm_8 rfl rfl (Nat.le_of_ble_eq_true rfl) rfl ?_
  have lp : ∀ (k p a1 : Nat) (pre : List Nat) (pm1 : Nat → Int32) (M5 : Hp) (z4 : Value), p + k = frmL.getD i 0 → a1 ≤ (K.2.2.2.1 0).2 → pre.length + cntP (frmN i) k p ≤ 2 → Wd E b (rdK K a1 kd pm1) M5 → (∀ q, q < 2 * cnt → pm1 q = pm q) → (∀ q, q < pre.length → pm1 (2 * cnt + q) = nI (pre.getD q 0)) → fmR (K.2.2.2.1 0) i a = ((mG (K.2.2.2.1 0) (frmN i) k p a1).1, (mG (K.2.2.2.1 0) (frmN i) k p a1).2.1, pre ++ (mG (K.2.2.2.1 0) (frmN i) k p a1).2.2) →
      Gq E X mX0_readForm Q 9 [.ref (b 3), .ref (E.2.2.2.2.1 i), .int (nI (2 * cnt + pre.length)), .int (nI p), z4] [] M5 0 0 := by
    intro k
    induction k with
    | zero =>
      intro p a1 pre pm1 M5 z4 hp ha1 hc hW5 hq1 hq2 hr
      refine gq_iload_n hX dX0_readForm_9 rfl rfl rfl ?_
      refine gq_aload_n hX dX0_readForm_10 rfl rfl rfl ?_
      refine gq_callK (mc := 0) (ms := 0) (nc1 := 0) (ns1 := 0) hX dX0_readForm_11 vX0_92 (ct_kLen hi) rfl hi rfl rfl (Nat.le_of_ble_eq_true rfl) ⟨(Nat.le_of_ble_eq_true rfl), (Nat.le_of_ble_eq_true rfl)⟩ rfl rfl ?_
      rintro r M6 ⟨rfl, rfl⟩
      refine gq_icmp_geT (tgt := 83) hX dX0_readForm_14 rfl (nI_le (by omega) (by omega)) ?_
      refine gq_iconst (v := nI 1) hX dX0_readForm_83 rfl (by decide) ?_
      have hr2 : fmR (K.2.2.2.1 0) i a = (true, a1, pre) := by rw [hr, mG_0]; show (true, a1, pre ++ []) = _; rw [List.append_nil]
      refine gq_zret hX hQ dX0_readForm_84 rfl rfl ?_
      unfold FmP
      rw [hr2]
      exact ⟨rfl, pm1, hW5, hq1, fun _ => hq2⟩
    | succ k ih =>
      intro p a1 pre pm1 M5 z4 hp ha1 hc hW5 hq1 hq2 hr
      rw [cntP] at hc
      have hj : p < frmL.getD i 0 := by omega
      have hlt := (frm_lt hi hj).1
      refine gq_iload_n hX dX0_readForm_9 rfl rfl rfl ?_
      refine gq_aload_n hX dX0_readForm_10 rfl rfl rfl ?_
      refine gq_callK (mc := 0) (ms := 0) (nc1 := 0) (ns1 := 0) hX dX0_readForm_11 vX0_92 (ct_kLen hi) rfl hi rfl rfl (Nat.le_of_ble_eq_true rfl) ⟨(Nat.le_of_ble_eq_true rfl), (Nat.le_of_ble_eq_true rfl)⟩ rfl rfl ?_
      rintro r M6 ⟨rfl, rfl⟩
      refine gq_icmp_geF (tgt := 83) hX dX0_readForm_14 rfl rfl (nI_ge hj (by omega)) ?_
      refine gq_aload_n hX dX0_readForm_17 rfl rfl rfl ?_
      refine gq_iload_n hX dX0_readForm_18 rfl rfl rfl ?_
      refine gq_callK (mc := 0) (ms := 0) (nc1 := 0) (ns1 := 0) hX dX0_readForm_19 vX0_95 (ct_kCh hi hj) rfl hi rfl rfl (Nat.le_of_ble_eq_true rfl) ⟨(Nat.le_of_ble_eq_true rfl), (Nat.le_of_ble_eq_true rfl)⟩ rfl rfl ?_
      rintro r M6 ⟨rfl, rfl⟩
      refine gq_istore hX dX0_readForm_22 rfl (Nat.le_of_ble_eq_true rfl) rfl ?_
      refine gq_iload hX dX0_readForm_24 rfl rfl ?_
      refine gq_bipush (v := nI 57) hX dX0_readForm_26 rfl (by decide) ?_
      by_cases h57 : frmN i p = 57
      · refine gq_icmp_eqT (tgt := 38) hX dX0_readForm_28 rfl (congrArg nI h57) ?_
        refine gq_aload_n hX dX0_readForm_38 rfl rfl rfl ?_
        refine gq_iload hX dX0_readForm_39 rfl rfl ?_
        refine gq_bipush (v := nI 57) hX dX0_readForm_41 rfl (by decide) ?_
        refine gq_icmp_neF (tgt := 50) hX dX0_readForm_43 rfl rfl (congrArg nI h57) ?_
        refine gq_iconst (v := nI 1) hX dX0_readForm_46 rfl (by decide) ?_
        refine gq_goto (tgt := 51) hX dX0_readForm_47 rfl ?_
        refine gq_iload_n hX dX0_readForm_51 rfl rfl rfl ?_
        rw [if_pos h57] at hc
        have hdl := dgm_le (l := (K.2.2.2.1 0)) (a := a1) 1
        have hdn := dgm_n (l := (K.2.2.2.1 0)) 1 ha1
        refine gq_callVw hX dX0_readForm_52 rfl vX0_99 (cp_number hb hW5 hl (m := 1) (p := 2 * cnt + pre.length) (by omega) (by decide) (by omega)) rfl hW5.c3 rfl rfl (Nat.le_of_ble_eq_true rfl) ⟨(Nat.le_of_ble_eq_true rfl), (Nat.le_of_ble_eq_true rfl)⟩ (Nat.zero_add _) (Nat.zero_add _) ?_
        intro M7 hW7
        by_cases hd0 : dgm (K.2.2.2.1 0) a1 1 = 0
        · rw [if_pos hd0]
          refine gq_if_neF (tgt := 60) hX dX0_readForm_55 rfl rfl rfl ?_
          refine gq_iconst (v := nI 0) hX dX0_readForm_58 rfl (by decide) ?_
          have hr2 : (fmR (K.2.2.2.1 0) i a).1 = false ∧ (fmR (K.2.2.2.1 0) i a).2.1 = a1 := by rw [hr, mG_dn h57 hd0]; exact ⟨rfl, rfl⟩
          refine gq_zret hX hQ dX0_readForm_59 rfl rfl ?_
          unfold FmP
          rw [hr2.1, hr2.2]
          rw [hd0] at hW7
          exact ⟨rfl, _, hW7, fun q h => (upd_n _ (by omega)).trans (hq1 q h), fun h => by cases h⟩
        · rw [if_neg hd0]
          refine gq_if_neT (tgt := 60) hX dX0_readForm_55 rfl (by decide) ?_
          refine gq_iinc hX dX0_readForm_60 rfl rfl (inc1 _) (Nat.le_of_ble_eq_true rfl) rfl ?_
          refine gq_goto (tgt := 77) hX dX0_readForm_63 rfl ?_
          refine gq_iinc hX dX0_readForm_77 rfl rfl (inc1 _) (Nat.le_of_ble_eq_true rfl) rfl ?_
          refine gq_goto (tgt := 9) hX dX0_readForm_80 rfl ?_
          have hc2 : cntP (frmN i) k (p + 1) + 1 + pre.length ≤ 2 := by omega
          have hd1 : dgm (K.2.2.2.1 0) a1 1 = 1 := by omega
          have hv : valN (K.2.2.2.1 0) a1 (dgm (K.2.2.2.1 0) a1 1) = (K.2.2.2.1 0).1 a1 - 48 := by rw [hd1, valN_1]
          have hst := mG_dy (k := k) (p := p) h57 hd1 rfl (l := (K.2.2.2.1 0)) (f := frmN i)
          rw [hv, hd1] at hW7
          refine (fun h9 => ?_) (ih (p + 1) (a1 + 1) (pre ++ [((K.2.2.2.1 0).1 a1 - 48)]) (upd pm1 (2 * cnt + pre.length) (nI ((K.2.2.2.1 0).1 a1 - 48))) M7 (.int (nI (frmN i p))) (by omega) (by omega) (by rw [List.length_append]; show pre.length + 1 + _ ≤ 2; omega) hW7 (fun q h => (upd_n _ (by omega)).trans (hq1 q h)) (fun q h => ?_) (by rw [hr, hst]; show (_, _, pre ++ ((K.2.2.2.1 0).1 a1 - 48) :: _) = (_, _, (pre ++ [((K.2.2.2.1 0).1 a1 - 48)]) ++ _); rw [List.append_assoc]; rfl))
          · rw [List.length_append] at h9
            exact h9
          · rw [List.length_append] at h
            have h2 : q < pre.length + 1 := h
            by_cases e : q = pre.length
            · subst e
              rw [upd_s, getD_ap2]
            · rw [upd_n _ (by omega), getD_ap1 (by omega)]
              exact hq2 q (by omega)
      · refine gq_icmp_eqF (tgt := 38) hX dX0_readForm_28 rfl rfl (fun e => h57 ((nI_eq (by omega) (by decide)).mp e)) ?_
        refine gq_iload hX dX0_readForm_31 rfl rfl ?_
        refine gq_bipush (v := nI 35) hX dX0_readForm_33 rfl (by decide) ?_
        by_cases h35 : frmN i p = 35
        · refine gq_icmp_neF (tgt := 66) hX dX0_readForm_35 rfl rfl (congrArg nI h35) ?_
          refine gq_aload_n hX dX0_readForm_38 rfl rfl rfl ?_
          refine gq_iload hX dX0_readForm_39 rfl rfl ?_
          refine gq_bipush (v := nI 57) hX dX0_readForm_41 rfl (by decide) ?_
          refine gq_icmp_neT (tgt := 50) hX dX0_readForm_43 rfl (fun e => h57 ((nI_eq (by omega) (by decide)).mp e)) ?_
          refine gq_iconst (v := nI 3) hX dX0_readForm_50 rfl (by decide) ?_
          refine gq_iload_n hX dX0_readForm_51 rfl rfl rfl ?_
          rw [if_neg h57, if_pos h35] at hc
          have hdl := dgm_le (l := (K.2.2.2.1 0)) (a := a1) 3
          have hdn := dgm_n (l := (K.2.2.2.1 0)) 3 ha1
          refine gq_callVw hX dX0_readForm_52 rfl vX0_99 (cp_number hb hW5 hl (m := 3) (p := 2 * cnt + pre.length) (by omega) (by decide) (by omega)) rfl hW5.c3 rfl rfl (Nat.le_of_ble_eq_true rfl) ⟨(Nat.le_of_ble_eq_true rfl), (Nat.le_of_ble_eq_true rfl)⟩ (Nat.zero_add _) (Nat.zero_add _) ?_
          intro M7 hW7
          by_cases hd0 : dgm (K.2.2.2.1 0) a1 3 = 0
          · rw [if_pos hd0]
            refine gq_if_neF (tgt := 60) hX dX0_readForm_55 rfl rfl rfl ?_
            refine gq_iconst (v := nI 0) hX dX0_readForm_58 rfl (by decide) ?_
            have hr2 : (fmR (K.2.2.2.1 0) i a).1 = false ∧ (fmR (K.2.2.2.1 0) i a).2.1 = a1 := by rw [hr, mG_Dn h35 hd0]; exact ⟨rfl, rfl⟩
            refine gq_zret hX hQ dX0_readForm_59 rfl rfl ?_
            unfold FmP
            rw [hr2.1, hr2.2]
            rw [hd0] at hW7
            exact ⟨rfl, _, hW7, fun q h => (upd_n _ (by omega)).trans (hq1 q h), fun h => by cases h⟩
          · rw [if_neg hd0]
            refine gq_if_neT (tgt := 60) hX dX0_readForm_55 rfl (by decide) ?_
            refine gq_iinc hX dX0_readForm_60 rfl rfl (inc1 _) (Nat.le_of_ble_eq_true rfl) rfl ?_
            refine gq_goto (tgt := 77) hX dX0_readForm_63 rfl ?_
            refine gq_iinc hX dX0_readForm_77 rfl rfl (inc1 _) (Nat.le_of_ble_eq_true rfl) rfl ?_
            refine gq_goto (tgt := 9) hX dX0_readForm_80 rfl ?_
            have hc2 : cntP (frmN i) k (p + 1) + 1 + pre.length ≤ 2 := by omega
            have hst := mG_Dy (k := k) (p := p) h35 rfl hd0 rfl (l := (K.2.2.2.1 0)) (f := frmN i)
            refine (fun h9 => ?_) (ih (p + 1) (a1 + dgm (K.2.2.2.1 0) a1 3) (pre ++ [(valN (K.2.2.2.1 0) a1 (dgm (K.2.2.2.1 0) a1 3))]) (upd pm1 (2 * cnt + pre.length) (nI (valN (K.2.2.2.1 0) a1 (dgm (K.2.2.2.1 0) a1 3)))) M7 (.int (nI (frmN i p))) (by omega) (by omega) (by rw [List.length_append]; show pre.length + 1 + _ ≤ 2; omega) hW7 (fun q h => (upd_n _ (by omega)).trans (hq1 q h)) (fun q h => ?_) (by rw [hr, hst]; show (_, _, pre ++ (valN (K.2.2.2.1 0) a1 (dgm (K.2.2.2.1 0) a1 3)) :: _) = (_, _, (pre ++ [(valN (K.2.2.2.1 0) a1 (dgm (K.2.2.2.1 0) a1 3))]) ++ _); rw [List.append_assoc]; rfl))
            · rw [List.length_append] at h9
              exact h9
            · rw [List.length_append] at h
              have h2 : q < pre.length + 1 := h
              by_cases e : q = pre.length
              · subst e
                rw [upd_s, getD_ap2]
              · rw [upd_n _ (by omega), getD_ap1 (by omega)]
                exact hq2 q (by omega)
        · refine gq_icmp_neT (tgt := 66) hX dX0_readForm_35 rfl (fun e => h35 ((nI_eq (by omega) (by decide)).mp e)) ?_
          refine gq_aload_n hX dX0_readForm_66 rfl rfl rfl ?_
          refine gq_iload hX dX0_readForm_67 rfl rfl ?_
          rcases Bool.eq_false_or_eq_true (nx (K.2.2.2.1 0) a1 (frmN i p)) with hx | hx
          · refine gq_callVw hX dX0_readForm_69 rfl vX0_74 (cp_sign_y hb hW5 hl hx) rfl hW5.c3 rfl rfl (Nat.le_of_ble_eq_true rfl) ⟨(Nat.le_of_ble_eq_true rfl), (Nat.le_of_ble_eq_true rfl)⟩ (Nat.zero_add _) (Nat.zero_add _) ?_
            intro M7 hW7
            have hx2 := nx_lt hx
            refine gq_if_neT (tgt := 77) hX dX0_readForm_72 rfl (by decide) ?_
            refine gq_iinc hX dX0_readForm_77 rfl rfl (inc1 _) (Nat.le_of_ble_eq_true rfl) rfl ?_
            refine gq_goto (tgt := 9) hX dX0_readForm_80 rfl ?_
            exact ih (p + 1) (a1 + 1) pre pm1 M7 (.int (nI (frmN i p))) (by omega) (by omega) (by rw [if_neg h57, if_neg h35] at hc; omega) hW7 hq1 hq2 (by rw [hr, mG_y rfl h57 h35 hx])
          · refine gq_callVw hX dX0_readForm_69 rfl vX0_74 (cp_sign_n hb hW5 hl hlt (by omega) hx) rfl hW5.c3 rfl rfl (Nat.le_of_ble_eq_true rfl) ⟨(Nat.le_of_ble_eq_true rfl), (Nat.le_of_ble_eq_true rfl)⟩ (Nat.zero_add _) (Nat.zero_add _) ?_
            intro M7 hW7
            refine gq_if_neF (tgt := 77) hX dX0_readForm_72 rfl rfl rfl ?_
            refine gq_iconst (v := nI 0) hX dX0_readForm_75 rfl (by decide) ?_
            have hr2 : (fmR (K.2.2.2.1 0) i a).1 = false ∧ (fmR (K.2.2.2.1 0) i a).2.1 = a1 := by rw [hr, mG_n rfl h57 h35 hx]; exact ⟨rfl, rfl⟩
            refine gq_zret hX hQ dX0_readForm_76 rfl rfl ?_
            unfold FmP
            rw [hr2.1, hr2.2]
            exact ⟨rfl, pm1, hW7, hq1, fun h => by cases h⟩
  exact lp (frmL.getD i 0) 0 a [] pm M hole (by omega) ha (by rw [List.length_nil, Nat.zero_add]; exact cntP_i hi) hW (fun _ _ => rfl) (fun q h => absurd h (Nat.not_lt_zero q)) rfl

