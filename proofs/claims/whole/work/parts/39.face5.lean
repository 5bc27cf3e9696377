set_option maxHeartbeats 4000000 in
theorem cp_formOf {E : Ev} {M : Hp} {i : Nat} (hi : i < 13) : Ct E mX0_formOf [.int (nI i)] M (eqR (some (.ref (E.2.2.2.2.1 i))) M) 0 0 := by
  match i, hi with
  | 0, _ =>
    refine Ct.of gmX0_formOf (ls := [.int (nI 0)]) rfl rfl (Nat.le_of_ble_eq_true rfl) ?_
    intro X hX Q hQ
    refine gq_iload_n hX dX0_formOf_0 rfl rfl rfl ?_
    refine gq_tableIn (tgt := 64) (off := 63) hX dX0_formOf_1 (by decide) (by decide) (by decide +kernel) rfl ?_
    refine gq_ldcK hX (i := 0) rfl rfl dX0_formOf_64 rfl ?_
    exact gq_aret hX hQ dX0_formOf_66 rfl (Or.inl ⟨_, rfl⟩) ⟨rfl, rfl⟩
  | 1, _ =>
    refine Ct.of gmX0_formOf (ls := [.int (nI 1)]) rfl rfl (Nat.le_of_ble_eq_true rfl) ?_
    intro X hX Q hQ
    refine gq_iload_n hX dX0_formOf_0 rfl rfl rfl ?_
    refine gq_tableIn (tgt := 67) (off := 66) hX dX0_formOf_1 (by decide) (by decide) (by decide +kernel) rfl ?_
    refine gq_ldcK hX (i := 1) rfl rfl dX0_formOf_67 rfl ?_
    exact gq_aret hX hQ dX0_formOf_69 rfl (Or.inl ⟨_, rfl⟩) ⟨rfl, rfl⟩
  | 2, _ =>
    refine Ct.of gmX0_formOf (ls := [.int (nI 2)]) rfl rfl (Nat.le_of_ble_eq_true rfl) ?_
    intro X hX Q hQ
    refine gq_iload_n hX dX0_formOf_0 rfl rfl rfl ?_
    refine gq_tableIn (tgt := 70) (off := 69) hX dX0_formOf_1 (by decide) (by decide) (by decide +kernel) rfl ?_
    refine gq_ldcK hX (i := 2) rfl rfl dX0_formOf_70 rfl ?_
    exact gq_aret hX hQ dX0_formOf_72 rfl (Or.inl ⟨_, rfl⟩) ⟨rfl, rfl⟩
  | 3, _ =>
    refine Ct.of gmX0_formOf (ls := [.int (nI 3)]) rfl rfl (Nat.le_of_ble_eq_true rfl) ?_
    intro X hX Q hQ
    refine gq_iload_n hX dX0_formOf_0 rfl rfl rfl ?_
    refine gq_tableIn (tgt := 73) (off := 72) hX dX0_formOf_1 (by decide) (by decide) (by decide +kernel) rfl ?_
    refine gq_ldcK hX (i := 3) rfl rfl dX0_formOf_73 rfl ?_
    exact gq_aret hX hQ dX0_formOf_75 rfl (Or.inl ⟨_, rfl⟩) ⟨rfl, rfl⟩
  | 4, _ =>
    refine Ct.of gmX0_formOf (ls := [.int (nI 4)]) rfl rfl (Nat.le_of_ble_eq_true rfl) ?_
    intro X hX Q hQ
    refine gq_iload_n hX dX0_formOf_0 rfl rfl rfl ?_
    refine gq_tableIn (tgt := 76) (off := 75) hX dX0_formOf_1 (by decide) (by decide) (by decide +kernel) rfl ?_
    refine gq_ldcK hX (i := 4) rfl rfl dX0_formOf_76 rfl ?_
    exact gq_aret hX hQ dX0_formOf_78 rfl (Or.inl ⟨_, rfl⟩) ⟨rfl, rfl⟩
  | 5, _ =>
    refine Ct.of gmX0_formOf (ls := [.int (nI 5)]) rfl rfl (Nat.le_of_ble_eq_true rfl) ?_
    intro X hX Q hQ
    refine gq_iload_n hX dX0_formOf_0 rfl rfl rfl ?_
    refine gq_tableIn (tgt := 79) (off := 78) hX dX0_formOf_1 (by decide) (by decide) (by decide +kernel) rfl ?_
    refine gq_ldcK hX (i := 5) rfl rfl dX0_formOf_79 rfl ?_
    exact gq_aret hX hQ dX0_formOf_81 rfl (Or.inl ⟨_, rfl⟩) ⟨rfl, rfl⟩
  | 6, _ =>
    refine Ct.of gmX0_formOf (ls := [.int (nI 6)]) rfl rfl (Nat.le_of_ble_eq_true rfl) ?_
    intro X hX Q hQ
    refine gq_iload_n hX dX0_formOf_0 rfl rfl rfl ?_
    refine gq_tableIn (tgt := 82) (off := 81) hX dX0_formOf_1 (by decide) (by decide) (by decide +kernel) rfl ?_
    refine gq_ldcK hX (i := 6) rfl rfl dX0_formOf_82 rfl ?_
    exact gq_aret hX hQ dX0_formOf_84 rfl (Or.inl ⟨_, rfl⟩) ⟨rfl, rfl⟩
  | 7, _ =>
    refine Ct.of gmX0_formOf (ls := [.int (nI 7)]) rfl rfl (Nat.le_of_ble_eq_true rfl) ?_
    intro X hX Q hQ
    refine gq_iload_n hX dX0_formOf_0 rfl rfl rfl ?_
    refine gq_tableIn (tgt := 85) (off := 84) hX dX0_formOf_1 (by decide) (by decide) (by decide +kernel) rfl ?_
    refine gq_ldcK hX (i := 7) rfl rfl dX0_formOf_85 rfl ?_
    exact gq_aret hX hQ dX0_formOf_87 rfl (Or.inl ⟨_, rfl⟩) ⟨rfl, rfl⟩
  | 8, _ =>
    refine Ct.of gmX0_formOf (ls := [.int (nI 8)]) rfl rfl (Nat.le_of_ble_eq_true rfl) ?_
    intro X hX Q hQ
    refine gq_iload_n hX dX0_formOf_0 rfl rfl rfl ?_
    refine gq_tableIn (tgt := 88) (off := 87) hX dX0_formOf_1 (by decide) (by decide) (by decide +kernel) rfl ?_
    refine gq_ldcK hX (i := 8) rfl rfl dX0_formOf_88 rfl ?_
    exact gq_aret hX hQ dX0_formOf_90 rfl (Or.inl ⟨_, rfl⟩) ⟨rfl, rfl⟩
  | 9, _ =>
    refine Ct.of gmX0_formOf (ls := [.int (nI 9)]) rfl rfl (Nat.le_of_ble_eq_true rfl) ?_
    intro X hX Q hQ
    refine gq_iload_n hX dX0_formOf_0 rfl rfl rfl ?_
    refine gq_tableIn (tgt := 91) (off := 90) hX dX0_formOf_1 (by decide) (by decide) (by decide +kernel) rfl ?_
    refine gq_ldcK hX (i := 9) rfl rfl dX0_formOf_91 rfl ?_
    exact gq_aret hX hQ dX0_formOf_93 rfl (Or.inl ⟨_, rfl⟩) ⟨rfl, rfl⟩
  | 10, _ =>
    refine Ct.of gmX0_formOf (ls := [.int (nI 10)]) rfl rfl (Nat.le_of_ble_eq_true rfl) ?_
    intro X hX Q hQ
    refine gq_iload_n hX dX0_formOf_0 rfl rfl rfl ?_
    refine gq_tableIn (tgt := 94) (off := 93) hX dX0_formOf_1 (by decide) (by decide) (by decide +kernel) rfl ?_
    refine gq_ldcK hX (i := 10) rfl rfl dX0_formOf_94 rfl ?_
    exact gq_aret hX hQ dX0_formOf_96 rfl (Or.inl ⟨_, rfl⟩) ⟨rfl, rfl⟩
  | 11, _ =>
    refine Ct.of gmX0_formOf (ls := [.int (nI 11)]) rfl rfl (Nat.le_of_ble_eq_true rfl) ?_
    intro X hX Q hQ
    refine gq_iload_n hX dX0_formOf_0 rfl rfl rfl ?_
    refine gq_tableIn (tgt := 97) (off := 96) hX dX0_formOf_1 (by decide) (by decide) (by decide +kernel) rfl ?_
    refine gq_ldcK hX (i := 11) rfl rfl dX0_formOf_97 rfl ?_
    exact gq_aret hX hQ dX0_formOf_99 rfl (Or.inl ⟨_, rfl⟩) ⟨rfl, rfl⟩
  | 12, _ =>
    refine Ct.of gmX0_formOf (ls := [.int (nI 12)]) rfl rfl (Nat.le_of_ble_eq_true rfl) ?_
    intro X hX Q hQ
    refine gq_iload_n hX dX0_formOf_0 rfl rfl rfl ?_
    refine gq_tableOut (tgt := 100) hX dX0_formOf_1 (by decide) rfl ?_
    refine gq_ldcK hX (i := 12) rfl rfl dX0_formOf_100 rfl ?_
    exact gq_aret hX hQ dX0_formOf_102 rfl (Or.inl ⟨_, rfl⟩) ⟨rfl, rfl⟩
  | n + 13, h => exact absurd h (by omega)

/-- what reading a form leaves -/
def FmP (E : Ev) (b : Nat → Nat) (K : Kt) (kd pm : Nat → Int32) (cnt : Nat) (res : Rs) : Option Value → Hp → Prop := fun r M1 => r = some (.int (if res.1 = true then nI 1 else nI 0)) ∧ ∃ pm', Wd E b (rdK K res.2.1 kd pm') M1 ∧ (∀ q, q < 2 * cnt → pm' q = pm q) ∧ (res.1 = true → ∀ q, q < res.2.2.length → pm' (2 * cnt + q) = nI (res.2.2.getD q 0))
theorem frmL_le {i : Nat} (hi : i < 13) : frmL.getD i 0 ≤ 11 := by
  have : ∀ i : Fin 13, frmL.getD i.1 0 ≤ 11 := by decide +kernel
  exact this ⟨i, hi⟩
theorem cntP_i {i : Nat} (hi : i < 13) : cntP (frmN i) (frmL.getD i 0) 0 ≤ 2 := by
  have : ∀ i : Fin 13, cntP (frmN i.1) (frmL.getD i.1 0) 0 ≤ 2 := by decide +kernel
  exact this ⟨i, hi⟩
theorem getD_ap1 {x : List Nat} {v q : Nat} (h : q < x.length) : (x ++ [v]).getD q 0 = x.getD q 0 := by
  rw [List.getD_eq_getElem?_getD, List.getD_eq_getElem?_getD, List.getElem?_append_left h]
theorem getD_ap2 {x : List Nat} {v : Nat} : (x ++ [v]).getD x.length 0 = v := by
  rw [List.getD_eq_getElem?_getD, List.getElem?_append_right (Nat.le_refl _), Nat.sub_self]
  rfl
set_option maxRecDepth 100000 in
set_option maxHeartbeats 4000000 in
theorem cp_form {E : Ev} {b : Nat → Nat} {K : Kt} {M : Hp} (hb : Lay E 162 b) {a : Nat} {kd pm : Nat → Int32} (hW : Wd E b (rdK K a kd pm) M) (hl : (K.2.2.2.1 0).2 ≤ 60) {i cnt : Nat} (hi : i < 13) (ha : a ≤ (K.2.2.2.1 0).2) (hcnt : K.1 6 = nI cnt) (hc60 : cnt < 60) : Ct E mX0_readForm [.ref (b 3), .ref (E.2.2.2.2.1 i)] M (FmP E b K kd pm cnt (fmR (K.2.2.2.1 0) i a)) 0 0 := by
  refine Ct.of gmX0_readForm (ls := [.ref (b 3), .ref (E.2.2.2.2.1 i), hole, hole, hole]) rfl rfl (Nat.le_of_ble_eq_true rfl) ?_
  intro X hX Q hQ
  have hlf := frmL_le hi
  refine gq_iconst (v := nI 2) hX dX0_readForm_0 rfl (by decide) ?_
  refine gq_aload_n hX dX0_readForm_1 rfl rfl rfl ?_
  refine gq_getf hX dX0_readForm_2 rfl fX0_25 hW.c3 rfl ?_
  rw [show (rdK K a kd pm).1 6 = K.1 6 from rfl, hcnt]
  refine gq_imul hX dX0_readForm_5 rfl ?_
  rw [nI_m]
  refine gq_istore_n hX dX0_readForm_6 rfl rfl (Nat.le_of_ble_eq_true rfl) rfl ?_
  refine gq_iconst (v := nI 0) hX dX0_readForm_7 rfl (by decide) ?_
  refine gq_istore_n hX dX0_readForm_8 rfl rfl (Nat.le_of_ble_eq_true rfl) rfl ?_
  have lp : ∀ (k p a1 : Nat) (pre : List Nat) (pm1 : Nat → Int32) (M5 : Hp) (z4 : Value), p + k = frmL.getD i 0 → a1 ≤ (K.2.2.2.1 0).2 → pre.length + cntP (frmN i) k p ≤ 2 → Wd E b (rdK K a1 kd pm1) M5 → (∀ q, q < 2 * cnt → pm1 q = pm q) → (∀ q, q < pre.length → pm1 (2 * cnt + q) = nI (pre.getD q 0)) → fmR (K.2.2.2.1 0) i a = ((mG (K.2.2.2.1 0) (frmN i) k p a1).1, (mG (K.2.2.2.1 0) (frmN i) k p a1).2.1, pre ++ (mG (K.2.2.2.1 0) (frmN i) k p a1).2.2) →
      Gq E X mX0_readForm Q 9 [.ref (b 3), .ref (E.2.2.2.2.1 i), .int (nI (2 * cnt + pre.length)), .int (nI p), z4] [] M5 0 0 := by
    intro k
    induction k with
    | zero =>
      intro p a1 pre pm1 M5 z4 hp ha1 hc hW5 hq1 hq2 hr
      refine gq_iload_n hX dX0_readForm_9 rfl rfl rfl ?_
      refine gq_aload_n hX dX0_readForm_10 rfl rfl rfl ?_
      refine gq_callK (mc := 0) (ms := 0) (nc1 := 0) (ns1 := 0) hX dX0_readForm_11 vX0_92 (ct_kLen hi) rfl hi rfl rfl (Nat.le_of_ble_eq_true rfl) ⟨(Nat.le_of_ble_eq_true rfl), (Nat.le_of_ble_eq_true rfl)⟩ rfl rfl ?_
      rintro r M6 ⟨rfl, rfl⟩
      refine gq_icmp_geT (tgt := 83) hX dX0_readForm_14 rfl (nI_le (by omega) (by omega)) ?_
      refine gq_iconst (v := nI 1) hX dX0_readForm_83 rfl (by decide) ?_
      have hr2 : fmR (K.2.2.2.1 0) i a = (true, a1, pre) := by rw [hr, mG_0]; show (true, a1, pre ++ []) = _; rw [List.append_nil]
      refine gq_zret hX hQ dX0_readForm_84 rfl rfl ?_
      unfold FmP
      rw [hr2]
      exact ⟨rfl, pm1, hW5, hq1, fun _ => hq2⟩
    | succ k ih =>
      intro p a1 pre pm1 M5 z4 hp ha1 hc hW5 hq1 hq2 hr
      rw [cntP] at hc
      have hj : p < frmL.getD i 0 := by omega
      have hlt := (frm_lt hi hj).1
      refine gq_iload_n hX dX0_readForm_9 rfl rfl rfl ?_
      refine gq_aload_n hX dX0_readForm_10 rfl rfl rfl ?_
      refine gq_callK (mc := 0) (ms := 0) (nc1 := 0) (ns1 := 0) hX dX0_readForm_11 vX0_92 (ct_kLen hi) rfl hi rfl rfl (Nat.le_of_ble_eq_true rfl) ⟨(Nat.le_of_ble_eq_true rfl), (Nat.le_of_ble_eq_true rfl)⟩ rfl rfl ?_
      rintro r M6 ⟨rfl, rfl⟩
      refine gq_icmp_geF (tgt := 83) hX dX0_readForm_14 rfl rfl (nI_ge hj (by omega)) ?_
      refine gq_aload_n hX dX0_readForm_17 rfl rfl rfl ?_
      refine gq_iload_n hX dX0_readForm_18 rfl rfl rfl ?_
      refine gq_callK (mc := 0) (ms := 0) (nc1 := 0) (ns1 := 0) hX dX0_readForm_19 vX0_95 (ct_kCh hi hj) rfl hi rfl rfl (Nat.le_of_ble_eq_true rfl) ⟨(Nat.le_of_ble_eq_true rfl), (Nat.le_of_ble_eq_true rfl)⟩ rfl rfl ?_
      rintro r M6 ⟨rfl, rfl⟩
      refine gq_istore hX dX0_readForm_22 rfl (Nat.le_of_ble_eq_true rfl) rfl ?_
      refine gq_iload hX dX0_readForm_24 rfl rfl ?_
      refine gq_bipush (v := nI 57) hX dX0_readForm_26 rfl (by decide) ?_
      by_cases h57 : frmN i p = 57
      · refine gq_icmp_eqT (tgt := 38) hX dX0_readForm_28 rfl (congrArg nI h57) ?_
        refine gq_aload_n hX dX0_readForm_38 rfl rfl rfl ?_
        refine gq_iload hX dX0_readForm_39 rfl rfl ?_
        refine gq_bipush (v := nI 57) hX dX0_readForm_41 rfl (by decide) ?_
        refine gq_icmp_neF (tgt := 50) hX dX0_readForm_43 rfl rfl (congrArg nI h57) ?_
        refine gq_iconst (v := nI 1) hX dX0_readForm_46 rfl (by decide) ?_
        refine gq_goto (tgt := 51) hX dX0_readForm_47 rfl ?_
        refine gq_iload_n hX dX0_readForm_51 rfl rfl rfl ?_
        rw [if_pos h57] at hc
        have hdl := dgm_le (l := (K.2.2.2.1 0)) (a := a1) 1
        have hdn := dgm_n (l := (K.2.2.2.1 0)) 1 ha1
        refine gq_callVw hX dX0_readForm_52 rfl vX0_99 (cp_number hb hW5 hl (m := 1) (p := 2 * cnt + pre.length) (by omega) (by decide) (by omega)) rfl hW5.c3 rfl rfl (Nat.le_of_ble_eq_true rfl) ⟨(Nat.le_of_ble_eq_true rfl), (Nat.le_of_ble_eq_true rfl)⟩ (Nat.zero_add _) (Nat.zero_add _) ?_
        intro M7 hW7
        by_cases hd0 : dgm (K.2.2.2.1 0) a1 1 = 0
        · rw [if_pos hd0]
          refine gq_if_neF (tgt := 60) hX dX0_readForm_55 rfl rfl rfl ?_
          refine gq_iconst (v := nI 0) hX dX0_readForm_58 rfl (by decide) ?_
          have hr2 : (fmR (K.2.2.2.1 0) i a).1 = false ∧ (fmR (K.2.2.2.1 0) i a).2.1 = a1 := by rw [hr, mG_dn h57 hd0]; exact ⟨rfl, rfl⟩
          refine gq_zret hX hQ dX0_readForm_59 rfl rfl ?_
          unfold FmP
          rw [hr2.1, hr2.2]
          rw [hd0] at hW7
          exact ⟨rfl, _, hW7, fun q h => (upd_n _ (by omega)).trans (hq1 q h), fun h => by cases h⟩
        · rw [if_neg hd0]
          refine gq_if_neT (tgt := 60) hX dX0_readForm_55 rfl (by decide) ?_
          refine gq_iinc hX dX0_readForm_60 rfl rfl (inc1 _) (Nat.le_of_ble_eq_true rfl) rfl ?_
          refine gq_goto (tgt := 77) hX dX0_readForm_63 rfl ?_
          refine gq_iinc hX dX0_readForm_77 rfl rfl (inc1 _) (Nat.le_of_ble_eq_true rfl) rfl ?_
          refine gq_goto (tgt := 9) hX dX0_readForm_80 rfl ?_
          have hc2 : cntP (frmN i) k (p + 1) + 1 + pre.length ≤ 2 := by omega
          have hd1 : dgm (K.2.2.2.1 0) a1 1 = 1 := by omega
          have hv : valN (K.2.2.2.1 0) a1 (dgm (K.2.2.2.1 0) a1 1) = (K.2.2.2.1 0).1 a1 - 48 := by rw [hd1, valN_1]
          have hst := mG_dy (k := k) (p := p) h57 hd1 rfl (l := (K.2.2.2.1 0)) (f := frmN i)
          rw [hv, hd1] at hW7
          refine (fun h9 => ?_) (ih (p + 1) (a1 + 1) (pre ++ [((K.2.2.2.1 0).1 a1 - 48)]) (upd pm1 (2 * cnt + pre.length) (nI ((K.2.2.2.1 0).1 a1 - 48))) M7 (.int (nI (frmN i p))) (by omega) (by omega) (by rw [List.length_append]; show pre.length + 1 + _ ≤ 2; omega) hW7 (fun q h => (upd_n _ (by omega)).trans (hq1 q h)) (fun q h => ?_) (by rw [hr, hst]; show (_, _, pre ++ ((K.2.2.2.1 0).1 a1 - 48) :: _) = (_, _, (pre ++ [((K.2.2.2.1 0).1 a1 - 48)]) ++ _); rw [List.append_assoc]; rfl))
          · rw [List.length_append] at h9
            exact h9
          · rw [List.length_append] at h
            have h2 : q < pre.length + 1 := h
            by_cases e : q = pre.length
            · subst e
              rw [upd_s, getD_ap2]
            · rw [upd_n _ (by omega), getD_ap1 (by omega)]
              exact hq2 q (by omega)
      · refine gq_icmp_eqF (tgt := 38) hX dX0_readForm_28 rfl rfl (fun e => h57 ((nI_eq (by omega) (by decide)).mp e)) ?_
        refine gq_iload hX dX0_readForm_31 rfl rfl ?_
        refine gq_bipush (v := nI 35) hX dX0_readForm_33 rfl (by decide) ?_
        by_cases h35 : frmN i p = 35
        · refine gq_icmp_neF (tgt := 66) hX dX0_readForm_35 rfl rfl (congrArg nI h35) ?_
          refine gq_aload_n hX dX0_readForm_38 rfl rfl rfl ?_
          refine gq_iload hX dX0_readForm_39 rfl rfl ?_
          refine gq_bipush (v := nI 57) hX dX0_readForm_41 rfl (by decide) ?_
          refine gq_icmp_neT (tgt := 50) hX dX0_readForm_43 rfl (fun e => h57 ((nI_eq (by omega) (by decide)).mp e)) ?_
          refine gq_iconst (v := nI 3) hX dX0_readForm_50 rfl (by decide) ?_
          refine gq_iload_n hX dX0_readForm_51 rfl rfl rfl ?_
          rw [if_neg h57, if_pos h35] at hc
          have hdl := dgm_le (l := (K.2.2.2.1 0)) (a := a1) 3
          have hdn := dgm_n (l := (K.2.2.2.1 0)) 3 ha1
          refine gq_callVw hX dX0_readForm_52 rfl vX0_99 (cp_number hb hW5 hl (m := 3) (p := 2 * cnt + pre.length) (by omega) (by decide) (by omega)) rfl hW5.c3 rfl rfl (Nat.le_of_ble_eq_true rfl) ⟨(Nat.le_of_ble_eq_true rfl), (Nat.le_of_ble_eq_true rfl)⟩ (Nat.zero_add _) (Nat.zero_add _) ?_
          intro M7 hW7
          by_cases hd0 : dgm (K.2.2.2.1 0) a1 3 = 0
          · rw [if_pos hd0]
            refine gq_if_neF (tgt := 60) hX dX0_readForm_55 rfl rfl rfl ?_
            refine gq_iconst (v := nI 0) hX dX0_readForm_58 rfl (by decide) ?_
            have hr2 : (fmR (K.2.2.2.1 0) i a).1 = false ∧ (fmR (K.2.2.2.1 0) i a).2.1 = a1 := by rw [hr, mG_Dn h35 hd0]; exact ⟨rfl, rfl⟩
            refine gq_zret hX hQ dX0_readForm_59 rfl rfl ?_
            unfold FmP
            rw [hr2.1, hr2.2]
            rw [hd0] at hW7
            exact ⟨rfl, _, hW7, fun q h => (upd_n _ (by omega)).trans (hq1 q h), fun h => by cases h⟩
          · rw [if_neg hd0]
            refine gq_if_neT (tgt := 60) hX dX0_readForm_55 rfl (by decide) ?_
            refine gq_iinc hX dX0_readForm_60 rfl rfl (inc1 _) (Nat.le_of_ble_eq_true rfl) rfl ?_
            refine gq_goto (tgt := 77) hX dX0_readForm_63 rfl ?_
            refine gq_iinc hX dX0_readForm_77 rfl rfl (inc1 _) (Nat.le_of_ble_eq_true rfl) rfl ?_
            refine gq_goto (tgt := 9) hX dX0_readForm_80 rfl ?_
            have hc2 : cntP (frmN i) k (p + 1) + 1 + pre.length ≤ 2 := by omega
            have hst := mG_Dy (k := k) (p := p) h35 rfl hd0 rfl (l := (K.2.2.2.1 0)) (f := frmN i)
            refine (fun h9 => ?_) (ih (p + 1) (a1 + dgm (K.2.2.2.1 0) a1 3) (pre ++ [(valN (K.2.2.2.1 0) a1 (dgm (K.2.2.2.1 0) a1 3))]) (upd pm1 (2 * cnt + pre.length) (nI (valN (K.2.2.2.1 0) a1 (dgm (K.2.2.2.1 0) a1 3)))) M7 (.int (nI (frmN i p))) (by omega) (by omega) (by rw [List.length_append]; show pre.length + 1 + _ ≤ 2; omega) hW7 (fun q h => (upd_n _ (by omega)).trans (hq1 q h)) (fun q h => ?_) (by rw [hr, hst]; show (_, _, pre ++ (valN (K.2.2.2.1 0) a1 (dgm (K.2.2.2.1 0) a1 3)) :: _) = (_, _, (pre ++ [(valN (K.2.2.2.1 0) a1 (dgm (K.2.2.2.1 0) a1 3))]) ++ _); rw [List.append_assoc]; rfl))
            · rw [List.length_append] at h9
              exact h9
            · rw [List.length_append] at h
              have h2 : q < pre.length + 1 := h
              by_cases e : q = pre.length
              · subst e
                rw [upd_s, getD_ap2]
              · rw [upd_n _ (by omega), getD_ap1 (by omega)]
                exact hq2 q (by omega)
        · refine gq_icmp_neT (tgt := 66) hX dX0_readForm_35 rfl (fun e => h35 ((nI_eq (by omega) (by decide)).mp e)) ?_
          refine gq_aload_n hX dX0_readForm_66 rfl rfl rfl ?_
          refine gq_iload hX dX0_readForm_67 rfl rfl ?_
          rcases Bool.eq_false_or_eq_true (nx (K.2.2.2.1 0) a1 (frmN i p)) with hx | hx
          · refine gq_callVw hX dX0_readForm_69 rfl vX0_74 (cp_sign_y hb hW5 hl hx) rfl hW5.c3 rfl rfl (Nat.le_of_ble_eq_true rfl) ⟨(Nat.le_of_ble_eq_true rfl), (Nat.le_of_ble_eq_true rfl)⟩ (Nat.zero_add _) (Nat.zero_add _) ?_
            intro M7 hW7
            have hx2 := nx_lt hx
            refine gq_if_neT (tgt := 77) hX dX0_readForm_72 rfl (by decide) ?_
            refine gq_iinc hX dX0_readForm_77 rfl rfl (inc1 _) (Nat.le_of_ble_eq_true rfl) rfl ?_
            refine gq_goto (tgt := 9) hX dX0_readForm_80 rfl ?_
            exact ih (p + 1) (a1 + 1) pre pm1 M7 (.int (nI (frmN i p))) (by omega) (by omega) (by rw [if_neg h57, if_neg h35] at hc; omega) hW7 hq1 hq2 (by rw [hr, mG_y rfl h57 h35 hx])
          · refine gq_callVw hX dX0_readForm_69 rfl vX0_74 (cp_sign_n hb hW5 hl hlt (by omega) hx) rfl hW5.c3 rfl rfl (Nat.le_of_ble_eq_true rfl) ⟨(Nat.le_of_ble_eq_true rfl), (Nat.le_of_ble_eq_true rfl)⟩ (Nat.zero_add _) (Nat.zero_add _) ?_
            intro M7 hW7
            refine gq_if_neF (tgt := 77) hX dX0_readForm_72 rfl rfl rfl ?_
            refine gq_iconst (v := nI 0) hX dX0_readForm_75 rfl (by decide) ?_
            have hr2 : (fmR (K.2.2.2.1 0) i a).1 = false ∧ (fmR (K.2.2.2.1 0) i a).2.1 = a1 := by rw [hr, mG_n rfl h57 h35 hx]; exact ⟨rfl, rfl⟩
            refine gq_zret hX hQ dX0_readForm_76 rfl rfl ?_
            unfold FmP
            rw [hr2.1, hr2.2]
            exact ⟨rfl, pm1, hW7, hq1, fun h => by cases h⟩
  exact lp (frmL.getD i 0) 0 a [] pm M hole (by omega) ha (by rw [List.length_nil, Nat.zero_add]; exact cntP_i hi) hW (fun _ _ => rfl) (fun q h => absurd h (Nat.not_lt_zero q)) rfl

/-- what reading a command leaves -/
def CmP (E : Ev) (b : Nat → Nat) (K : Kt) (kd pm : Nat → Int32) (cnt : Nat) (res : Cm) : Option Value → Hp → Prop := fun r M1 => r = some (.int (if res.1 = true then nI 1 else nI 0)) ∧ ∃ kd' pm', Wd E b (rdK K res.2.1 kd' pm') M1 ∧ (∀ q, q < cnt → kd' q = kd q) ∧ (∀ q, q < 2 * cnt → pm' q = pm q) ∧ (res.1 = true → kd' cnt = nI res.2.2.1 ∧ ∀ q, q < res.2.2.2.length → pm' (2 * cnt + q) = nI (res.2.2.2.getD q 0))
theorem CmP.to {E : Ev} {b : Nat → Nat} {K : Kt} {kd pm : Nat → Int32} {cnt : Nat} {x y : Cm} (h : CmE x y) (r : Option Value) (M1 : Hp) (hp : CmP E b K kd pm cnt x r M1) : CmP E b K kd pm cnt y r M1 := by
  obtain ⟨h1, kd', pm', h2, h3, h4, h5⟩ := hp
  refine ⟨by rw [h1, h.1], kd', pm', by rw [← h.2.1]; exact h2, h3, h4, fun hy => ?_⟩
  have hx : x.1 = true := h.1.trans hy
  rw [← h.2.2 hx]
  exact h5 hx
set_option maxRecDepth 100000 in
set_option maxHeartbeats 4000000 in
theorem cp_cmdC {E : Ev} {b : Nat → Nat} {K : Kt} {M : Hp} (hb : Lay E 162 b) {a : Nat} {kd pm : Nat → Int32} (hW : Wd E b (rdK K a kd pm) M) (hl : (K.2.2.2.1 0).2 ≤ 60) {cnt : Nat} (ha : a ≤ (K.2.2.2.1 0).2) (hcnt : K.1 6 = nI cnt) (hc60 : cnt < 60) : Ct E mX0_readCommand [.ref (b 3)] M (CmP E b K kd pm cnt (cmdC (K.2.2.2.1 0) a 13 0 a)) 0 0 := by
  refine Ct.of gmX0_readCommand (ls := [.ref (b 3), hole, hole, hole]) rfl rfl (Nat.le_of_ble_eq_true rfl) ?_
  intro X hX Q hQ
  refine gq_aload_n hX dX0_readCommand_0 rfl rfl rfl ?_
  refine gq_getf hX dX0_readCommand_1 rfl fX0_29 hW.c3 rfl ?_
  rw [show (rdK K a kd pm).1 7 = nI (a) from rfl]
  refine gq_istore_n hX dX0_readCommand_4 rfl rfl (Nat.le_of_ble_eq_true rfl) rfl ?_
  refine gq_iload_n hX dX0_readCommand_5 rfl rfl rfl ?_
  refine gq_istore_n hX dX0_readCommand_6 rfl rfl (Nat.le_of_ble_eq_true rfl) rfl ?_
  refine gq_iconst (v := nI 0) hX dX0_readCommand_7 rfl (by decide) ?_
  refine gq_istore_n hX dX0_readCommand_8 rfl rfl (Nat.le_of_ble_eq_true rfl) rfl ?_
  have lp : ∀ (r k m a1 : Nat) (pm1 : Nat → Int32) (M5 : Hp), k + r = 13 → m ≤ 60 → Wd E b (rdK K a1 kd pm1) M5 → (∀ q, q < 2 * cnt → pm1 q = pm q) → cmdC (K.2.2.2.1 0) a 13 0 a = cmdC (K.2.2.2.1 0) a r k m →
      Gq E X mX0_readCommand Q 9 [.ref (b 3), .int (nI a), .int (nI m), .int (nI k)] [] M5 0 0 := by
    intro r
    induction r with
    | zero =>
      intro k m a1 pm1 M5 hk hm hW5 hq hr
      refine gq_iload_n hX dX0_readCommand_9 rfl rfl rfl ?_
      refine gq_bipush (v := nI 13) hX dX0_readCommand_10 rfl (by decide) ?_
      refine gq_icmp_geT (tgt := 58) hX dX0_readCommand_12 rfl (by rw [show k = 13 by omega]; exact nI_le (Nat.le_refl _) (by decide)) ?_
      refine gq_aload_n hX dX0_readCommand_58 rfl rfl rfl ?_
      refine gq_iload_n hX dX0_readCommand_59 rfl rfl rfl ?_
      refine gq_putW hX dX0_readCommand_60 rfl fX0_29 rfl rfl rfl hW5.c3 (Nat.le_of_ble_eq_true rfl) (hb.2 3 (by decide)) (hW5.w3_4 hb _) ?_
      intro M11 hW11
      rw [rdK_at] at hW11
      refine gq_iconst (v := nI 0) hX dX0_readCommand_63 rfl (by decide) ?_
      refine gq_zret hX hQ dX0_readCommand_64 rfl rfl ?_
      unfold CmP
      rw [hr]
      exact ⟨rfl, kd, pm1, hW11, fun _ _ => rfl, hq, fun h => by cases h⟩
    | succ r ih =>
      intro k m a1 pm1 M5 hk hm hW5 hq hr
      refine gq_iload_n hX dX0_readCommand_9 rfl rfl rfl ?_
      refine gq_bipush (v := nI 13) hX dX0_readCommand_10 rfl (by decide) ?_
      refine gq_icmp_geF (tgt := 58) hX dX0_readCommand_12 rfl rfl (nI_ge (by omega) (by decide)) ?_
      refine gq_aload_n hX dX0_readCommand_15 rfl rfl rfl ?_
      refine gq_iload_n hX dX0_readCommand_16 rfl rfl rfl ?_
      refine gq_putW hX dX0_readCommand_17 rfl fX0_29 rfl rfl rfl hW5.c3 (Nat.le_of_ble_eq_true rfl) (hb.2 3 (by decide)) (hW5.w3_4 hb _) ?_
      intro M11 hW11
      rw [rdK_at] at hW11
      refine gq_aload_n hX dX0_readCommand_20 rfl rfl rfl ?_
      refine gq_iload_n hX dX0_readCommand_21 rfl rfl rfl ?_
      refine gq_callSe hX dX0_readCommand_22 rfl vX0_78 (cp_formOf (i := k) (by omega)) rfl rfl (Nat.le_of_ble_eq_true rfl) ⟨(Nat.le_of_ble_eq_true rfl), (Nat.le_of_ble_eq_true rfl)⟩ (Nat.zero_add _) (Nat.zero_add _) ?_
      refine gq_callV (mc := 0) (ms := 0) (nc1 := 0) (ns1 := 0) hX dX0_readCommand_25 vX0_82 (cp_form hb hW11 hl (i := k) (by omega) ha hcnt hc60) rfl hW11.c3 rfl rfl (Nat.le_of_ble_eq_true rfl) ⟨(Nat.le_of_ble_eq_true rfl), (Nat.le_of_ble_eq_true rfl)⟩ rfl rfl ?_
      rintro v M7 ⟨rfl, pm2, hW7, hq2, hok⟩
      have hfl : (fmR (K.2.2.2.1 0) k a).2.1 ≤ (K.2.2.2.1 0).2 := mG_le _ ha
      by_cases hy : (fmR (K.2.2.2.1 0) k a).1 = true
      · rw [if_pos hy]
        refine gq_if_eqF (tgt := 43) hX dX0_readCommand_28 rfl rfl (by decide) ?_
        refine gq_aload_n hX dX0_readCommand_31 rfl rfl rfl ?_
        refine gq_getf hX dX0_readCommand_32 rfl fX0_18 hW7.c3 rfl ?_
        refine gq_aload_n hX dX0_readCommand_35 rfl rfl rfl ?_
        refine gq_getf hX dX0_readCommand_36 rfl fX0_25 hW7.c3 rfl ?_
        rw [show (rdK K (fmR (K.2.2.2.1 0) k a).2.1 kd pm2).1 6 = K.1 6 from rfl, hcnt]
        refine gq_iload_n hX dX0_readCommand_39 rfl rfl rfl ?_
        refine gq_iastN hX dX0_readCommand_40 rfl hW7.c4 rfl (by omega) (Nat.le_of_ble_eq_true rfl) (hb.2 4 (by decide)) rfl ?_
        rw [show (rdK K (fmR (K.2.2.2.1 0) k a).2.1 kd pm2).2.2.1 0 = kd from rfl]
        have hW8 := hW7.w4 hb (upd kd cnt (nI k))
        rw [rdK_kd] at hW8
        refine gq_iconst (v := nI 1) hX dX0_readCommand_41 rfl (by decide) ?_
        have hr2 : cmdC (K.2.2.2.1 0) a 13 0 a = fmC (K.2.2.2.1 0) k a := by rw [hr, cmdC_yes hy]
        refine gq_zret hX hQ dX0_readCommand_42 rfl rfl ?_
        unfold CmP
        rw [hr2]
        exact ⟨by rw [show (fmC (K.2.2.2.1 0) k a).1 = true from hy, if_pos rfl], _, pm2, hW8, fun q h => upd_n _ (by omega), fun q h => (hq2 q h).trans (hq q h), fun _ => ⟨upd_s _ _ _, hok hy⟩⟩
      · rw [if_neg hy]
        refine gq_if_eqT (tgt := 43) hX dX0_readCommand_28 rfl rfl ?_
        refine gq_iload_n hX dX0_readCommand_43 rfl rfl rfl ?_
        refine gq_aload_n hX dX0_readCommand_44 rfl rfl rfl ?_
        refine gq_getf hX dX0_readCommand_45 rfl fX0_29 hW7.c3 rfl ?_
        rw [show (rdK K (fmR (K.2.2.2.1 0) k a).2.1 kd pm2).1 7 = nI ((fmR (K.2.2.2.1 0) k a).2.1) from rfl]
        refine gq_mmax hX dX0_readCommand_48 rfl nX0_86 (Nat.le_of_ble_eq_true rfl) (Nat.le_of_ble_eq_true rfl) ?_
        rw [nI_if (by omega) (by omega)]
        refine gq_istore_n hX dX0_readCommand_51 rfl rfl (Nat.le_of_ble_eq_true rfl) rfl ?_
        refine gq_iinc hX dX0_readCommand_52 rfl rfl (inc1 _) (Nat.le_of_ble_eq_true rfl) rfl ?_
        refine gq_goto (tgt := 9) hX dX0_readCommand_55 rfl ?_
        exact ih (k + 1) _ (fmR (K.2.2.2.1 0) k a).2.1 pm2 M7 (by omega) (by split <;> omega) hW7 (fun q h => (hq2 q h).trans (hq q h)) (by rw [hr, cmdC_no hy])
  exact lp 13 0 a a pm M (by omega) (by omega) hW (fun _ _ => rfl) rfl

theorem cp_cmd {E : Ev} {b : Nat → Nat} {K : Kt} {M : Hp} (hb : Lay E 162 b) {a : Nat} {kd pm : Nat → Int32} (hW : Wd E b (rdK K a kd pm) M) (hl : (K.2.2.2.1 0).2 ≤ 60) {cnt : Nat} (ha : a ≤ (K.2.2.2.1 0).2) (hcnt : K.1 6 = nI cnt) (hc60 : cnt < 60) : Ct E mX0_readCommand [.ref (b 3)] M (CmP E b K kd pm cnt (cmdM (K.2.2.2.1 0) a)) 0 0 := (cp_cmdC hb hW hl ha hcnt hc60).imp (CmP.to (eqC_all _ _))
theorem rdK_ct {K : Kt} {a : Nat} {kd pm : Nat → Int32} {u v : Int32} : kSc (rdK (kSc K 6 u) a kd pm) 6 v = rdK (kSc K 6 v) a kd pm := by
  have e : kSc (kSc (kSc K 6 u) 7 (nI a)) 6 v = kSc (kSc K 6 v) 7 (nI a) := by
    have e2 : (fun i => if i = 6 then v else if i = 7 then nI a else if i = 6 then u else K.1 i) = (fun i => if i = 7 then nI a else if i = 6 then v else K.1 i) := by
      funext i
      by_cases h6 : i = 6
      · subst h6
        rfl
      · by_cases h7 : i = 7
        · subst h7
          rfl
        · rw [if_neg h6, if_neg h7, if_neg h6, if_neg h7, if_neg h6]
    show ((fun i => if i = 6 then v else if i = 7 then nI a else if i = 6 then u else K.1 i), K.2) = ((fun i => if i = 7 then nI a else if i = 6 then v else K.1 i), K.2)
    rw [e2]
  exact congrArg (fun z => kAr (kAr z 0 kd) 1 pm) e
/-- the commands that were read, in the class's rows -/
def DsP (ds : List (Nat × List Nat)) (kd pm : Nat → Int32) : Prop := ∀ q, q < ds.length → kd q = nI (ds.getD q (0, [])).1 ∧ (ds.getD q (0, [])).2.length ≤ 2 ∧ ∀ s, s < (ds.getD q (0, [])).2.length → pm (2 * q + s) = nI ((ds.getD q (0, [])).2.getD s 0)
def TxR (E : Ev) (b : Nat → Nat) (K : Kt) (res : Bool × Nat × List (Nat × List Nat)) : Option Value → Hp → Prop := fun r M1 => r = some (.int (if res.1 = true then nI 1 else nI 0)) ∧ ∃ kd' pm', Wd E b (rdK (kSc K 6 (nI res.2.2.length)) res.2.1 kd' pm') M1 ∧ res.2.2.length ≤ 60 ∧ DsP res.2.2 kd' pm'
theorem getE_ap1 {x : List (Nat × List Nat)} {v : Nat × List Nat} {q : Nat} (h : q < x.length) : (x ++ [v]).getD q (0, []) = x.getD q (0, []) := by
  rw [List.getD_eq_getElem?_getD, List.getD_eq_getElem?_getD, List.getElem?_append_left h]
theorem getE_ap2 {x : List (Nat × List Nat)} {v : Nat × List Nat} : (x ++ [v]).getD x.length (0, []) = v := by
  rw [List.getD_eq_getElem?_getD, List.getElem?_append_right (Nat.le_refl _), Nat.sub_self]
  rfl
theorem DsP.snoc {ds : List (Nat × List Nat)} {v : Nat × List Nat} {kd pm kd2 pm2 : Nat → Int32} (h : DsP ds kd pm) (h1 : ∀ q, q < ds.length → kd2 q = kd q) (h2 : ∀ q, q < 2 * ds.length → pm2 q = pm q) (h3 : kd2 ds.length = nI v.1) (h4 : v.2.length ≤ 2) (h5 : ∀ s, s < v.2.length → pm2 (2 * ds.length + s) = nI (v.2.getD s 0)) : DsP (ds ++ [v]) kd2 pm2 := by
  intro q hq
  rw [List.length_append] at hq
  have hq2 : q < ds.length + 1 := hq
  by_cases e : q = ds.length
  · subst e
    rw [getE_ap2]
    exact ⟨h3, h4, h5⟩
  · rw [getE_ap1 (by omega)]
    obtain ⟨g1, g2, g3⟩ := h q (by omega)
    exact ⟨(h1 q (by omega)).trans g1, g2, fun s hs => (h2 _ (by omega)).trans (g3 s hs)⟩
theorem DsP.keep {ds : List (Nat × List Nat)} {kd pm kd2 pm2 : Nat → Int32} (h : DsP ds kd pm) (h1 : ∀ q, q < ds.length → kd2 q = kd q) (h2 : ∀ q, q < 2 * ds.length → pm2 q = pm q) : DsP ds kd2 pm2 := by
  intro q hq
  obtain ⟨g1, g2, g3⟩ := h q hq
  exact ⟨(h1 q hq).trans g1, g2, fun s hs => (h2 _ (by omega)).trans (g3 s hs)⟩
theorem arN_le (i : Nat) : arN i ≤ 2 := by unfold arN; split <;> omega
set_option maxRecDepth 100000 in
set_option maxHeartbeats 4000000 in
theorem cp_text {E : Ev} {b : Nat → Nat} {K : Kt} {M : Hp} (hb : Lay E 162 b) (hW : Wd E b K M) (hl : (K.2.2.2.1 0).2 ≤ 60) : Ct E mX0_readText [.ref (b 3)] M (TxR E b K (pAll (K.2.2.2.1 0) 60 0)) 0 0 := by
  refine Ct.of gmX0_readText (ls := [.ref (b 3)]) rfl rfl (Nat.le_of_ble_eq_true rfl) ?_
  intro X hX Q hQ
  obtain ⟨kd, hkd⟩ : ∃ z, z = K.2.2.1 0 := ⟨_, rfl⟩
  obtain ⟨pm, hpm⟩ : ∃ z, z = K.2.2.1 1 := ⟨_, rfl⟩
  refine gq_aload_n hX dX0_readText_0 rfl rfl rfl ?_
  refine gq_iconst (v := nI 0) hX dX0_readText_1 rfl (by decide) ?_
  refine gq_putW hX dX0_readText_2 rfl fX0_29 rfl rfl rfl hW.c3 (Nat.le_of_ble_eq_true rfl) (hb.2 3 (by decide)) (hW.w3_4 hb _) ?_
  intro M2 hW2
  refine gq_aload_n hX dX0_readText_5 rfl rfl rfl ?_
  refine gq_iconst (v := nI 0) hX dX0_readText_6 rfl (by decide) ?_
  refine gq_putW hX dX0_readText_7 rfl fX0_25 rfl rfl rfl hW2.c3 (Nat.le_of_ble_eq_true rfl) (hb.2 3 (by decide)) (hW2.w3_3 hb _) ?_
  intro M3 hW3
  have hW0 : Wd E b (rdK (kSc K 6 (nI 0)) 0 kd pm) M3 := by
    have e : rdK (kSc K 6 (nI 0)) 0 kd pm = kSc (kSc K 7 (nI 0)) 6 (nI 0) := by
      rw [hkd, hpm]
      have e2 : kSc (kSc K 6 (nI 0)) 7 (nI 0) = kSc (kSc K 7 (nI 0)) 6 (nI 0) := by
        have e3 : (fun i => if i = 7 then nI 0 else if i = 6 then nI 0 else K.1 i) = (fun i => if i = 6 then nI 0 else if i = 7 then nI 0 else K.1 i) := by
          funext i
          by_cases h6 : i = 6
          · subst h6
            rfl
          · rw [if_neg h6, if_neg h6]
        show ((fun i => if i = 7 then nI 0 else if i = 6 then nI 0 else K.1 i), K.2) = ((fun i => if i = 6 then nI 0 else if i = 7 then nI 0 else K.1 i), K.2)
        rw [e3]
      have h3 : rdK (kSc K 6 (nI 0)) 0 (K.2.2.1 0) (K.2.2.1 1) = kSc (kSc K 6 (nI 0)) 7 (nI 0) := (congrArg (fun z => kAr z 1 (K.2.2.1 1)) (kAr_id (K := kSc (kSc K 6 (nI 0)) 7 (nI 0)) (j := 0))).trans (kAr_id (K := kSc (kSc K 6 (nI 0)) 7 (nI 0)) (j := 1))
      rw [h3, e2]
    rw [e]
    exact hW3
  have lp : ∀ (k a1 : Nat) (ds : List (Nat × List Nat)) (kd1 pm1 : Nat → Int32) (M5 : Hp), ds.length + k = 60 → a1 ≤ (K.2.2.2.1 0).2 → Wd E b (rdK (kSc K 6 (nI ds.length)) a1 kd1 pm1) M5 → DsP ds kd1 pm1 → pAll (K.2.2.2.1 0) 60 0 = ((pAll (K.2.2.2.1 0) k a1).1, (pAll (K.2.2.2.1 0) k a1).2.1, ds ++ (pAll (K.2.2.2.1 0) k a1).2.2) →
      Gq E X mX0_readText Q 10 [.ref (b 3)] [] M5 0 0 := by
    intro k
    induction k with
    | zero =>
      intro a1 ds kd1 pm1 M5 hk ha1 hW5 hds hr
      have hcnt : (kSc K 6 (nI ds.length)).1 6 = nI ds.length := rfl
      refine gq_aload_n hX dX0_readText_10 rfl rfl rfl ?_
      refine gq_getf hX dX0_readText_11 rfl fX0_25 hW5.c3 rfl ?_
      rw [show (rdK (kSc K 6 (nI ds.length)) a1 kd1 pm1).1 6 = nI ds.length from rfl]
      refine gq_bipush (v := nI 60) hX dX0_readText_14 rfl (by decide) ?_
      refine gq_icmp_geT (tgt := 67) hX dX0_readText_16 rfl (nI_le (by omega) (by omega)) ?_
      refine gq_iconst (v := nI 0) hX dX0_readText_67 rfl (by decide) ?_
      have hr2 : pAll (K.2.2.2.1 0) 60 0 = (false, a1, ds) := by rw [hr]; show (false, a1, ds ++ []) = _; rw [List.append_nil]
      refine gq_zret hX hQ dX0_readText_68 rfl rfl ?_
      unfold TxR
      rw [hr2]
      exact ⟨rfl, kd1, pm1, hW5, by show ds.length ≤ 60; omega, hds⟩
    | succ k ih =>
      intro a1 ds kd1 pm1 M5 hk ha1 hW5 hds hr
      refine gq_aload_n hX dX0_readText_10 rfl rfl rfl ?_
      refine gq_getf hX dX0_readText_11 rfl fX0_25 hW5.c3 rfl ?_
      rw [show (rdK (kSc K 6 (nI ds.length)) a1 kd1 pm1).1 6 = nI ds.length from rfl]
      refine gq_bipush (v := nI 60) hX dX0_readText_14 rfl (by decide) ?_
      refine gq_icmp_geF (tgt := 67) hX dX0_readText_16 rfl rfl (nI_ge (by omega) (by decide)) ?_
      refine gq_aload_n hX dX0_readText_19 rfl rfl rfl ?_
      refine gq_callV (mc := 0) (ms := 0) (nc1 := 0) (ns1 := 0) hX dX0_readText_20 vX0_70 (cp_cmd (K := kSc K 6 (nI ds.length)) hb hW5 hl ha1 rfl (by omega)) rfl hW5.c3 rfl rfl (Nat.le_of_ble_eq_true rfl) ⟨(Nat.le_of_ble_eq_true rfl), (Nat.le_of_ble_eq_true rfl)⟩ rfl rfl ?_
      rintro v M7 ⟨rfl, kd2, pm2, hW7, hk2, hp2, hok⟩
      rw [show (kSc K 6 (nI ds.length)).2.2.2.1 0 = K.2.2.2.1 0 from rfl] at hW7 hok ⊢
      have hle := cmdM_le ha1
      by_cases hc : (cmdM (K.2.2.2.1 0) a1).1 = true
      · rw [if_pos hc]
        have hlt := cmdM_lt hc
        obtain ⟨hk13, hlen⟩ := cm_len hc
        obtain ⟨ho1, ho2⟩ := hok hc
        have hds2 := hds.snoc (v := ((cmdM (K.2.2.2.1 0) a1).2.2.1, (cmdM (K.2.2.2.1 0) a1).2.2.2)) hk2 hp2 ho1 (by show (cmdM (K.2.2.2.1 0) a1).2.2.2.length ≤ 2; rw [hlen]; exact arN_le _) ho2
        refine gq_if_neT (tgt := 28) hX dX0_readText_23 rfl (by decide) ?_
        refine gq_aload_n hX dX0_readText_28 rfl rfl rfl ?_
        refine gq_dup hX dX0_readText_29 rfl rfl ?_
        refine gq_getf hX dX0_readText_30 rfl fX0_25 hW7.c3 rfl ?_
        rw [show (rdK (kSc K 6 (nI ds.length)) (cmdM (K.2.2.2.1 0) a1).2.1 kd2 pm2).1 6 = nI ds.length from rfl]
        refine gq_iconst (v := nI 1) hX dX0_readText_33 rfl (by decide) ?_
        refine gq_iadd hX dX0_readText_34 rfl ?_
        rw [inM]
        refine gq_putW hX dX0_readText_35 rfl fX0_25 rfl rfl rfl hW7.c3 (Nat.le_of_ble_eq_true rfl) (hb.2 3 (by decide)) (hW7.w3_3 hb _) ?_
        intro M11 hW11
        rw [rdK_ct, show ds.length + 1 = (ds ++ [((cmdM (K.2.2.2.1 0) a1).2.2.1, (cmdM (K.2.2.2.1 0) a1).2.2.2)]).length by rw [List.length_append]; rfl] at hW11
        refine gq_aload_n hX dX0_readText_38 rfl rfl rfl ?_
        refine gq_bipush (v := nI 59) hX dX0_readText_39 rfl (by decide) ?_
        rcases Bool.eq_false_or_eq_true (nx (K.2.2.2.1 0) (cmdM (K.2.2.2.1 0) a1).2.1 59) with h9 | h9
        · have hx := nx_lt h9
          refine gq_callVw hX dX0_readText_41 rfl vX0_74 (cp_sign_y (K := kSc K 6 (nI (ds ++ [((cmdM (K.2.2.2.1 0) a1).2.2.1, (cmdM (K.2.2.2.1 0) a1).2.2.2)]).length)) hb hW11 hl h9) rfl hW11.c3 rfl rfl (Nat.le_of_ble_eq_true rfl) ⟨(Nat.le_of_ble_eq_true rfl), (Nat.le_of_ble_eq_true rfl)⟩ (Nat.zero_add _) (Nat.zero_add _) ?_
          intro M9 hW9
          refine gq_if_neT (tgt := 10) hX dX0_readText_44 rfl (by decide) ?_
          exact ih ((cmdM (K.2.2.2.1 0) a1).2.1 + 1) (ds ++ [((cmdM (K.2.2.2.1 0) a1).2.2.1, (cmdM (K.2.2.2.1 0) a1).2.2.2)]) kd2 pm2 M9 (by rw [List.length_append]; show ds.length + 1 + k = 60; omega) (by omega) hW9 hds2 (by rw [hr, pAll_y hc h9, List.append_assoc]; rfl)
        · refine gq_callVw hX dX0_readText_41 rfl vX0_74 (cp_sign_n (K := kSc K 6 (nI (ds ++ [((cmdM (K.2.2.2.1 0) a1).2.2.1, (cmdM (K.2.2.2.1 0) a1).2.2.2)]).length)) hb hW11 hl (by decide) (by omega) h9) rfl hW11.c3 rfl rfl (Nat.le_of_ble_eq_true rfl) ⟨(Nat.le_of_ble_eq_true rfl), (Nat.le_of_ble_eq_true rfl)⟩ (Nat.zero_add _) (Nat.zero_add _) ?_
          intro M9 hW9
          have hr2 : pAll (K.2.2.2.1 0) 60 0 = (decide ((cmdM (K.2.2.2.1 0) a1).2.1 = (K.2.2.2.1 0).2), (cmdM (K.2.2.2.1 0) a1).2.1, (ds ++ [((cmdM (K.2.2.2.1 0) a1).2.2.1, (cmdM (K.2.2.2.1 0) a1).2.2.2)])) := by rw [hr, pAll_e hc (by rw [h9]; decide)]
          refine gq_if_neF (tgt := 10) hX dX0_readText_44 rfl rfl rfl ?_
          refine gq_aload_n hX dX0_readText_47 rfl rfl rfl ?_
          refine gq_getf hX dX0_readText_48 rfl fX0_29 hW9.c3 rfl ?_
          rw [show (rdK (kSc K 6 (nI (ds ++ [((cmdM (K.2.2.2.1 0) a1).2.2.1, (cmdM (K.2.2.2.1 0) a1).2.2.2)]).length)) (cmdM (K.2.2.2.1 0) a1).2.1 kd2 pm2).1 7 = nI (cmdM (K.2.2.2.1 0) a1).2.1 from rfl]
          refine gq_aload_n hX dX0_readText_51 rfl rfl rfl ?_
          refine gq_getf hX dX0_readText_52 rfl fX0_12 hW9.c3 rfl ?_
          obtain ⟨fs1, hfs1⟩ := hW9.o0 hb
          refine gq_callVe hX dX0_readText_55 rfl vX0_32 (st_len hb hW9) rfl hfs1 rfl rfl (Nat.le_of_ble_eq_true rfl) ⟨(Nat.le_of_ble_eq_true rfl), (Nat.le_of_ble_eq_true rfl)⟩ (Nat.zero_add _) (Nat.zero_add _) ?_
          rw [show (rdK (kSc K 6 (nI (ds ++ [((cmdM (K.2.2.2.1 0) a1).2.2.1, (cmdM (K.2.2.2.1 0) a1).2.2.2)]).length)) (cmdM (K.2.2.2.1 0) a1).2.1 kd2 pm2).2.2.2.1 0 = K.2.2.2.1 0 from rfl]
          by_cases h8 : (cmdM (K.2.2.2.1 0) a1).2.1 = (K.2.2.2.1 0).2
          · refine gq_icmp_neF (tgt := 65) hX dX0_readText_58 rfl rfl (congrArg nI h8) ?_
            refine gq_iconst (v := nI 1) hX dX0_readText_61 rfl (by decide) ?_
            refine gq_goto (tgt := 66) hX dX0_readText_62 rfl ?_
            refine gq_zret hX hQ dX0_readText_66 rfl rfl ?_
            unfold TxR
            rw [hr2]
            exact ⟨by rw [if_pos (decide_eq_true h8)], kd2, pm2, hW9, by rw [List.length_append]; show ds.length + 1 ≤ 60; omega, hds2⟩
          · refine gq_icmp_neT (tgt := 65) hX dX0_readText_58 rfl (fun e => h8 ((nI_eq (by omega) (by omega)).mp e)) ?_
            refine gq_iconst (v := nI 0) hX dX0_readText_65 rfl (by decide) ?_
            refine gq_zret hX hQ dX0_readText_66 rfl rfl ?_
            unfold TxR
            rw [hr2]
            exact ⟨by rw [decide_eq_false h8]; rfl, kd2, pm2, hW9, by rw [List.length_append]; show ds.length + 1 ≤ 60; omega, hds2⟩
      · rw [if_neg hc]
        refine gq_if_neF (tgt := 28) hX dX0_readText_23 rfl rfl rfl ?_
        refine gq_iconst (v := nI 0) hX dX0_readText_26 rfl (by decide) ?_
        have hr2 : pAll (K.2.2.2.1 0) 60 0 = (false, (cmdM (K.2.2.2.1 0) a1).2.1, ds) := by rw [hr, pAll_n hc]; show (false, _, ds ++ []) = _; rw [List.append_nil]
        refine gq_zret hX hQ dX0_readText_27 rfl rfl ?_
        unfold TxR
        rw [hr2]
        exact ⟨rfl, kd2, pm2, hW7, by show ds.length ≤ 60; omega, hds.keep hk2 hp2⟩
  exact lp 60 0 [] kd pm _ rfl (Nat.zero_le _) hW0 (fun q hq => absurd hq (Nat.not_lt_zero q)) rfl

