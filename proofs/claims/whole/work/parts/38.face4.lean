theorem kSc_2 {K : Kt} {j : Nat} {u v : Int32} : kSc (kSc K j u) j v = kSc K j v := by
  have e : (fun i => if i = j then v else if i = j then u else K.1 i) = (fun i => if i = j then v else K.1 i) := by
    funext i
    by_cases h : i = j
    · rw [if_pos h, if_pos h]
    · rw [if_neg h, if_neg h, if_neg h]
  show ((fun i => if i = j then v else if i = j then u else K.1 i), K.2) = ((fun i => if i = j then v else K.1 i), K.2)
  rw [e]
theorem kSc_id {K : Kt} {j : Nat} {v : Int32} (h : K.1 j = v) : kSc K j v = K := by
  have e : (fun i => if i = j then v else K.1 i) = K.1 := by
    funext i
    split
    · rename_i h2
      rw [h2, h]
    · rfl
  show ((fun i => if i = j then v else K.1 i), K.2) = K
  rw [e]
theorem kAr_2 {K : Kt} {j : Nat} {u v : Nat → Int32} : kAr (kAr K j u) j v = kAr K j v := by
  have e : (fun i => if i = j then v else if i = j then u else K.2.2.1 i) = (fun i => if i = j then v else K.2.2.1 i) := by
    funext i
    by_cases h : i = j
    · rw [if_pos h, if_pos h]
    · rw [if_neg h, if_neg h, if_neg h]
  show (K.1, K.2.1, (fun i => if i = j then v else if i = j then u else K.2.2.1 i), K.2.2.2) = (K.1, K.2.1, (fun i => if i = j then v else K.2.2.1 i), K.2.2.2)
  rw [e]
theorem kAr_id {K : Kt} {j : Nat} : kAr K j (K.2.2.1 j) = K := by
  have e : (fun i => if i = j then K.2.2.1 j else K.2.2.1 i) = K.2.2.1 := by
    funext i
    split
    · rename_i h
      rw [h]
    · rfl
  show (K.1, K.2.1, (fun i => if i = j then K.2.2.1 j else K.2.2.1 i), K.2.2.2) = K
  rw [e]
theorem kAr_c {K : Kt} {i j : Nat} {u v : Nat → Int32} (h : i ≠ j) : kAr (kAr K i u) j v = kAr (kAr K j v) i u := by
  have e : (fun q => if q = j then v else if q = i then u else K.2.2.1 q) = (fun q => if q = i then u else if q = j then v else K.2.2.1 q) := by
    funext q
    by_cases h1 : q = j
    · subst h1
      rw [if_pos rfl, if_neg (Ne.symm h), if_pos rfl]
    · rw [if_neg h1, if_neg h1]
  show (K.1, K.2.1, (fun q => if q = j then v else if q = i then u else K.2.2.1 q), K.2.2.2) = (K.1, K.2.1, (fun q => if q = i then u else if q = j then v else K.2.2.1 q), K.2.2.2)
  rw [e]
/-- the world while it reads: at a, with the kinds kd and the parameters pm so far -/
def rdK (K : Kt) (a : Nat) (kd pm : Nat → Int32) : Kt := kAr (kAr (kSc K 7 (nI a)) 0 kd) 1 pm
theorem rdK_id {K : Kt} {a : Nat} (h : K.1 7 = nI a) : rdK K a (K.2.2.1 0) (K.2.2.1 1) = K := by
  unfold rdK
  rw [kSc_id h, kAr_id, kAr_id]
theorem rdK_at {K : Kt} {a a2 : Nat} {kd pm : Nat → Int32} : kSc (rdK K a kd pm) 7 (nI a2) = rdK K a2 kd pm := congrArg (fun z => kAr (kAr z 0 kd) 1 pm) (kSc_2 (K := K) (j := 7) (u := nI a) (v := nI a2))
theorem rdK_pm {K : Kt} {a : Nat} {kd pm pm2 : Nat → Int32} : kAr (rdK K a kd pm) 1 pm2 = rdK K a kd pm2 := kAr_2
theorem rdK_kd {K : Kt} {a : Nat} {kd kd2 pm : Nat → Int32} : kAr (rdK K a kd pm) 0 kd2 = rdK K a kd2 pm := by
  unfold rdK
  rw [kAr_c (by decide), kAr_2]

set_option maxRecDepth 100000 in
set_option maxHeartbeats 4000000 in
theorem cp_sign_y {E : Ev} {b : Nat → Nat} {K : Kt} {M : Hp} (hb : Lay E 162 b) {a : Nat} {kd pm : Nat → Int32} (hW : Wd E b (rdK K a kd pm) M) (hl : (K.2.2.2.1 0).2 ≤ 60) {c : Nat} (h : nx (K.2.2.2.1 0) a c = true) : Ct E mX0_readSign [.ref (b 3), .int (nI c)] M (WR E b (some (.int (nI 1))) (rdK K (a + 1) kd pm)) 0 0 := by
  refine Ct.of gmX0_readSign (ls := [.ref (b 3), .int (nI c)]) rfl rfl (Nat.le_of_ble_eq_true rfl) ?_
  intro X hX Q hQ
  have h8 : a < (K.2.2.2.1 0).2 ∧ (K.2.2.2.1 0).1 a = c := of_decide_eq_true h
  refine gq_aload_n hX dX0_readSign_0 rfl rfl rfl ?_
  refine gq_getf hX dX0_readSign_1 rfl fX0_29 hW.c3 rfl ?_
  rw [show (rdK K a kd pm).1 7 = nI (a) from rfl]
  refine gq_aload_n hX dX0_readSign_4 rfl rfl rfl ?_
  refine gq_getf hX dX0_readSign_5 rfl fX0_12 hW.c3 rfl ?_
  obtain ⟨fs1, hfs1⟩ := hW.o0 hb
  refine gq_callVe hX dX0_readSign_8 rfl vX0_32 (st_len hb hW) rfl hfs1 rfl rfl (Nat.le_of_ble_eq_true rfl) ⟨(Nat.le_of_ble_eq_true rfl), (Nat.le_of_ble_eq_true rfl)⟩ (Nat.zero_add _) (Nat.zero_add _) ?_
  rw [show (rdK K a kd pm).2.2.2.1 0 = K.2.2.2.1 0 from rfl]
  refine gq_icmp_geF (tgt := 41) hX dX0_readSign_11 rfl rfl (nI_ge h8.1 (by omega)) ?_
  refine gq_aload_n hX dX0_readSign_14 rfl rfl rfl ?_
  refine gq_getf hX dX0_readSign_15 rfl fX0_12 hW.c3 rfl ?_
  refine gq_aload_n hX dX0_readSign_18 rfl rfl rfl ?_
  refine gq_getf hX dX0_readSign_19 rfl fX0_29 hW.c3 rfl ?_
  rw [show (rdK K a kd pm).1 7 = nI (a) from rfl]
  obtain ⟨fs2, hfs2⟩ := hW.o0 hb
  refine gq_callVe hX dX0_readSign_22 rfl vX0_106 (st_charAt hb hW (j := a) h8.1) rfl hfs2 rfl rfl (Nat.le_of_ble_eq_true rfl) ⟨(Nat.le_of_ble_eq_true rfl), (Nat.le_of_ble_eq_true rfl)⟩ (Nat.zero_add _) (Nat.zero_add _) ?_
  refine gq_iload_n hX dX0_readSign_25 rfl rfl rfl ?_
  refine gq_icmp_neF (tgt := 41) hX dX0_readSign_26 rfl rfl (congrArg nI h8.2) ?_
  refine gq_aload_n hX dX0_readSign_29 rfl rfl rfl ?_
  refine gq_dup hX dX0_readSign_30 rfl rfl ?_
  refine gq_getf hX dX0_readSign_31 rfl fX0_29 hW.c3 rfl ?_
  rw [show (rdK K a kd pm).1 7 = nI (a) from rfl]
  refine gq_iconst (v := nI 1) hX dX0_readSign_34 rfl (by decide) ?_
  refine gq_iadd hX dX0_readSign_35 rfl ?_
  rw [inM]
  refine gq_putW hX dX0_readSign_36 rfl fX0_29 rfl rfl rfl hW.c3 (Nat.le_of_ble_eq_true rfl) (hb.2 3 (by decide)) (hW.w3_4 hb _) ?_
  intro M2 hW2
  rw [rdK_at] at hW2
  refine gq_iconst (v := nI 1) hX dX0_readSign_39 rfl (by decide) ?_
  exact gq_zret hX hQ dX0_readSign_40 rfl rfl ⟨rfl, hW2⟩

set_option maxRecDepth 100000 in
set_option maxHeartbeats 4000000 in
theorem cp_sign_n {E : Ev} {b : Nat → Nat} {K : Kt} {M : Hp} (hb : Lay E 162 b) {a : Nat} {kd pm : Nat → Int32} (hW : Wd E b (rdK K a kd pm) M) (hl : (K.2.2.2.1 0).2 ≤ 60) {c : Nat} (hc : c < 128) (ha : a < 1000) (h : nx (K.2.2.2.1 0) a c = false) : Ct E mX0_readSign [.ref (b 3), .int (nI c)] M (WR E b (some (.int (nI 0))) (rdK K a kd pm)) 0 0 := by
  refine Ct.of gmX0_readSign (ls := [.ref (b 3), .int (nI c)]) rfl rfl (Nat.le_of_ble_eq_true rfl) ?_
  intro X hX Q hQ
  have h8 : ¬ (a < (K.2.2.2.1 0).2 ∧ (K.2.2.2.1 0).1 a = c) := of_decide_eq_false h
  refine gq_aload_n hX dX0_readSign_0 rfl rfl rfl ?_
  refine gq_getf hX dX0_readSign_1 rfl fX0_29 hW.c3 rfl ?_
  rw [show (rdK K a kd pm).1 7 = nI (a) from rfl]
  refine gq_aload_n hX dX0_readSign_4 rfl rfl rfl ?_
  refine gq_getf hX dX0_readSign_5 rfl fX0_12 hW.c3 rfl ?_
  obtain ⟨fs1, hfs1⟩ := hW.o0 hb
  refine gq_callVe hX dX0_readSign_8 rfl vX0_32 (st_len hb hW) rfl hfs1 rfl rfl (Nat.le_of_ble_eq_true rfl) ⟨(Nat.le_of_ble_eq_true rfl), (Nat.le_of_ble_eq_true rfl)⟩ (Nat.zero_add _) (Nat.zero_add _) ?_
  rw [show (rdK K a kd pm).2.2.2.1 0 = K.2.2.2.1 0 from rfl]
  by_cases h9 : a < (K.2.2.2.1 0).2
  · refine gq_icmp_geF (tgt := 41) hX dX0_readSign_11 rfl rfl (nI_ge h9 (by omega)) ?_
    have hlt : (K.2.2.2.1 0).1 a < 128 := st_lt hb hW (j := a) h9
    refine gq_aload_n hX dX0_readSign_14 rfl rfl rfl ?_
    refine gq_getf hX dX0_readSign_15 rfl fX0_12 hW.c3 rfl ?_
    refine gq_aload_n hX dX0_readSign_18 rfl rfl rfl ?_
    refine gq_getf hX dX0_readSign_19 rfl fX0_29 hW.c3 rfl ?_
    rw [show (rdK K a kd pm).1 7 = nI (a) from rfl]
    obtain ⟨fs2, hfs2⟩ := hW.o0 hb
    refine gq_callVe hX dX0_readSign_22 rfl vX0_106 (st_charAt hb hW (j := a) h9) rfl hfs2 rfl rfl (Nat.le_of_ble_eq_true rfl) ⟨(Nat.le_of_ble_eq_true rfl), (Nat.le_of_ble_eq_true rfl)⟩ (Nat.zero_add _) (Nat.zero_add _) ?_
    refine gq_iload_n hX dX0_readSign_25 rfl rfl rfl ?_
    refine gq_icmp_neT (tgt := 41) hX dX0_readSign_26 rfl (fun e => h8 ⟨h9, (nI_eq (by omega) (by omega)).mp (show nI ((K.2.2.2.1 0).1 a) = nI c from e)⟩) ?_
    refine gq_iconst (v := nI 0) hX dX0_readSign_41 rfl (by decide) ?_
    exact gq_zret hX hQ dX0_readSign_42 rfl rfl ⟨rfl, hW⟩
  · refine gq_icmp_geT (tgt := 41) hX dX0_readSign_11 rfl (nI_le (by omega) (by omega)) ?_
    refine gq_iconst (v := nI 0) hX dX0_readSign_41 rfl (by decide) ?_
    exact gq_zret hX hQ dX0_readSign_42 rfl rfl ⟨rfl, hW⟩

set_option maxRecDepth 100000 in
set_option maxHeartbeats 4000000 in
theorem cp_digit {E : Ev} {b : Nat → Nat} {K : Kt} {M : Hp} (hb : Lay E 162 b) {a : Nat} {kd pm : Nat → Int32} (hW : Wd E b (rdK K a kd pm) M) (hl : (K.2.2.2.1 0).2 ≤ 60) (ha : a < 1000) : Ct E mX0_isAtDigit [.ref (b 3)] M (WR E b (some (.int (if dgt (K.2.2.2.1 0) a = true then nI 1 else nI 0))) (rdK K a kd pm)) 0 0 := by
  refine Ct.of gmX0_isAtDigit (ls := [.ref (b 3)]) rfl rfl (Nat.le_of_ble_eq_true rfl) ?_
  intro X hX Q hQ
  refine gq_aload_n hX dX0_isAtDigit_0 rfl rfl rfl ?_
  refine gq_getf hX dX0_isAtDigit_1 rfl fX0_29 hW.c3 rfl ?_
  rw [show (rdK K a kd pm).1 7 = nI (a) from rfl]
  refine gq_aload_n hX dX0_isAtDigit_4 rfl rfl rfl ?_
  refine gq_getf hX dX0_isAtDigit_5 rfl fX0_12 hW.c3 rfl ?_
  obtain ⟨fs1, hfs1⟩ := hW.o0 hb
  refine gq_callVe hX dX0_isAtDigit_8 rfl vX0_32 (st_len hb hW) rfl hfs1 rfl rfl (Nat.le_of_ble_eq_true rfl) ⟨(Nat.le_of_ble_eq_true rfl), (Nat.le_of_ble_eq_true rfl)⟩ (Nat.zero_add _) (Nat.zero_add _) ?_
  rw [show (rdK K a kd pm).2.2.2.1 0 = K.2.2.2.1 0 from rfl]
  by_cases h9 : a < (K.2.2.2.1 0).2
  · refine gq_icmp_geF (tgt := 50) hX dX0_isAtDigit_11 rfl rfl (nI_ge h9 (by omega)) ?_
    have hlt : (K.2.2.2.1 0).1 a < 128 := st_lt hb hW (j := a) h9
    refine gq_aload_n hX dX0_isAtDigit_14 rfl rfl rfl ?_
    refine gq_getf hX dX0_isAtDigit_15 rfl fX0_12 hW.c3 rfl ?_
    refine gq_aload_n hX dX0_isAtDigit_18 rfl rfl rfl ?_
    refine gq_getf hX dX0_isAtDigit_19 rfl fX0_29 hW.c3 rfl ?_
    rw [show (rdK K a kd pm).1 7 = nI (a) from rfl]
    obtain ⟨fs2, hfs2⟩ := hW.o0 hb
    refine gq_callVe hX dX0_isAtDigit_22 rfl vX0_106 (st_charAt hb hW (j := a) h9) rfl hfs2 rfl rfl (Nat.le_of_ble_eq_true rfl) ⟨(Nat.le_of_ble_eq_true rfl), (Nat.le_of_ble_eq_true rfl)⟩ (Nat.zero_add _) (Nat.zero_add _) ?_
    rw [show ((rdK K a kd pm).2.2.2.1 0).1 a = (K.2.2.2.1 0).1 a from rfl]
    refine gq_bipush (v := nI 48) hX dX0_isAtDigit_25 rfl (by decide) ?_
    by_cases h48 : (K.2.2.2.1 0).1 a < 48
    · refine gq_icmp_ltT (tgt := 50) hX dX0_isAtDigit_27 rfl (nI_lt h48 (by decide)) ?_
      have hd : ¬ dgt (K.2.2.2.1 0) a = true := fun e => by have h8 : a < (K.2.2.2.1 0).2 ∧ 48 ≤ (K.2.2.2.1 0).1 a ∧ (K.2.2.2.1 0).1 a ≤ 57 := of_decide_eq_true e; omega
      refine gq_iconst (v := nI 0) hX dX0_isAtDigit_50 rfl (by decide) ?_
      exact gq_zret hX hQ dX0_isAtDigit_51 rfl rfl ⟨by rw [if_neg hd], hW⟩
    · refine gq_icmp_ltF (tgt := 50) hX dX0_isAtDigit_27 rfl rfl (nI_nlt (by omega) (by omega)) ?_
      refine gq_aload_n hX dX0_isAtDigit_30 rfl rfl rfl ?_
      refine gq_getf hX dX0_isAtDigit_31 rfl fX0_12 hW.c3 rfl ?_
      refine gq_aload_n hX dX0_isAtDigit_34 rfl rfl rfl ?_
      refine gq_getf hX dX0_isAtDigit_35 rfl fX0_29 hW.c3 rfl ?_
      rw [show (rdK K a kd pm).1 7 = nI (a) from rfl]
      obtain ⟨fs3, hfs3⟩ := hW.o0 hb
      refine gq_callVe hX dX0_isAtDigit_38 rfl vX0_106 (st_charAt hb hW (j := a) h9) rfl hfs3 rfl rfl (Nat.le_of_ble_eq_true rfl) ⟨(Nat.le_of_ble_eq_true rfl), (Nat.le_of_ble_eq_true rfl)⟩ (Nat.zero_add _) (Nat.zero_add _) ?_
      rw [show ((rdK K a kd pm).2.2.2.1 0).1 a = (K.2.2.2.1 0).1 a from rfl]
      refine gq_bipush (v := nI 57) hX dX0_isAtDigit_41 rfl (by decide) ?_
      by_cases h57 : (K.2.2.2.1 0).1 a ≤ 57
      · refine gq_icmp_gtF (tgt := 50) hX dX0_isAtDigit_43 rfl rfl (nI_nlt h57 (by decide)) ?_
        have hd : dgt (K.2.2.2.1 0) a = true := decide_eq_true ⟨h9, by omega, h57⟩
        refine gq_iconst (v := nI 1) hX dX0_isAtDigit_46 rfl (by decide) ?_
        refine gq_goto (tgt := 51) hX dX0_isAtDigit_47 rfl ?_
        exact gq_zret hX hQ dX0_isAtDigit_51 rfl rfl ⟨by rw [if_pos hd], hW⟩
      · refine gq_icmp_gtT (tgt := 50) hX dX0_isAtDigit_43 rfl (nI_lt (by omega) (by omega)) ?_
        have hd : ¬ dgt (K.2.2.2.1 0) a = true := fun e => by have h8 : a < (K.2.2.2.1 0).2 ∧ 48 ≤ (K.2.2.2.1 0).1 a ∧ (K.2.2.2.1 0).1 a ≤ 57 := of_decide_eq_true e; omega
        refine gq_iconst (v := nI 0) hX dX0_isAtDigit_50 rfl (by decide) ?_
        exact gq_zret hX hQ dX0_isAtDigit_51 rfl rfl ⟨by rw [if_neg hd], hW⟩
  · refine gq_icmp_geT (tgt := 50) hX dX0_isAtDigit_11 rfl (nI_le (by omega) (by omega)) ?_
    have hd : ¬ dgt (K.2.2.2.1 0) a = true := fun e => by have h8 : a < (K.2.2.2.1 0).2 ∧ 48 ≤ (K.2.2.2.1 0).1 a ∧ (K.2.2.2.1 0).1 a ≤ 57 := of_decide_eq_true e; omega
    refine gq_iconst (v := nI 0) hX dX0_isAtDigit_50 rfl (by decide) ?_
    exact gq_zret hX hQ dX0_isAtDigit_51 rfl rfl ⟨by rw [if_neg hd], hW⟩

theorem nI_dig2 {v c : Nat} (h : 48 ≤ c) : nI 10 * nI v + (nI c - nI 48) = nI (10 * v + (c - 48)) := by
  rw [nI_m, pk_sub h, nI_add]

set_option maxRecDepth 100000 in
set_option maxHeartbeats 4000000 in
theorem cp_number {E : Ev} {b : Nat → Nat} {K : Kt} {M : Hp} (hb : Lay E 162 b) {a : Nat} {kd pm : Nat → Int32} (hW : Wd E b (rdK K a kd pm) M) (hl : (K.2.2.2.1 0).2 ≤ 60) {m p : Nat} (ha : a ≤ 900) (hm : m ≤ 3) (hp : p < 120) : Ct E mX0_readNumber [.ref (b 3), .int (nI m), .int (nI p)] M (WR E b (some (.int (if dgm (K.2.2.2.1 0) a m = 0 then nI 0 else nI 1))) (rdK K (a + dgm (K.2.2.2.1 0) a m) kd (upd pm p (nI (valN (K.2.2.2.1 0) a (dgm (K.2.2.2.1 0) a m)))))) 0 0 := by
  refine Ct.of gmX0_readNumber (ls := [.ref (b 3), .int (nI m), .int (nI p), hole, hole]) rfl rfl (Nat.le_of_ble_eq_true rfl) ?_
  intro X hX Q hQ
  refine gq_iconst (v := nI 0) hX dX0_readNumber_0 rfl (by decide) ?_
  refine gq_istore_n hX dX0_readNumber_1 rfl rfl (Nat.le_of_ble_eq_true rfl) rfl ?_
  refine gq_iconst (v := nI 0) hX dX0_readNumber_2 rfl (by decide) ?_
  refine gq_istore hX dX0_readNumber_3 rfl (Nat.le_of_ble_eq_true rfl) rfl ?_
  have lp : ∀ r q : Nat, q + r = m → dgm (K.2.2.2.1 0) a m = q + dgm (K.2.2.2.1 0) (a + q) r → ∀ M5, Wd E b (rdK K (a + q) kd pm) M5 → Gq E X mX0_readNumber Q 5 [.ref (b 3), .int (nI m), .int (nI p), .int (nI (valN (K.2.2.2.1 0) a q)), .int (nI q)] [] M5 0 0 := by
    intro r
    have fin : ∀ (q : Nat) (M5 : Hp), dgm (K.2.2.2.1 0) a m = q → q ≤ m → Wd E b (rdK K (a + q) kd pm) M5 → Gq E X mX0_readNumber Q 54 [.ref (b 3), .int (nI m), .int (nI p), .int (nI (valN (K.2.2.2.1 0) a q)), .int (nI q)] [] M5 0 0 := by
      intro q M5 hq hqm hW5
      refine gq_aload_n hX dX0_readNumber_54 rfl rfl rfl ?_
      refine gq_getf hX dX0_readNumber_55 rfl fX0_22 hW5.c3 rfl ?_
      refine gq_iload_n hX dX0_readNumber_58 rfl rfl rfl ?_
      refine gq_iload_n hX dX0_readNumber_59 rfl rfl rfl ?_
      refine gq_iastN hX dX0_readNumber_60 rfl hW5.c5 rfl (by omega) (Nat.le_of_ble_eq_true rfl) (hb.2 5 (by decide)) rfl ?_
      rw [show (rdK K (a + q) kd pm).2.2.1 1 = pm from rfl]
      have hW6 := hW5.w5 hb (upd pm p (nI (valN (K.2.2.2.1 0) a q)))
      rw [rdK_pm, ← hq] at hW6
      rw [← hq]
      have hq0 : dgm (K.2.2.2.1 0) a m < 100000 := by omega
      refine gq_iload hX dX0_readNumber_61 rfl rfl ?_
      by_cases h0 : dgm (K.2.2.2.1 0) a m = 0
      · refine gq_if_leT (tgt := 70) hX dX0_readNumber_63 rfl (by rw [h0]; decide) ?_
        refine gq_iconst (v := nI 0) hX dX0_readNumber_70 rfl (by decide) ?_
        exact gq_zret hX hQ dX0_readNumber_71 rfl rfl ⟨by rw [if_pos h0], hW6⟩
      · refine gq_if_leF (tgt := 70) hX dX0_readNumber_63 rfl rfl (nI_nle (by omega) (by omega)) ?_
        refine gq_iconst (v := nI 1) hX dX0_readNumber_66 rfl (by decide) ?_
        refine gq_goto (tgt := 71) hX dX0_readNumber_67 rfl ?_
        exact gq_zret hX hQ dX0_readNumber_71 rfl rfl ⟨by rw [if_neg h0], hW6⟩
    induction r with
    | zero =>
      intro q hq hd M5 hW5
      refine gq_iload hX dX0_readNumber_5 rfl rfl ?_
      refine gq_iload_n hX dX0_readNumber_7 rfl rfl rfl ?_
      refine gq_icmp_geT (tgt := 54) hX dX0_readNumber_8 rfl (by rw [show q = m by omega]; exact nI_le (Nat.le_refl _) (by omega)) ?_
      exact fin q M5 (by rw [hd]; rfl) (by omega) hW5
    | succ r ih =>
      intro q hq hd M5 hW5
      refine gq_iload hX dX0_readNumber_5 rfl rfl ?_
      refine gq_iload_n hX dX0_readNumber_7 rfl rfl rfl ?_
      refine gq_icmp_geF (tgt := 54) hX dX0_readNumber_8 rfl rfl (nI_ge (by omega) (by omega)) ?_
      refine gq_aload_n hX dX0_readNumber_11 rfl rfl rfl ?_
      refine gq_callVw hX dX0_readNumber_12 rfl vX0_103 (cp_digit hb hW5 hl (by omega)) rfl hW5.c3 rfl rfl (Nat.le_of_ble_eq_true rfl) ⟨(Nat.le_of_ble_eq_true rfl), (Nat.le_of_ble_eq_true rfl)⟩ (Nat.zero_add _) (Nat.zero_add _) ?_
      intro M7 hW7
      by_cases hg : dgt (K.2.2.2.1 0) (a + q) = true
      · have h9 : a + q < (K.2.2.2.1 0).2 ∧ 48 ≤ (K.2.2.2.1 0).1 (a + q) ∧ (K.2.2.2.1 0).1 (a + q) ≤ 57 := of_decide_eq_true hg
        rw [if_pos hg]
        refine gq_if_eqF (tgt := 54) hX dX0_readNumber_15 rfl rfl (by decide) ?_
        refine gq_bipush (v := nI 10) hX dX0_readNumber_18 rfl (by decide) ?_
        refine gq_iload_n hX dX0_readNumber_20 rfl rfl rfl ?_
        refine gq_imul hX dX0_readNumber_21 rfl ?_
        refine gq_aload_n hX dX0_readNumber_22 rfl rfl rfl ?_
        refine gq_getf hX dX0_readNumber_23 rfl fX0_12 hW7.c3 rfl ?_
        refine gq_aload_n hX dX0_readNumber_26 rfl rfl rfl ?_
        refine gq_getf hX dX0_readNumber_27 rfl fX0_29 hW7.c3 rfl ?_
        rw [show (rdK K (a + q) kd pm).1 7 = nI (a + q) from rfl]
        obtain ⟨fs1, hfs1⟩ := hW7.o0 hb
        refine gq_callVe hX dX0_readNumber_30 rfl vX0_106 (st_charAt hb hW7 (j := a + q) h9.1) rfl hfs1 rfl rfl (Nat.le_of_ble_eq_true rfl) ⟨(Nat.le_of_ble_eq_true rfl), (Nat.le_of_ble_eq_true rfl)⟩ (Nat.zero_add _) (Nat.zero_add _) ?_
        rw [show ((rdK K (a + q) kd pm).2.2.2.1 0).1 (a + q) = (K.2.2.2.1 0).1 (a + q) from rfl]
        refine gq_bipush (v := nI 48) hX dX0_readNumber_33 rfl (by decide) ?_
        refine gq_isub hX dX0_readNumber_35 rfl ?_
        refine gq_iadd hX dX0_readNumber_36 rfl ?_
        rw [nI_dig2 h9.2.1, ← valN_s]
        refine gq_istore_n hX dX0_readNumber_37 rfl rfl (Nat.le_of_ble_eq_true rfl) rfl ?_
        refine gq_iinc hX dX0_readNumber_38 rfl rfl (inc1 _) (Nat.le_of_ble_eq_true rfl) rfl ?_
        refine gq_aload_n hX dX0_readNumber_41 rfl rfl rfl ?_
        refine gq_dup hX dX0_readNumber_42 rfl rfl ?_
        refine gq_getf hX dX0_readNumber_43 rfl fX0_29 hW7.c3 rfl ?_
        rw [show (rdK K (a + q) kd pm).1 7 = nI (a + q) from rfl]
        refine gq_iconst (v := nI 1) hX dX0_readNumber_46 rfl (by decide) ?_
        refine gq_iadd hX dX0_readNumber_47 rfl ?_
        rw [inM]
        refine gq_putW hX dX0_readNumber_48 rfl fX0_29 rfl rfl rfl hW7.c3 (Nat.le_of_ble_eq_true rfl) (hb.2 3 (by decide)) (hW7.w3_4 hb _) ?_
        intro M11 hW11
        rw [rdK_at, show a + q + 1 = a + (q + 1) from rfl] at hW11
        refine gq_goto (tgt := 5) hX dX0_readNumber_51 rfl ?_
        have hd2 : dgm (K.2.2.2.1 0) (a + q) (r + 1) = 1 + dgm (K.2.2.2.1 0) (a + q + 1) r := by rw [dgm, if_pos hg]
        exact ih (q + 1) (by omega) (by rw [hd, hd2, show a + (q + 1) = a + q + 1 from rfl]; omega) _ hW11
      · rw [if_neg hg]
        refine gq_if_eqT (tgt := 54) hX dX0_readNumber_15 rfl rfl ?_
        have hd2 : dgm (K.2.2.2.1 0) (a + q) (r + 1) = 0 := by rw [dgm, if_neg hg]
        exact fin q M7 (by rw [hd, hd2]; rfl) (by omega) hW7
  exact lp m 0 (by omega) (by rw [Nat.zero_add]; rfl) M hW

