theorem nar_fl {S : St} {j : Nat} {v : Int32} (h : Nar S) (hv : vp_nar .boolean v = v) : Nar (setA S 3 (upd (S.2 3) j v)) := ⟨nar_upd h.1 hv, h.2.1, h.2.2⟩
theorem nar_tb {S : St} {j : Nat} {v : Int32} (h : Nar S) (hv : vp_nar .boolean v = v) : Nar (setA S 12 (upd (S.2 12) j v)) := ⟨h.1, h.2.1, nar_upd h.2.2 hv⟩
theorem nar_groS {S : St} {nt j : Nat} (h : Nar S) : Nar (groS S nt j) := ⟨nar_upd h.1 vz0, h.2.1, h.2.2⟩

set_option maxRecDepth 100000 in
set_option maxHeartbeats 4000000 in
theorem mt_addsCom {E : Ev} {b : Nat → Nat} {T : St} {M : Hp} (hb : Lay E 9 b) {S : St} {nc nt no : Nat} (hwf : Wf S nc nt no) (hlt : nc < 6) (m : Int32) : Ct E mX5_addsCommittee [.ref (b 0), .int m] (MdW E b T (wOf S nc nt no) M) (eqR (some (.int (nI nc))) (MdW E b T (wOf (comS S nc m) (nc + 1) nt no) M)) 0 0 := by
  refine Ct.of gmX5_addsCommittee (ls := [.ref (b 0), .int m, hole]) rfl rfl (Nat.le_of_ble_eq_true rfl) ?_
  intro X hX Q hQ
  have hwf2 := hwf
  obtain ⟨hnc, hncl, hnt, hntl, hno, hnol⟩ := hwf2
  have hw0 : wOf S nc nt no 0 = nI nc := hnc
  have hw1 : wOf S nc nt no 1 = nI nt := hnt
  have hw2 : wOf S nc nt no 2 = nI no := hno
  refine gq_aload_n hX dX5_addsCommittee_0 rfl rfl rfl ?_
  refine gq_getf hX dX5_addsCommittee_1 rfl fX5_7 (mqR0 hb) rfl ?_
  refine gq_iconst (v := nI 0) hX dX5_addsCommittee_4 rfl (by decide) ?_
  refine gq_ialdN hX dX5_addsCommittee_5 rfl (mqR1 hb) rfl (by omega) (Nat.le_of_ble_eq_true rfl) ?_
  rw [hw0]
  refine gq_istore_n hX dX5_addsCommittee_6 rfl rfl (Nat.le_of_ble_eq_true rfl) rfl ?_
  refine gq_aload_n hX dX5_addsCommittee_7 rfl rfl rfl ?_
  refine gq_iload_n hX dX5_addsCommittee_8 rfl rfl rfl ?_
  refine gq_iconst (v := nI 0) hX dX5_addsCommittee_9 rfl (by decide) ?_
  refine gq_iload_n hX dX5_addsCommittee_10 rfl rfl rfl ?_
  refine gq_callVe hX dX5_addsCommittee_11 rfl vX5_71 (mt_puts hb (c := nc) (x := 0) (by omega) (by decide) _) rfl (mqR0 hb) rfl rfl (Nat.le_of_ble_eq_true rfl) ⟨(Nat.le_of_ble_eq_true rfl), (Nat.le_of_ble_eq_true rfl)⟩ (Nat.zero_add _) (Nat.zero_add _) ?_
  refine gq_aload_n hX dX5_addsCommittee_14 rfl rfl rfl ?_
  refine gq_iload_n hX dX5_addsCommittee_15 rfl rfl rfl ?_
  refine gq_iconst (v := nI 1) hX dX5_addsCommittee_16 rfl (by decide) ?_
  refine gq_iconst (v := nI 0) hX dX5_addsCommittee_17 rfl (by decide) ?_
  refine gq_callVe hX dX5_addsCommittee_18 rfl vX5_71 (mt_puts hb (c := nc) (x := 1) (by omega) (by decide) _) rfl (mqR0 hb) rfl rfl (Nat.le_of_ble_eq_true rfl) ⟨(Nat.le_of_ble_eq_true rfl), (Nat.le_of_ble_eq_true rfl)⟩ (Nat.zero_add _) (Nat.zero_add _) ?_
  refine gq_aload_n hX dX5_addsCommittee_21 rfl rfl rfl ?_
  refine gq_iload_n hX dX5_addsCommittee_22 rfl rfl rfl ?_
  refine gq_iconst (v := nI 2) hX dX5_addsCommittee_23 rfl (by decide) ?_
  refine gq_iconst (v := nI 1) hX dX5_addsCommittee_24 rfl (by decide) ?_
  refine gq_callVe hX dX5_addsCommittee_25 rfl vX5_71 (mt_puts hb (c := nc) (x := 2) (by omega) (by decide) _) rfl (mqR0 hb) rfl rfl (Nat.le_of_ble_eq_true rfl) ⟨(Nat.le_of_ble_eq_true rfl), (Nat.le_of_ble_eq_true rfl)⟩ (Nat.zero_add _) (Nat.zero_add _) ?_
  refine gq_aload_n hX dX5_addsCommittee_28 rfl rfl rfl ?_
  refine gq_getf hX dX5_addsCommittee_29 rfl fX5_7 (mqR0 hb) rfl ?_
  refine gq_iconst (v := nI 0) hX dX5_addsCommittee_32 rfl (by decide) ?_
  refine gq_dup2 hX dX5_addsCommittee_33 rfl rfl rfl ?_
  refine gq_ialdN hX dX5_addsCommittee_34 rfl (mqR1 hb) rfl (by omega) (Nat.le_of_ble_eq_true rfl) ?_
  rw [upd_n _ (by omega), upd_n _ (by omega), upd_n _ (by omega), hw0]
  refine gq_iconst (v := nI 1) hX dX5_addsCommittee_35 rfl (by decide) ?_
  refine gq_iadd hX dX5_addsCommittee_36 rfl ?_
  rw [inM]
  refine gq_iastN hX dX5_addsCommittee_37 rfl (mqR1 hb) rfl (by omega) (Nat.le_of_ble_eq_true rfl) (hb.2 1 (by decide)) (mqW1 hb) ?_
  refine gq_iload_n hX dX5_addsCommittee_38 rfl rfl rfl ?_
  refine gq_iret hX hQ dX5_addsCommittee_39 rfl ⟨rfl, congrArg (fun z => MdW E b T z M) ?_⟩
  exact w_com hwf hlt

set_option maxRecDepth 100000 in
set_option maxHeartbeats 4000000 in
theorem mt_addsTail {E : Ev} {b : Nat → Nat} {T : St} {M : Hp} (hb : Lay E 9 b) {S : St} {nc nt no : Nat} (hwf : Wf S nc nt no) (hlt : nt < 8) (x : Int32) : Ct E mX5_addsTail [.ref (b 0), .int x] (MdW E b T (wOf S nc nt no) M) (eqR (some (.int (nI nt))) (MdW E b T (wOf (taiS S nt x) nc (nt + 1) no) M)) 0 0 := by
  refine Ct.of gmX5_addsTail (ls := [.ref (b 0), .int x, hole]) rfl rfl (Nat.le_of_ble_eq_true rfl) ?_
  intro X hX Q hQ
  have hwf2 := hwf
  obtain ⟨hnc, hncl, hnt, hntl, hno, hnol⟩ := hwf2
  have hw0 : wOf S nc nt no 0 = nI nc := hnc
  have hw1 : wOf S nc nt no 1 = nI nt := hnt
  have hw2 : wOf S nc nt no 2 = nI no := hno
  refine gq_bipush (v := nI 27) hX dX5_addsTail_0 rfl (by decide) ?_
  refine gq_iconst (v := nI 2) hX dX5_addsTail_2 rfl (by decide) ?_
  refine gq_aload_n hX dX5_addsTail_3 rfl rfl rfl ?_
  refine gq_getf hX dX5_addsTail_4 rfl fX5_7 (mqR0 hb) rfl ?_
  refine gq_iconst (v := nI 1) hX dX5_addsTail_7 rfl (by decide) ?_
  refine gq_ialdN hX dX5_addsTail_8 rfl (mqR1 hb) rfl (by omega) (Nat.le_of_ble_eq_true rfl) ?_
  rw [hw1]
  refine gq_imul hX dX5_addsTail_9 rfl ?_
  rw [nI_m]
  refine gq_iadd hX dX5_addsTail_10 rfl ?_
  rw [nI_add]
  refine gq_istore_n hX dX5_addsTail_11 rfl rfl (Nat.le_of_ble_eq_true rfl) rfl ?_
  refine gq_aload_n hX dX5_addsTail_12 rfl rfl rfl ?_
  refine gq_getf hX dX5_addsTail_13 rfl fX5_7 (mqR0 hb) rfl ?_
  refine gq_iload_n hX dX5_addsTail_16 rfl rfl rfl ?_
  refine gq_iconst (v := nI 0) hX dX5_addsTail_17 rfl (by decide) ?_
  refine gq_iadd hX dX5_addsTail_18 rfl ?_
  rw [nI_add]
  refine gq_iload_n hX dX5_addsTail_19 rfl rfl rfl ?_
  refine gq_iastN hX dX5_addsTail_20 rfl (mqR1 hb) rfl (by omega) (Nat.le_of_ble_eq_true rfl) (hb.2 1 (by decide)) (mqW1 hb) ?_
  refine gq_aload_n hX dX5_addsTail_21 rfl rfl rfl ?_
  refine gq_getf hX dX5_addsTail_22 rfl fX5_7 (mqR0 hb) rfl ?_
  refine gq_iload_n hX dX5_addsTail_25 rfl rfl rfl ?_
  refine gq_iconst (v := nI 1) hX dX5_addsTail_26 rfl (by decide) ?_
  refine gq_iadd hX dX5_addsTail_27 rfl ?_
  rw [nI_add]
  refine gq_iconst (v := nI 0) hX dX5_addsTail_28 rfl (by decide) ?_
  refine gq_iastN hX dX5_addsTail_29 rfl (mqR1 hb) rfl (by omega) (Nat.le_of_ble_eq_true rfl) (hb.2 1 (by decide)) (mqW1 hb) ?_
  refine gq_aload_n hX dX5_addsTail_30 rfl rfl rfl ?_
  refine gq_getf hX dX5_addsTail_31 rfl fX5_7 (mqR0 hb) rfl ?_
  refine gq_iconst (v := nI 1) hX dX5_addsTail_34 rfl (by decide) ?_
  refine gq_dup2 hX dX5_addsTail_35 rfl rfl rfl ?_
  refine gq_ialdN hX dX5_addsTail_36 rfl (mqR1 hb) rfl (by omega) (Nat.le_of_ble_eq_true rfl) ?_
  rw [upd_n _ (by omega), upd_n _ (by omega), hw1]
  refine gq_iconst (v := nI 1) hX dX5_addsTail_37 rfl (by decide) ?_
  refine gq_iadd hX dX5_addsTail_38 rfl ?_
  rw [inM]
  refine gq_iastN hX dX5_addsTail_39 rfl (mqR1 hb) rfl (by omega) (Nat.le_of_ble_eq_true rfl) (hb.2 1 (by decide)) (mqW1 hb) ?_
  refine gq_aload_n hX dX5_addsTail_40 rfl rfl rfl ?_
  refine gq_getf hX dX5_addsTail_41 rfl fX5_7 (mqR0 hb) rfl ?_
  refine gq_iconst (v := nI 1) hX dX5_addsTail_44 rfl (by decide) ?_
  refine gq_ialdN hX dX5_addsTail_45 rfl (mqR1 hb) rfl (by omega) (Nat.le_of_ble_eq_true rfl) ?_
  rw [upd_s]
  refine gq_iconst (v := nI 1) hX dX5_addsTail_46 rfl (by decide) ?_
  refine gq_isub hX dX5_addsTail_47 rfl ?_
  refine gq_iret hX hQ dX5_addsTail_48 rfl ⟨by rw [dcm], congrArg (fun z => MdW E b T z M) ?_⟩
  exact w_tai hwf hlt

set_option maxRecDepth 100000 in
set_option maxHeartbeats 4000000 in
theorem mt_charges {E : Ev} {b : Nat → Nat} {T : St} {M : Hp} (hb : Lay E 9 b) {S : St} {nc nt no : Nat} (hwf : Wf S nc nt no) {j : Nat} (hj : j < nc) (x : Int32) : Ct E mX5_charges [.ref (b 0), .int (nI j), .int x] (MdW E b T (wOf S nc nt no) M) (eqR (none) (MdW E b T (wOf (setS (setA S 2 (upd (S.2 2) j (S.2 2 j + x))) 6 (S.1 6 + x)) nc nt no) M)) 0 0 := by
  refine Ct.of gmX5_charges (ls := [.ref (b 0), .int (nI j), .int x]) rfl rfl (Nat.le_of_ble_eq_true rfl) ?_
  intro X hX Q hQ
  have hwf2 := hwf
  obtain ⟨hnc, hncl, hnt, hntl, hno, hnol⟩ := hwf2
  have hw0 : wOf S nc nt no 0 = nI nc := hnc
  have hw1 : wOf S nc nt no 1 = nI nt := hnt
  have hw2 : wOf S nc nt no 2 = nI no := hno
  refine gq_aload_n hX dX5_charges_0 rfl rfl rfl ?_
  refine gq_iload_n hX dX5_charges_1 rfl rfl rfl ?_
  refine gq_iconst (v := nI 1) hX dX5_charges_2 rfl (by decide) ?_
  refine gq_aload_n hX dX5_charges_3 rfl rfl rfl ?_
  refine gq_iload_n hX dX5_charges_4 rfl rfl rfl ?_
  refine gq_iconst (v := nI 1) hX dX5_charges_5 rfl (by decide) ?_
  refine gq_callVe hX dX5_charges_6 rfl vX5_65 (mt_of hb (c := j) (x := 1) (by omega) (by decide)) rfl (mqR0 hb) rfl rfl (Nat.le_of_ble_eq_true rfl) ⟨(Nat.le_of_ble_eq_true rfl), (Nat.le_of_ble_eq_true rfl)⟩ (Nat.zero_add _) (Nat.zero_add _) ?_
  rw [wC1 hncl hj]
  refine gq_iload_n hX dX5_charges_9 rfl rfl rfl ?_
  refine gq_iadd hX dX5_charges_10 rfl ?_
  refine gq_callVe hX dX5_charges_11 rfl vX5_71 (mt_puts hb (c := j) (x := 1) (by omega) (by decide) _) rfl (mqR0 hb) rfl rfl (Nat.le_of_ble_eq_true rfl) ⟨(Nat.le_of_ble_eq_true rfl), (Nat.le_of_ble_eq_true rfl)⟩ (Nat.zero_add _) (Nat.zero_add _) ?_
  rw [wU_ar hncl hj]
  refine gq_aload_n hX dX5_charges_14 rfl rfl rfl ?_
  refine gq_getf hX dX5_charges_15 rfl fX5_7 (mqR0 hb) rfl ?_
  refine gq_bipush (v := nI 8) hX dX5_charges_18 rfl (by decide) ?_
  refine gq_dup2 hX dX5_charges_20 rfl rfl rfl ?_
  refine gq_ialdN hX dX5_charges_21 rfl (mqR1 hb) rfl (by omega) (Nat.le_of_ble_eq_true rfl) ?_
  rw [wS8]
  refine gq_iload_n hX dX5_charges_22 rfl rfl rfl ?_
  refine gq_iadd hX dX5_charges_23 rfl ?_
  refine gq_iastN hX dX5_charges_24 rfl (mqR1 hb) rfl (by omega) (Nat.le_of_ble_eq_true rfl) (hb.2 1 (by decide)) (mqW1 hb) ?_
  rw [wU_8]
  exact gq_vret hX hQ dX5_charges_25 rfl ⟨rfl, rfl⟩

set_option maxRecDepth 100000 in
set_option maxHeartbeats 4000000 in
theorem mt_pays {E : Ev} {b : Nat → Nat} {T : St} {M : Hp} (hb : Lay E 9 b) {S : St} {nc nt no : Nat} (hwf : Wf S nc nt no) {j : Nat} (hj : j < nc) (x : Int32) : Ct E mX5_pays [.ref (b 0), .int (nI j), .int x] (MdW E b T (wOf S nc nt no) M) (eqR (some (.int (S.2 2 j - x))) (MdW E b T (wOf (payS S j x) nc nt no) M)) 0 0 := by
  refine Ct.of gmX5_pays (ls := [.ref (b 0), .int (nI j), .int x]) rfl rfl (Nat.le_of_ble_eq_true rfl) ?_
  intro X hX Q hQ
  have hwf2 := hwf
  obtain ⟨hnc, hncl, hnt, hntl, hno, hnol⟩ := hwf2
  have hw0 : wOf S nc nt no 0 = nI nc := hnc
  have hw1 : wOf S nc nt no 1 = nI nt := hnt
  have hw2 : wOf S nc nt no 2 = nI no := hno
  refine gq_aload_n hX dX5_pays_0 rfl rfl rfl ?_
  refine gq_iload_n hX dX5_pays_1 rfl rfl rfl ?_
  refine gq_iconst (v := nI 1) hX dX5_pays_2 rfl (by decide) ?_
  refine gq_aload_n hX dX5_pays_3 rfl rfl rfl ?_
  refine gq_iload_n hX dX5_pays_4 rfl rfl rfl ?_
  refine gq_iconst (v := nI 1) hX dX5_pays_5 rfl (by decide) ?_
  refine gq_callVe hX dX5_pays_6 rfl vX5_65 (mt_of hb (c := j) (x := 1) (by omega) (by decide)) rfl (mqR0 hb) rfl rfl (Nat.le_of_ble_eq_true rfl) ⟨(Nat.le_of_ble_eq_true rfl), (Nat.le_of_ble_eq_true rfl)⟩ (Nat.zero_add _) (Nat.zero_add _) ?_
  rw [wC1 hncl hj]
  refine gq_iload_n hX dX5_pays_9 rfl rfl rfl ?_
  refine gq_isub hX dX5_pays_10 rfl ?_
  refine gq_callVe hX dX5_pays_11 rfl vX5_71 (mt_puts hb (c := j) (x := 1) (by omega) (by decide) _) rfl (mqR0 hb) rfl rfl (Nat.le_of_ble_eq_true rfl) ⟨(Nat.le_of_ble_eq_true rfl), (Nat.le_of_ble_eq_true rfl)⟩ (Nat.zero_add _) (Nat.zero_add _) ?_
  rw [wU_ar hncl hj]
  refine gq_aload_n hX dX5_pays_14 rfl rfl rfl ?_
  refine gq_getf hX dX5_pays_15 rfl fX5_7 (mqR0 hb) rfl ?_
  refine gq_bipush (v := nI 7) hX dX5_pays_18 rfl (by decide) ?_
  refine gq_dup2 hX dX5_pays_20 rfl rfl rfl ?_
  refine gq_ialdN hX dX5_pays_21 rfl (mqR1 hb) rfl (by omega) (Nat.le_of_ble_eq_true rfl) ?_
  rw [wS7]
  refine gq_iload_n hX dX5_pays_22 rfl rfl rfl ?_
  refine gq_iadd hX dX5_pays_23 rfl ?_
  refine gq_iastN hX dX5_pays_24 rfl (mqR1 hb) rfl (by omega) (Nat.le_of_ble_eq_true rfl) (hb.2 1 (by decide)) (mqW1 hb) ?_
  rw [wU_7]
  refine gq_aload_n hX dX5_pays_25 rfl rfl rfl ?_
  refine gq_iload_n hX dX5_pays_26 rfl rfl rfl ?_
  refine gq_iconst (v := nI 1) hX dX5_pays_27 rfl (by decide) ?_
  refine gq_callVe hX dX5_pays_28 rfl vX5_65 (mt_of hb (c := j) (x := 1) (by omega) (by decide)) rfl (mqR0 hb) rfl rfl (Nat.le_of_ble_eq_true rfl) ⟨(Nat.le_of_ble_eq_true rfl), (Nat.le_of_ble_eq_true rfl)⟩ (Nat.zero_add _) (Nat.zero_add _) ?_
  rw [wC1 hncl hj]
  exact gq_iret hX hQ dX5_pays_31 rfl ⟨congrArg (fun z => some (Value.int z)) (upd_s _ _ _), rfl⟩

set_option maxRecDepth 100000 in
set_option maxHeartbeats 4000000 in
theorem mt_launches {E : Ev} {b : Nat → Nat} {T : St} {M : Hp} (hb : Lay E 9 b) {S : St} {nc nt no : Nat} (hwf : Wf S nc nt no) (hn : Nar S) {j : Nat} (hj : j < nc) : Ct E mX5_launches [.ref (b 0), .int (nI j)] (MdW E b T (wOf S nc nt no) M) (eqR (some (.int (cntFly (flyS S j) nc))) (MdW E b T (wOf (flyS S j) nc nt no) M)) 0 0 := by
  refine Ct.of gmX5_launches (ls := [.ref (b 0), .int (nI j)]) rfl rfl (Nat.le_of_ble_eq_true rfl) ?_
  intro X hX Q hQ
  have hwf2 := hwf
  obtain ⟨hnc, hncl, hnt, hntl, hno, hnol⟩ := hwf2
  have hw0 : wOf S nc nt no 0 = nI nc := hnc
  have hw1 : wOf S nc nt no 1 = nI nt := hnt
  have hw2 : wOf S nc nt no 2 = nI no := hno
  refine gq_aload_n hX dX5_launches_0 rfl rfl rfl ?_
  refine gq_iload_n hX dX5_launches_1 rfl rfl rfl ?_
  refine gq_iconst (v := nI 2) hX dX5_launches_2 rfl (by decide) ?_
  refine gq_iconst (v := nI 1) hX dX5_launches_3 rfl (by decide) ?_
  refine gq_callVe hX dX5_launches_4 rfl vX5_71 (mt_puts hb (c := j) (x := 2) (by omega) (by decide) _) rfl (mqR0 hb) rfl rfl (Nat.le_of_ble_eq_true rfl) ⟨(Nat.le_of_ble_eq_true rfl), (Nat.le_of_ble_eq_true rfl)⟩ (Nat.zero_add _) (Nat.zero_add _) ?_
  rw [wU_fl hncl hj]
  refine gq_aload_n hX dX5_launches_7 rfl rfl rfl ?_
  refine gq_callVe hX dX5_launches_8 rfl vX5_107 (mt_flying hb (S := flyS S j) hwf (nar_fl hn vz1)) rfl (mqR0 hb) rfl rfl (Nat.le_of_ble_eq_true rfl) ⟨(Nat.le_of_ble_eq_true rfl), (Nat.le_of_ble_eq_true rfl)⟩ (Nat.zero_add _) (Nat.zero_add _) ?_
  exact gq_iret hX hQ dX5_launches_11 rfl ⟨rfl, rfl⟩

set_option maxRecDepth 100000 in
set_option maxHeartbeats 4000000 in
theorem mt_moves {E : Ev} {b : Nat → Nat} {T : St} {M : Hp} (hb : Lay E 9 b) {S : St} {nc nt no : Nat} (hwf : Wf S nc nt no) (hlt : no < 8) {mv kw ob kd : Int32} (hkd : kdO kd = kw) : Ct E mX5_movesThat [.ref (b 0), .int mv, .int kw, .int ob] (MdW E b T (wOf S nc nt no) M) (eqR (some (.int (S.1 8))) (MdW E b T (wOf (motS S no kd mv ob) nc nt (no + 1)) M)) 0 0 := by
  refine Ct.of gmX5_movesThat (ls := [.ref (b 0), .int mv, .int kw, .int ob, hole]) rfl rfl (Nat.le_of_ble_eq_true rfl) ?_
  intro X hX Q hQ
  have hwf2 := hwf
  obtain ⟨hnc, hncl, hnt, hntl, hno, hnol⟩ := hwf2
  have hw0 : wOf S nc nt no 0 = nI nc := hnc
  have hw1 : wOf S nc nt no 1 = nI nt := hnt
  have hw2 : wOf S nc nt no 2 = nI no := hno
  have hw3 : wOf S nc nt no 3 = S.1 8 := rfl
  refine gq_aload_n hX dX5_movesThat_0 rfl rfl rfl ?_
  refine gq_getf hX dX5_movesThat_1 rfl fX5_7 (mqR0 hb) rfl ?_
  refine gq_iconst (v := nI 2) hX dX5_movesThat_4 rfl (by decide) ?_
  refine gq_ialdN hX dX5_movesThat_5 rfl (mqR1 hb) rfl (by omega) (Nat.le_of_ble_eq_true rfl) ?_
  rw [hw2]
  refine gq_istore hX dX5_movesThat_6 rfl (Nat.le_of_ble_eq_true rfl) rfl ?_
  refine gq_aload_n hX dX5_movesThat_8 rfl rfl rfl ?_
  refine gq_iload hX dX5_movesThat_9 rfl rfl ?_
  refine gq_iconst (v := nI 0) hX dX5_movesThat_11 rfl (by decide) ?_
  refine gq_aload_n hX dX5_movesThat_12 rfl rfl rfl ?_
  refine gq_getf hX dX5_movesThat_13 rfl fX5_7 (mqR0 hb) rfl ?_
  refine gq_iconst (v := nI 3) hX dX5_movesThat_16 rfl (by decide) ?_
  refine gq_ialdN hX dX5_movesThat_17 rfl (mqR1 hb) rfl (by omega) (Nat.le_of_ble_eq_true rfl) ?_
  rw [hw3]
  refine gq_callVe hX dX5_movesThat_18 rfl vX5_120 (mt_sets hb (c := no) (x := 0) (by omega) (by decide) _) rfl (mqR0 hb) rfl rfl (Nat.le_of_ble_eq_true rfl) ⟨(Nat.le_of_ble_eq_true rfl), (Nat.le_of_ble_eq_true rfl)⟩ (Nat.zero_add _) (Nat.zero_add _) ?_
  refine gq_aload_n hX dX5_movesThat_21 rfl rfl rfl ?_
  refine gq_iload hX dX5_movesThat_22 rfl rfl ?_
  refine gq_iconst (v := nI 1) hX dX5_movesThat_24 rfl (by decide) ?_
  refine gq_iload_n hX dX5_movesThat_25 rfl rfl rfl ?_
  refine gq_callVe hX dX5_movesThat_26 rfl vX5_120 (mt_sets hb (c := no) (x := 1) (by omega) (by decide) _) rfl (mqR0 hb) rfl rfl (Nat.le_of_ble_eq_true rfl) ⟨(Nat.le_of_ble_eq_true rfl), (Nat.le_of_ble_eq_true rfl)⟩ (Nat.zero_add _) (Nat.zero_add _) ?_
  refine gq_aload_n hX dX5_movesThat_29 rfl rfl rfl ?_
  refine gq_iload hX dX5_movesThat_30 rfl rfl ?_
  refine gq_iconst (v := nI 2) hX dX5_movesThat_32 rfl (by decide) ?_
  refine gq_iload_n hX dX5_movesThat_33 rfl rfl rfl ?_
  refine gq_callVe hX dX5_movesThat_34 rfl vX5_120 (mt_sets hb (c := no) (x := 2) (by omega) (by decide) _) rfl (mqR0 hb) rfl rfl (Nat.le_of_ble_eq_true rfl) ⟨(Nat.le_of_ble_eq_true rfl), (Nat.le_of_ble_eq_true rfl)⟩ (Nat.zero_add _) (Nat.zero_add _) ?_
  refine gq_aload_n hX dX5_movesThat_37 rfl rfl rfl ?_
  refine gq_iload hX dX5_movesThat_38 rfl rfl ?_
  refine gq_iconst (v := nI 3) hX dX5_movesThat_40 rfl (by decide) ?_
  refine gq_iload_n hX dX5_movesThat_41 rfl rfl rfl ?_
  refine gq_callVe hX dX5_movesThat_42 rfl vX5_120 (mt_sets hb (c := no) (x := 3) (by omega) (by decide) _) rfl (mqR0 hb) rfl rfl (Nat.le_of_ble_eq_true rfl) ⟨(Nat.le_of_ble_eq_true rfl), (Nat.le_of_ble_eq_true rfl)⟩ (Nat.zero_add _) (Nat.zero_add _) ?_
  refine gq_aload_n hX dX5_movesThat_45 rfl rfl rfl ?_
  refine gq_iload hX dX5_movesThat_46 rfl rfl ?_
  refine gq_iconst (v := nI 4) hX dX5_movesThat_48 rfl (by decide) ?_
  refine gq_iconst (v := nI 0) hX dX5_movesThat_49 rfl (by decide) ?_
  refine gq_callVe hX dX5_movesThat_50 rfl vX5_120 (mt_sets hb (c := no) (x := 4) (by omega) (by decide) _) rfl (mqR0 hb) rfl rfl (Nat.le_of_ble_eq_true rfl) ⟨(Nat.le_of_ble_eq_true rfl), (Nat.le_of_ble_eq_true rfl)⟩ (Nat.zero_add _) (Nat.zero_add _) ?_
  refine gq_aload_n hX dX5_movesThat_53 rfl rfl rfl ?_
  refine gq_iload hX dX5_movesThat_54 rfl rfl ?_
  refine gq_iconst (v := nI 5) hX dX5_movesThat_56 rfl (by decide) ?_
  refine gq_iconst (v := nI 0) hX dX5_movesThat_57 rfl (by decide) ?_
  refine gq_callVe hX dX5_movesThat_58 rfl vX5_120 (mt_sets hb (c := no) (x := 5) (by omega) (by decide) _) rfl (mqR0 hb) rfl rfl (Nat.le_of_ble_eq_true rfl) ⟨(Nat.le_of_ble_eq_true rfl), (Nat.le_of_ble_eq_true rfl)⟩ (Nat.zero_add _) (Nat.zero_add _) ?_
  refine gq_aload_n hX dX5_movesThat_61 rfl rfl rfl ?_
  refine gq_getf hX dX5_movesThat_62 rfl fX5_7 (mqR0 hb) rfl ?_
  refine gq_iconst (v := nI 2) hX dX5_movesThat_65 rfl (by decide) ?_
  refine gq_dup2 hX dX5_movesThat_66 rfl rfl rfl ?_
  refine gq_ialdN hX dX5_movesThat_67 rfl (mqR1 hb) rfl (by omega) (Nat.le_of_ble_eq_true rfl) ?_
  rw [upd_n _ (by omega), upd_n _ (by omega), upd_n _ (by omega), upd_n _ (by omega), upd_n _ (by omega), upd_n _ (by omega), hw2]
  refine gq_iconst (v := nI 1) hX dX5_movesThat_68 rfl (by decide) ?_
  refine gq_iadd hX dX5_movesThat_69 rfl ?_
  rw [inM]
  refine gq_iastN hX dX5_movesThat_70 rfl (mqR1 hb) rfl (by omega) (Nat.le_of_ble_eq_true rfl) (hb.2 1 (by decide)) (mqW1 hb) ?_
  refine gq_aload_n hX dX5_movesThat_71 rfl rfl rfl ?_
  refine gq_getf hX dX5_movesThat_72 rfl fX5_7 (mqR0 hb) rfl ?_
  refine gq_iconst (v := nI 3) hX dX5_movesThat_75 rfl (by decide) ?_
  refine gq_dup2 hX dX5_movesThat_76 rfl rfl rfl ?_
  refine gq_ialdN hX dX5_movesThat_77 rfl (mqR1 hb) rfl (by omega) (Nat.le_of_ble_eq_true rfl) ?_
  rw [upd_n _ (by omega), upd_n _ (by omega), upd_n _ (by omega), upd_n _ (by omega), upd_n _ (by omega), upd_n _ (by omega), upd_n _ (by omega), hw3]
  refine gq_iconst (v := nI 1) hX dX5_movesThat_78 rfl (by decide) ?_
  refine gq_iadd hX dX5_movesThat_79 rfl ?_
  refine gq_iastN hX dX5_movesThat_80 rfl (mqR1 hb) rfl (by omega) (Nat.le_of_ble_eq_true rfl) (hb.2 1 (by decide)) (mqW1 hb) ?_
  refine gq_aload_n hX dX5_movesThat_81 rfl rfl rfl ?_
  refine gq_getf hX dX5_movesThat_82 rfl fX5_7 (mqR0 hb) rfl ?_
  refine gq_iconst (v := nI 3) hX dX5_movesThat_85 rfl (by decide) ?_
  refine gq_ialdN hX dX5_movesThat_86 rfl (mqR1 hb) rfl (by omega) (Nat.le_of_ble_eq_true rfl) ?_
  rw [upd_s]
  refine gq_iconst (v := nI 1) hX dX5_movesThat_87 rfl (by decide) ?_
  refine gq_isub hX dX5_movesThat_88 rfl ?_
  refine gq_iret hX hQ dX5_movesThat_89 rfl ⟨congrArg (fun z => some (Value.int z)) (Int32.add_sub_cancel _ _), congrArg (fun z => MdW E b T z M) ?_⟩
  exact w_mot hwf hlt hkd

set_option maxRecDepth 100000 in
set_option maxHeartbeats 4000000 in
theorem mt_seconds {E : Ev} {b : Nat → Nat} {T : St} {M : Hp} (hb : Lay E 9 b) {S : St} {nc nt no : Nat} (hwf : Wf S nc nt no) {id : Int32} {k : Nat} (ho : slotO S no id = some k) (hse : SecOk S nc no) {c : Int32} (hc : ∃ a, a < nc ∧ c = nI a) : Ct E mX5_seconds [.ref (b 0), .int c, .int id] (MdW E b T (wOf S nc nt no) M) (eqR (some (.int (cntSec (sedS S k c) no))) (MdW E b T (wOf (sedS S k c) nc nt no) M)) 0 0 := by
  refine Ct.of gmX5_seconds (ls := [.ref (b 0), .int c, .int id, hole, hole]) rfl rfl (Nat.le_of_ble_eq_true rfl) ?_
  intro X hX Q hQ
  have hwf2 := hwf
  obtain ⟨hnc, hncl, hnt, hntl, hno, hnol⟩ := hwf2
  have hw0 : wOf S nc nt no 0 = nI nc := hnc
  have hw1 : wOf S nc nt no 1 = nI nt := hnt
  have hw2 : wOf S nc nt no 2 = nI no := hno
  have hct := mt_slotOf (M := M) (T := T) hb hwf id
  rw [ho] at hct
  obtain ⟨hk, hid⟩ := slotO_lt ho
  refine gq_aload_n hX dX5_seconds_0 rfl rfl rfl ?_
  refine gq_aload_n hX dX5_seconds_1 rfl rfl rfl ?_
  refine gq_iload_n hX dX5_seconds_2 rfl rfl rfl ?_
  refine gq_callVe hX dX5_seconds_3 rfl vX5_133 (hct) rfl (mqR0 hb) rfl rfl (Nat.le_of_ble_eq_true rfl) ⟨(Nat.le_of_ble_eq_true rfl), (Nat.le_of_ble_eq_true rfl)⟩ (Nat.zero_add _) (Nat.zero_add _) ?_
  refine gq_iconst (v := nI 4) hX dX5_seconds_6 rfl (by decide) ?_
  refine gq_iload_n hX dX5_seconds_7 rfl rfl rfl ?_
  refine gq_iconst (v := nI 1) hX dX5_seconds_8 rfl (by decide) ?_
  refine gq_iadd hX dX5_seconds_9 rfl ?_
  refine gq_callVe hX dX5_seconds_10 rfl vX5_120 (mt_sets hb (c := k) (x := 4) (by omega) (by decide) _) rfl (mqR0 hb) rfl rfl (Nat.le_of_ble_eq_true rfl) ⟨(Nat.le_of_ble_eq_true rfl), (Nat.le_of_ble_eq_true rfl)⟩ (Nat.zero_add _) (Nat.zero_add _) ?_
  rw [wU_se hnol hk]
  refine gq_iconst (v := nI 0) hX dX5_seconds_13 rfl (by decide) ?_
  refine gq_istore_n hX dX5_seconds_14 rfl rfl (Nat.le_of_ble_eq_true rfl) rfl ?_
  refine gq_iconst (v := nI 0) hX dX5_seconds_15 rfl (by decide) ?_
  refine gq_istore hX dX5_seconds_16 rfl (Nat.le_of_ble_eq_true rfl) rfl ?_
  obtain ⟨S1, hS1⟩ : ∃ z, z = sedS S k c := ⟨_, rfl⟩
  have hwf1 : Wf S1 nc nt no := by rw [hS1]; exact hwf
  obtain ⟨hnc1, -, hnt1, -, hno1, -⟩ := hwf1
  have hw21 : wOf S1 nc nt no 2 = nI no := hno1
  have hse1 : SecOk S1 nc no := by
    rw [hS1]
    intro i hi
    show upd (S.2 11) k c i = -1 ∨ ∃ a, a < nc ∧ upd (S.2 11) k c i = nI a
    by_cases e : i = k
    · subst e
      rw [upd_s]
      exact Or.inr hc
    · rw [upd_n _ e]
      exact hse i hi
  refine gq_ls (M' := MdW E b T (wOf S1 nc nt no) M) rfl rfl (by rw [hS1]; rfl) ?_
  rw [show sedS S k c = S1 from hS1.symm] at hQ
  have loop : ∀ n j : Nat, j + n = no → Gq E X mX5_seconds Q 18 [.ref (b 0), .int c, .int id, .int (it (fun j s => if S1.2 11 j = -1 then s else s + nI 1) (nI 0) j), .int (nI j)] [] (MdW E b T (wOf S1 nc nt no) M) 0 0 := by
    intro n
    induction n with
    | zero =>
      intro j hj
      refine gq_iload hX dX5_seconds_18 rfl rfl ?_
      refine gq_aload_n hX dX5_seconds_20 rfl rfl rfl ?_
      refine gq_getf hX dX5_seconds_21 rfl fX5_7 (mqR0 hb) rfl ?_
      refine gq_iconst (v := nI 2) hX dX5_seconds_24 rfl (by decide) ?_
      refine gq_ialdN hX dX5_seconds_25 rfl (mqR1 hb) rfl (by omega) (Nat.le_of_ble_eq_true rfl) ?_
      refine gq_icmp_geT (tgt := 53) hX dX5_seconds_26 rfl (cT hw21 (by omega) (by omega)) ?_
      have ej : no = j := by omega
      subst ej
      refine gq_iload_n hX dX5_seconds_53 rfl rfl rfl ?_
      exact gq_iret hX hQ dX5_seconds_54 rfl ⟨rfl, rfl⟩
    | succ n ih =>
      intro j hj
      refine gq_iload hX dX5_seconds_18 rfl rfl ?_
      refine gq_aload_n hX dX5_seconds_20 rfl rfl rfl ?_
      refine gq_getf hX dX5_seconds_21 rfl fX5_7 (mqR0 hb) rfl ?_
      refine gq_iconst (v := nI 2) hX dX5_seconds_24 rfl (by decide) ?_
      refine gq_ialdN hX dX5_seconds_25 rfl (mqR1 hb) rfl (by omega) (Nat.le_of_ble_eq_true rfl) ?_
      refine gq_icmp_geF (tgt := 53) hX dX5_seconds_26 rfl rfl (cF hw21 (by omega) (by omega)) ?_
      refine gq_iload_n hX dX5_seconds_29 rfl rfl rfl ?_
      refine gq_aload_n hX dX5_seconds_30 rfl rfl rfl ?_
      refine gq_iload hX dX5_seconds_31 rfl rfl ?_
      refine gq_iconst (v := nI 4) hX dX5_seconds_33 rfl (by decide) ?_
      refine gq_callVe hX dX5_seconds_34 rfl vX5_61 (mt_motion hb (c := j) (x := 4) (by omega) (by decide)) rfl (mqR0 hb) rfl rfl (Nat.le_of_ble_eq_true rfl) ⟨(Nat.le_of_ble_eq_true rfl), (Nat.le_of_ble_eq_true rfl)⟩ (Nat.zero_add _) (Nat.zero_add _) ?_
      rw [wM4 hnol (by omega)]
      have hsl := sec_le (hse1 j (by omega)) (by omega)
      show Gq E X mX5_seconds Q 37 _ [.int (S1.2 11 j + nI 1), _] _ 0 0
      refine gq_if_le (tgt := 44) hX dX5_seconds_37 rfl rfl (fun c9 => ?_) (fun c9 => ?_)
      · refine gq_iconst (v := nI 0) hX dX5_seconds_44 rfl (by decide) ?_
        refine gq_iadd hX dX5_seconds_45 rfl ?_
        refine gq_istore_n hX dX5_seconds_46 rfl rfl (Nat.le_of_ble_eq_true rfl) rfl ?_
        refine gq_iinc hX dX5_seconds_47 rfl rfl (inc1 _) (Nat.le_of_ble_eq_true rfl) rfl ?_
        refine gq_goto (tgt := 18) hX dX5_seconds_50 rfl ?_
        exact gq_ls (by rw [show it (fun j s => if S1.2 11 j = -1 then s else s + nI 1) (nI 0) (j + 1) = it (fun j s => if S1.2 11 j = -1 then s else s + nI 1) (nI 0) j from if_pos (hsl.mp c9), show it (fun j s => if S1.2 11 j = -1 then s else s + nI 1) (nI 0) j + nI 0 = it (fun j s => if S1.2 11 j = -1 then s else s + nI 1) (nI 0) j from Int32.add_zero _]; rfl) rfl rfl (ih (j + 1) (by omega))
      · refine gq_iconst (v := nI 1) hX dX5_seconds_40 rfl (by decide) ?_
        refine gq_goto (tgt := 45) hX dX5_seconds_41 rfl ?_
        refine gq_iadd hX dX5_seconds_45 rfl ?_
        refine gq_istore_n hX dX5_seconds_46 rfl rfl (Nat.le_of_ble_eq_true rfl) rfl ?_
        refine gq_iinc hX dX5_seconds_47 rfl rfl (inc1 _) (Nat.le_of_ble_eq_true rfl) rfl ?_
        refine gq_goto (tgt := 18) hX dX5_seconds_50 rfl ?_
        exact gq_ls (by rw [show it (fun j s => if S1.2 11 j = -1 then s else s + nI 1) (nI 0) (j + 1) = it (fun j s => if S1.2 11 j = -1 then s else s + nI 1) (nI 0) j + nI 1 from if_neg (fun e => c9 (hsl.mpr e))]; rfl) rfl rfl (ih (j + 1) (by omega))
  exact loop no 0 (by omega)

set_option maxRecDepth 100000 in
set_option maxHeartbeats 4000000 in
theorem mt_untables {E : Ev} {b : Nat → Nat} {T : St} {M : Hp} (hb : Lay E 9 b) {S : St} {nc nt no : Nat} (hwf : Wf S nc nt no) {id : Int32} {k : Nat} (ho : slotO S no id = some k) {a : Nat} (hmv : S.2 9 k = nI a) (ha : a < nc) : Ct E mX5_untables [.ref (b 0), .int id] (MdW E b T (wOf S nc nt no) M) (eqR (some (.int (S.2 2 a + nI 1))) (MdW E b T (wOf (untS S k a) nc nt no) M)) 0 0 := by
  refine Ct.of gmX5_untables (ls := [.ref (b 0), .int id, hole]) rfl rfl (Nat.le_of_ble_eq_true rfl) ?_
  intro X hX Q hQ
  have hwf2 := hwf
  obtain ⟨hnc, hncl, hnt, hntl, hno, hnol⟩ := hwf2
  have hw0 : wOf S nc nt no 0 = nI nc := hnc
  have hw1 : wOf S nc nt no 1 = nI nt := hnt
  have hw2 : wOf S nc nt no 2 = nI no := hno
  have hct := mt_slotOf (M := M) (T := T) hb hwf id
  rw [ho] at hct
  obtain ⟨hk, hid⟩ := slotO_lt ho
  refine gq_aload_n hX dX5_untables_0 rfl rfl rfl ?_
  refine gq_iload_n hX dX5_untables_1 rfl rfl rfl ?_
  refine gq_callVe hX dX5_untables_2 rfl vX5_133 (hct) rfl (mqR0 hb) rfl rfl (Nat.le_of_ble_eq_true rfl) ⟨(Nat.le_of_ble_eq_true rfl), (Nat.le_of_ble_eq_true rfl)⟩ (Nat.zero_add _) (Nat.zero_add _) ?_
  refine gq_istore_n hX dX5_untables_5 rfl rfl (Nat.le_of_ble_eq_true rfl) rfl ?_
  refine gq_aload_n hX dX5_untables_6 rfl rfl rfl ?_
  refine gq_iload_n hX dX5_untables_7 rfl rfl rfl ?_
  refine gq_iconst (v := nI 5) hX dX5_untables_8 rfl (by decide) ?_
  refine gq_iconst (v := nI 0) hX dX5_untables_9 rfl (by decide) ?_
  refine gq_callVe hX dX5_untables_10 rfl vX5_120 (mt_sets hb (c := k) (x := 5) (by omega) (by decide) _) rfl (mqR0 hb) rfl rfl (Nat.le_of_ble_eq_true rfl) ⟨(Nat.le_of_ble_eq_true rfl), (Nat.le_of_ble_eq_true rfl)⟩ (Nat.zero_add _) (Nat.zero_add _) ?_
  rw [wU_tb hnol hk]
  refine gq_aload_n hX dX5_untables_13 rfl rfl rfl ?_
  refine gq_aload_n hX dX5_untables_14 rfl rfl rfl ?_
  refine gq_iload_n hX dX5_untables_15 rfl rfl rfl ?_
  refine gq_iconst (v := nI 2) hX dX5_untables_16 rfl (by decide) ?_
  refine gq_callVe hX dX5_untables_17 rfl vX5_61 (mt_motion hb (c := k) (x := 2) (by omega) (by decide)) rfl (mqR0 hb) rfl rfl (Nat.le_of_ble_eq_true rfl) ⟨(Nat.le_of_ble_eq_true rfl), (Nat.le_of_ble_eq_true rfl)⟩ (Nat.zero_add _) (Nat.zero_add _) ?_
  rw [wM2 hnol hk]
  refine gq_ls (st' := [.int (nI a), .ref (b 0)]) rfl (by rw [← hmv]; rfl) rfl ?_
  refine gq_iconst (v := nI 1) hX dX5_untables_20 rfl (by decide) ?_
  refine gq_callVe hX dX5_untables_21 rfl vX5_142 (mt_charges hb (S := setA S 12 (upd (S.2 12) k (nI 0))) hwf ha _) rfl (mqR0 hb) rfl rfl (Nat.le_of_ble_eq_true rfl) ⟨(Nat.le_of_ble_eq_true rfl), (Nat.le_of_ble_eq_true rfl)⟩ (Nat.zero_add _) (Nat.zero_add _) ?_
  refine gq_aload_n hX dX5_untables_24 rfl rfl rfl ?_
  refine gq_aload_n hX dX5_untables_25 rfl rfl rfl ?_
  refine gq_iload_n hX dX5_untables_26 rfl rfl rfl ?_
  refine gq_iconst (v := nI 2) hX dX5_untables_27 rfl (by decide) ?_
  refine gq_callVe hX dX5_untables_28 rfl vX5_61 (mt_motion hb (c := k) (x := 2) (by omega) (by decide)) rfl (mqR0 hb) rfl rfl (Nat.le_of_ble_eq_true rfl) ⟨(Nat.le_of_ble_eq_true rfl), (Nat.le_of_ble_eq_true rfl)⟩ (Nat.zero_add _) (Nat.zero_add _) ?_
  rw [wM2 hnol hk]
  refine gq_ls (st' := [.int (nI a), .ref (b 0)]) rfl (by rw [← hmv]; rfl) rfl ?_
  refine gq_iconst (v := nI 1) hX dX5_untables_31 rfl (by decide) ?_
  refine gq_callVe hX dX5_untables_32 rfl vX5_65 (mt_of hb (c := a) (x := 1) (by omega) (by decide)) rfl (mqR0 hb) rfl rfl (Nat.le_of_ble_eq_true rfl) ⟨(Nat.le_of_ble_eq_true rfl), (Nat.le_of_ble_eq_true rfl)⟩ (Nat.zero_add _) (Nat.zero_add _) ?_
  rw [wC1 hncl ha]
  exact gq_iret hX hQ dX5_untables_35 rfl ⟨congrArg (fun z => some (Value.int z)) (upd_s _ _ _), rfl⟩

set_option maxRecDepth 100000 in
set_option maxHeartbeats 4000000 in
theorem mt_grounds {E : Ev} {b : Nat → Nat} {T : St} {M : Hp} (hb : Lay E 9 b) {S : St} {nc nt no : Nat} (hwf : Wf S nc nt no) {j : Nat} (hj : j < nc) : Ct E mX5_grounds [.ref (b 0), .int (nI j)] (MdW E b T (wOf S nc nt no) M) (eqR (none) (MdW E b T (wOf (groS S nt j) nc nt no) M)) 0 0 := by
  refine Ct.of gmX5_grounds (ls := [.ref (b 0), .int (nI j), hole]) rfl rfl (Nat.le_of_ble_eq_true rfl) ?_
  intro X hX Q hQ
  have hwf2 := hwf
  obtain ⟨hnc, hncl, hnt, hntl, hno, hnol⟩ := hwf2
  have hw0 : wOf S nc nt no 0 = nI nc := hnc
  have hw1 : wOf S nc nt no 1 = nI nt := hnt
  have hw2 : wOf S nc nt no 2 = nI no := hno
  refine gq_aload_n hX dX5_grounds_0 rfl rfl rfl ?_
  refine gq_iload_n hX dX5_grounds_1 rfl rfl rfl ?_
  refine gq_iconst (v := nI 2) hX dX5_grounds_2 rfl (by decide) ?_
  refine gq_iconst (v := nI 0) hX dX5_grounds_3 rfl (by decide) ?_
  refine gq_callVe hX dX5_grounds_4 rfl vX5_71 (mt_puts hb (c := j) (x := 2) (by omega) (by decide) _) rfl (mqR0 hb) rfl rfl (Nat.le_of_ble_eq_true rfl) ⟨(Nat.le_of_ble_eq_true rfl), (Nat.le_of_ble_eq_true rfl)⟩ (Nat.zero_add _) (Nat.zero_add _) ?_
  rw [wU_fl hncl hj]
  refine gq_iconst (v := nI 0) hX dX5_grounds_7 rfl (by decide) ?_
  refine gq_istore_n hX dX5_grounds_8 rfl rfl (Nat.le_of_ble_eq_true rfl) rfl ?_
  have loop : ∀ n i : Nat, i + n = nt → Gq E X mX5_grounds Q 9 [.ref (b 0), .int (nI j), .int (nI i)] [] (MdW E b T (wOf (setA (groS1 S j) 5 (groF S j i)) nc nt no) M) 0 0 := by
    intro n
    induction n with
    | zero =>
      intro i hj
      refine gq_iload_n hX dX5_grounds_9 rfl rfl rfl ?_
      refine gq_aload_n hX dX5_grounds_10 rfl rfl rfl ?_
      refine gq_getf hX dX5_grounds_11 rfl fX5_7 (mqR0 hb) rfl ?_
      refine gq_iconst (v := nI 1) hX dX5_grounds_14 rfl (by decide) ?_
      refine gq_ialdN hX dX5_grounds_15 rfl (mqR1 hb) rfl (by omega) (Nat.le_of_ble_eq_true rfl) ?_
      refine gq_icmp_geT (tgt := 51) hX dX5_grounds_16 rfl (cT hw1 (by omega) (by omega)) ?_
      have ej : nt = i := by omega
      subst ej
      exact gq_vret hX hQ dX5_grounds_51 rfl ⟨rfl, rfl⟩
    | succ n ih =>
      intro i hj
      refine gq_iload_n hX dX5_grounds_9 rfl rfl rfl ?_
      refine gq_aload_n hX dX5_grounds_10 rfl rfl rfl ?_
      refine gq_getf hX dX5_grounds_11 rfl fX5_7 (mqR0 hb) rfl ?_
      refine gq_iconst (v := nI 1) hX dX5_grounds_14 rfl (by decide) ?_
      refine gq_ialdN hX dX5_grounds_15 rfl (mqR1 hb) rfl (by omega) (Nat.le_of_ble_eq_true rfl) ?_
      refine gq_icmp_geF (tgt := 51) hX dX5_grounds_16 rfl rfl (cF hw1 (by omega) (by omega)) ?_
      refine gq_aload_n hX dX5_grounds_19 rfl rfl rfl ?_
      refine gq_iload_n hX dX5_grounds_20 rfl rfl rfl ?_
      refine gq_iconst (v := nI 1) hX dX5_grounds_21 rfl (by decide) ?_
      refine gq_callVe hX dX5_grounds_22 rfl vX5_68 (mt_tail hb (c := i) (x := 1) (by omega) (by decide)) rfl (mqR0 hb) rfl rfl (Nat.le_of_ble_eq_true rfl) ⟨(Nat.le_of_ble_eq_true rfl), (Nat.le_of_ble_eq_true rfl)⟩ (Nat.zero_add _) (Nat.zero_add _) ?_
      rw [wT1 hntl (by omega)]
      refine gq_ls (st' := [.int (groF S j i i + nI 1)]) rfl rfl rfl ?_
      refine gq_iload_n hX dX5_grounds_25 rfl rfl rfl ?_
      refine gq_iconst (v := nI 1) hX dX5_grounds_26 rfl (by decide) ?_
      refine gq_iadd hX dX5_grounds_27 rfl ?_
      refine gq_icmp_ne (tgt := 45) hX dX5_grounds_28 rfl rfl (fun c9 => ?_) (fun c9 => ?_)
      · refine gq_iinc hX dX5_grounds_45 rfl rfl (inc1 _) (Nat.le_of_ble_eq_true rfl) rfl ?_
        refine gq_goto (tgt := 9) hX dX5_grounds_48 rfl ?_
        have h9 : groF S j (i + 1) = groF S j i := if_neg (fun e => c9 (add1_inj.mpr e))
        exact gq_ls rfl rfl (by rw [h9]) (ih (i + 1) (by omega))
      · refine gq_aload_n hX dX5_grounds_31 rfl rfl rfl ?_
        refine gq_getf hX dX5_grounds_32 rfl fX5_7 (mqR0 hb) rfl ?_
        refine gq_bipush (v := nI 27) hX dX5_grounds_35 rfl (by decide) ?_
        refine gq_iconst (v := nI 2) hX dX5_grounds_37 rfl (by decide) ?_
        refine gq_iload_n hX dX5_grounds_38 rfl rfl rfl ?_
        refine gq_imul hX dX5_grounds_39 rfl ?_
        rw [nI_m]
        refine gq_iadd hX dX5_grounds_40 rfl ?_
        rw [nI_add]
        refine gq_iconst (v := nI 1) hX dX5_grounds_41 rfl (by decide) ?_
        refine gq_iadd hX dX5_grounds_42 rfl ?_
        rw [nI_add]
        refine gq_iconst (v := nI 0) hX dX5_grounds_43 rfl (by decide) ?_
        refine gq_iastN hX dX5_grounds_44 rfl (mqR1 hb) rfl (by omega) (Nat.le_of_ble_eq_true rfl) (hb.2 1 (by decide)) (mqW1 hb) ?_
        rw [show nI 0 = (-1 : Int32) + nI 1 from by decide, wU_re hntl (by omega)]
        refine gq_iinc hX dX5_grounds_45 rfl rfl (inc1 _) (Nat.le_of_ble_eq_true rfl) rfl ?_
        refine gq_goto (tgt := 9) hX dX5_grounds_48 rfl ?_
        have h9 : groF S j (i + 1) = upd (groF S j i) i (-1) := if_pos (add1_inj.mp c9)
        refine gq_ls rfl rfl ?_ (ih (i + 1) (by omega))
        rw [h9]
        show MdW E b T (wOf (setA (groS1 S j) 5 (upd (groF S j i) i (-1))) nc nt no) M = MdW E b T (wOf (setA (setA (groS1 S j) 5 (groF S j i)) 5 (upd (groF S j i) i (-1))) nc nt no) M
        rw [setA_2]
  refine gq_ls rfl rfl ?_ (loop nt 0 (by omega))
  show MdW E b T (wOf (setA (groS1 S j) 5 ((groS1 S j).2 5)) nc nt no) M = _
  rw [setA_id]
  rfl

