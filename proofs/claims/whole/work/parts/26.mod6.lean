set_option maxRecDepth 100000 in
set_option maxHeartbeats 4000000 in
theorem as_members_bad {E : Ev} {b : Nat → Nat} {T : St} {M : Hp} (hb : Lay E 9 b) {S : St} {nc nt no : Nat} (hwf : Wf S nc nt no) (c : Int32) (hF : hasI nc c = 0) : Ct E mX5_asks [.ref (b 0), .int c, .int (nI 0)] (MdW E b T (wOf S nc nt no) M) (eqR (some (.int (nI 0))) (MdW E b (setS T 0 (nI 1)) (wOf S nc nt no) M)) 0 0 := by
  refine Ct.of gmX5_asks (ls := [.ref (b 0), .int c, .int (nI 0)]) rfl rfl (Nat.le_of_ble_eq_true rfl) ?_
  intro X hX Q hQ
  have hwf2 := hwf
  obtain ⟨hnc, hncl, hnt, hntl, hno, hnol⟩ := hwf2
  have hw0 : wOf S nc nt no 0 = nI nc := hnc
  have hw1 : wOf S nc nt no 1 = nI nt := hnt
  have hw2 : wOf S nc nt no 2 = nI no := hno
  refine gq_aload_n hX dX5_asks_0 rfl rfl rfl ?_
  refine gq_iconst (v := nI 0) hX dX5_asks_1 rfl (by decide) ?_
  refine gq_putf hX dX5_asks_2 rfl fX5_42 rfl rfl rfl (mqR0 hb) (Nat.le_of_ble_eq_true rfl) (hb.2 0 (by decide)) (mqW0_0 hb) ?_
  refine gq_aload_n hX dX5_asks_5 rfl rfl rfl ?_
  refine gq_iload_n hX dX5_asks_6 rfl rfl rfl ?_
  refine gq_callVe hX dX5_asks_7 rfl vX5_94 (mt_isCom hb hwf _) rfl (mqR0 hb) rfl rfl (Nat.le_of_ble_eq_true rfl) ⟨(Nat.le_of_ble_eq_true rfl), (Nat.le_of_ble_eq_true rfl)⟩ (Nat.zero_add _) (Nat.zero_add _) ?_
  refine gq_if_eqT (tgt := 22) hX dX5_asks_10 rfl hF ?_
  refine gq_aload_n hX dX5_asks_22 rfl rfl rfl ?_
  refine gq_iconst (v := nI 1) hX dX5_asks_23 rfl (by decide) ?_
  refine gq_callVe hX dX5_asks_24 rfl vX5_79 (mt_fails hb _) rfl (mqR0 hb) rfl rfl (Nat.le_of_ble_eq_true rfl) ⟨(Nat.le_of_ble_eq_true rfl), (Nat.le_of_ble_eq_true rfl)⟩ (Nat.zero_add _) (Nat.zero_add _) ?_
  exact gq_iret hX hQ dX5_asks_27 rfl ⟨rfl, by rw [setS_2]⟩

set_option maxRecDepth 100000 in
set_option maxHeartbeats 4000000 in
theorem as_members_ok {E : Ev} {b : Nat → Nat} {T : St} {M : Hp} (hb : Lay E 9 b) {S : St} {nc nt no : Nat} (hwf : Wf S nc nt no) {j : Nat} (hj : j < nc) : Ct E mX5_asks [.ref (b 0), .int (nI j), .int (nI 0)] (MdW E b T (wOf S nc nt no) M) (eqR (some (.int (S.2 1 j))) (MdW E b (setS T 0 (nI 0)) (wOf S nc nt no) M)) 0 0 := by
  refine Ct.of gmX5_asks (ls := [.ref (b 0), .int (nI j), .int (nI 0)]) rfl rfl (Nat.le_of_ble_eq_true rfl) ?_
  intro X hX Q hQ
  have hwf2 := hwf
  obtain ⟨hnc, hncl, hnt, hntl, hno, hnol⟩ := hwf2
  have hw0 : wOf S nc nt no 0 = nI nc := hnc
  have hw1 : wOf S nc nt no 1 = nI nt := hnt
  have hw2 : wOf S nc nt no 2 = nI no := hno
  refine gq_aload_n hX dX5_asks_0 rfl rfl rfl ?_
  refine gq_iconst (v := nI 0) hX dX5_asks_1 rfl (by decide) ?_
  refine gq_putf hX dX5_asks_2 rfl fX5_42 rfl rfl rfl (mqR0 hb) (Nat.le_of_ble_eq_true rfl) (hb.2 0 (by decide)) (mqW0_0 hb) ?_
  refine gq_aload_n hX dX5_asks_5 rfl rfl rfl ?_
  refine gq_iload_n hX dX5_asks_6 rfl rfl rfl ?_
  refine gq_callVe hX dX5_asks_7 rfl vX5_94 (mt_isCom hb hwf _) rfl (mqR0 hb) rfl rfl (Nat.le_of_ble_eq_true rfl) ⟨(Nat.le_of_ble_eq_true rfl), (Nat.le_of_ble_eq_true rfl)⟩ (Nat.zero_add _) (Nat.zero_add _) ?_
  refine gq_if_eqF (tgt := 22) hX dX5_asks_10 rfl rfl (by rw [hasI_yes hj (by omega)]; decide) ?_
  refine gq_aload_n hX dX5_asks_13 rfl rfl rfl ?_
  refine gq_iload_n hX dX5_asks_14 rfl rfl rfl ?_
  refine gq_iload_n hX dX5_asks_15 rfl rfl rfl ?_
  refine gq_callVe hX dX5_asks_16 rfl vX5_65 (mt_of hb (c := j) (x := 0) (by omega) (by decide)) rfl (mqR0 hb) rfl rfl (Nat.le_of_ble_eq_true rfl) ⟨(Nat.le_of_ble_eq_true rfl), (Nat.le_of_ble_eq_true rfl)⟩ (Nat.zero_add _) (Nat.zero_add _) ?_
  rw [wC0 hncl hj]
  refine gq_goto (tgt := 27) hX dX5_asks_19 rfl ?_
  exact gq_iret hX hQ dX5_asks_27 rfl ⟨rfl, rfl⟩

set_option maxRecDepth 100000 in
set_option maxHeartbeats 4000000 in
theorem mr_members_bad {E : Ev} {b : Nat → Nat} {T : St} {M : Hp} (hb : Lay E 9 b) {S : St} {nc nt no : Nat} (hwf : Wf S nc nt no) (c : Int32) (hF : hasI nc c = 0) : Ct E mX5_members [.ref (b 0), .int c] (MdW E b T (wOf S nc nt no) M) (eqR (some (.int (nI 0))) (MdW E b (setS T 0 (nI 1)) (wOf S nc nt no) M)) 0 0 := by
  refine Ct.of gmX5_members (ls := [.ref (b 0), .int c]) rfl rfl (Nat.le_of_ble_eq_true rfl) ?_
  intro X hX Q hQ
  refine gq_aload_n hX dX5_members_0 rfl rfl rfl ?_
  refine gq_iload_n hX dX5_members_1 rfl rfl rfl ?_
  refine gq_iconst (v := nI 0) hX dX5_members_2 rfl (by decide) ?_
  refine gq_callVe hX dX5_members_3 rfl vX5_201 (as_members_bad hb hwf _ hF) rfl (mqR0 hb) rfl rfl (Nat.le_of_ble_eq_true rfl) ⟨(Nat.le_of_ble_eq_true rfl), (Nat.le_of_ble_eq_true rfl)⟩ (Nat.zero_add _) (Nat.zero_add _) ?_
  exact gq_iret hX hQ dX5_members_6 rfl ⟨rfl, rfl⟩

set_option maxRecDepth 100000 in
set_option maxHeartbeats 4000000 in
theorem mr_members_ok {E : Ev} {b : Nat → Nat} {T : St} {M : Hp} (hb : Lay E 9 b) {S : St} {nc nt no : Nat} (hwf : Wf S nc nt no) {j : Nat} (hj : j < nc) : Ct E mX5_members [.ref (b 0), .int (nI j)] (MdW E b T (wOf S nc nt no) M) (eqR (some (.int (S.2 1 j))) (MdW E b (setS T 0 (nI 0)) (wOf S nc nt no) M)) 0 0 := by
  refine Ct.of gmX5_members (ls := [.ref (b 0), .int (nI j)]) rfl rfl (Nat.le_of_ble_eq_true rfl) ?_
  intro X hX Q hQ
  refine gq_aload_n hX dX5_members_0 rfl rfl rfl ?_
  refine gq_iload_n hX dX5_members_1 rfl rfl rfl ?_
  refine gq_iconst (v := nI 0) hX dX5_members_2 rfl (by decide) ?_
  refine gq_callVe hX dX5_members_3 rfl vX5_201 (as_members_ok hb hwf hj) rfl (mqR0 hb) rfl rfl (Nat.le_of_ble_eq_true rfl) ⟨(Nat.le_of_ble_eq_true rfl), (Nat.le_of_ble_eq_true rfl)⟩ (Nat.zero_add _) (Nat.zero_add _) ?_
  exact gq_iret hX hQ dX5_members_6 rfl ⟨rfl, rfl⟩

set_option maxRecDepth 100000 in
set_option maxHeartbeats 4000000 in
theorem as_arrears_bad {E : Ev} {b : Nat → Nat} {T : St} {M : Hp} (hb : Lay E 9 b) {S : St} {nc nt no : Nat} (hwf : Wf S nc nt no) (c : Int32) (hF : hasI nc c = 0) : Ct E mX5_asks [.ref (b 0), .int c, .int (nI 1)] (MdW E b T (wOf S nc nt no) M) (eqR (some (.int (nI 0))) (MdW E b (setS T 0 (nI 1)) (wOf S nc nt no) M)) 0 0 := by
  refine Ct.of gmX5_asks (ls := [.ref (b 0), .int c, .int (nI 1)]) rfl rfl (Nat.le_of_ble_eq_true rfl) ?_
  intro X hX Q hQ
  have hwf2 := hwf
  obtain ⟨hnc, hncl, hnt, hntl, hno, hnol⟩ := hwf2
  have hw0 : wOf S nc nt no 0 = nI nc := hnc
  have hw1 : wOf S nc nt no 1 = nI nt := hnt
  have hw2 : wOf S nc nt no 2 = nI no := hno
  refine gq_aload_n hX dX5_asks_0 rfl rfl rfl ?_
  refine gq_iconst (v := nI 0) hX dX5_asks_1 rfl (by decide) ?_
  refine gq_putf hX dX5_asks_2 rfl fX5_42 rfl rfl rfl (mqR0 hb) (Nat.le_of_ble_eq_true rfl) (hb.2 0 (by decide)) (mqW0_0 hb) ?_
  refine gq_aload_n hX dX5_asks_5 rfl rfl rfl ?_
  refine gq_iload_n hX dX5_asks_6 rfl rfl rfl ?_
  refine gq_callVe hX dX5_asks_7 rfl vX5_94 (mt_isCom hb hwf _) rfl (mqR0 hb) rfl rfl (Nat.le_of_ble_eq_true rfl) ⟨(Nat.le_of_ble_eq_true rfl), (Nat.le_of_ble_eq_true rfl)⟩ (Nat.zero_add _) (Nat.zero_add _) ?_
  refine gq_if_eqT (tgt := 22) hX dX5_asks_10 rfl hF ?_
  refine gq_aload_n hX dX5_asks_22 rfl rfl rfl ?_
  refine gq_iconst (v := nI 1) hX dX5_asks_23 rfl (by decide) ?_
  refine gq_callVe hX dX5_asks_24 rfl vX5_79 (mt_fails hb _) rfl (mqR0 hb) rfl rfl (Nat.le_of_ble_eq_true rfl) ⟨(Nat.le_of_ble_eq_true rfl), (Nat.le_of_ble_eq_true rfl)⟩ (Nat.zero_add _) (Nat.zero_add _) ?_
  exact gq_iret hX hQ dX5_asks_27 rfl ⟨rfl, by rw [setS_2]⟩

set_option maxRecDepth 100000 in
set_option maxHeartbeats 4000000 in
theorem as_arrears_ok {E : Ev} {b : Nat → Nat} {T : St} {M : Hp} (hb : Lay E 9 b) {S : St} {nc nt no : Nat} (hwf : Wf S nc nt no) {j : Nat} (hj : j < nc) : Ct E mX5_asks [.ref (b 0), .int (nI j), .int (nI 1)] (MdW E b T (wOf S nc nt no) M) (eqR (some (.int (S.2 2 j))) (MdW E b (setS T 0 (nI 0)) (wOf S nc nt no) M)) 0 0 := by
  refine Ct.of gmX5_asks (ls := [.ref (b 0), .int (nI j), .int (nI 1)]) rfl rfl (Nat.le_of_ble_eq_true rfl) ?_
  intro X hX Q hQ
  have hwf2 := hwf
  obtain ⟨hnc, hncl, hnt, hntl, hno, hnol⟩ := hwf2
  have hw0 : wOf S nc nt no 0 = nI nc := hnc
  have hw1 : wOf S nc nt no 1 = nI nt := hnt
  have hw2 : wOf S nc nt no 2 = nI no := hno
  refine gq_aload_n hX dX5_asks_0 rfl rfl rfl ?_
  refine gq_iconst (v := nI 0) hX dX5_asks_1 rfl (by decide) ?_
  refine gq_putf hX dX5_asks_2 rfl fX5_42 rfl rfl rfl (mqR0 hb) (Nat.le_of_ble_eq_true rfl) (hb.2 0 (by decide)) (mqW0_0 hb) ?_
  refine gq_aload_n hX dX5_asks_5 rfl rfl rfl ?_
  refine gq_iload_n hX dX5_asks_6 rfl rfl rfl ?_
  refine gq_callVe hX dX5_asks_7 rfl vX5_94 (mt_isCom hb hwf _) rfl (mqR0 hb) rfl rfl (Nat.le_of_ble_eq_true rfl) ⟨(Nat.le_of_ble_eq_true rfl), (Nat.le_of_ble_eq_true rfl)⟩ (Nat.zero_add _) (Nat.zero_add _) ?_
  refine gq_if_eqF (tgt := 22) hX dX5_asks_10 rfl rfl (by rw [hasI_yes hj (by omega)]; decide) ?_
  refine gq_aload_n hX dX5_asks_13 rfl rfl rfl ?_
  refine gq_iload_n hX dX5_asks_14 rfl rfl rfl ?_
  refine gq_iload_n hX dX5_asks_15 rfl rfl rfl ?_
  refine gq_callVe hX dX5_asks_16 rfl vX5_65 (mt_of hb (c := j) (x := 1) (by omega) (by decide)) rfl (mqR0 hb) rfl rfl (Nat.le_of_ble_eq_true rfl) ⟨(Nat.le_of_ble_eq_true rfl), (Nat.le_of_ble_eq_true rfl)⟩ (Nat.zero_add _) (Nat.zero_add _) ?_
  rw [wC1 hncl hj]
  refine gq_goto (tgt := 27) hX dX5_asks_19 rfl ?_
  exact gq_iret hX hQ dX5_asks_27 rfl ⟨rfl, rfl⟩

set_option maxRecDepth 100000 in
set_option maxHeartbeats 4000000 in
theorem mr_arrears_bad {E : Ev} {b : Nat → Nat} {T : St} {M : Hp} (hb : Lay E 9 b) {S : St} {nc nt no : Nat} (hwf : Wf S nc nt no) (c : Int32) (hF : hasI nc c = 0) : Ct E mX5_arrears [.ref (b 0), .int c] (MdW E b T (wOf S nc nt no) M) (eqR (some (.int (nI 0))) (MdW E b (setS T 0 (nI 1)) (wOf S nc nt no) M)) 0 0 := by
  refine Ct.of gmX5_arrears (ls := [.ref (b 0), .int c]) rfl rfl (Nat.le_of_ble_eq_true rfl) ?_
  intro X hX Q hQ
  refine gq_aload_n hX dX5_arrears_0 rfl rfl rfl ?_
  refine gq_iload_n hX dX5_arrears_1 rfl rfl rfl ?_
  refine gq_iconst (v := nI 1) hX dX5_arrears_2 rfl (by decide) ?_
  refine gq_callVe hX dX5_arrears_3 rfl vX5_201 (as_arrears_bad hb hwf _ hF) rfl (mqR0 hb) rfl rfl (Nat.le_of_ble_eq_true rfl) ⟨(Nat.le_of_ble_eq_true rfl), (Nat.le_of_ble_eq_true rfl)⟩ (Nat.zero_add _) (Nat.zero_add _) ?_
  exact gq_iret hX hQ dX5_arrears_6 rfl ⟨rfl, rfl⟩

set_option maxRecDepth 100000 in
set_option maxHeartbeats 4000000 in
theorem mr_arrears_ok {E : Ev} {b : Nat → Nat} {T : St} {M : Hp} (hb : Lay E 9 b) {S : St} {nc nt no : Nat} (hwf : Wf S nc nt no) {j : Nat} (hj : j < nc) : Ct E mX5_arrears [.ref (b 0), .int (nI j)] (MdW E b T (wOf S nc nt no) M) (eqR (some (.int (S.2 2 j))) (MdW E b (setS T 0 (nI 0)) (wOf S nc nt no) M)) 0 0 := by
  refine Ct.of gmX5_arrears (ls := [.ref (b 0), .int (nI j)]) rfl rfl (Nat.le_of_ble_eq_true rfl) ?_
  intro X hX Q hQ
  refine gq_aload_n hX dX5_arrears_0 rfl rfl rfl ?_
  refine gq_iload_n hX dX5_arrears_1 rfl rfl rfl ?_
  refine gq_iconst (v := nI 1) hX dX5_arrears_2 rfl (by decide) ?_
  refine gq_callVe hX dX5_arrears_3 rfl vX5_201 (as_arrears_ok hb hwf hj) rfl (mqR0 hb) rfl rfl (Nat.le_of_ble_eq_true rfl) ⟨(Nat.le_of_ble_eq_true rfl), (Nat.le_of_ble_eq_true rfl)⟩ (Nat.zero_add _) (Nat.zero_add _) ?_
  exact gq_iret hX hQ dX5_arrears_6 rfl ⟨rfl, rfl⟩

set_option maxRecDepth 100000 in
set_option maxHeartbeats 4000000 in
theorem as_isFlying_bad {E : Ev} {b : Nat → Nat} {T : St} {M : Hp} (hb : Lay E 9 b) {S : St} {nc nt no : Nat} (hwf : Wf S nc nt no) (c : Int32) (hF : hasI nc c = 0) : Ct E mX5_asks [.ref (b 0), .int c, .int (nI 2)] (MdW E b T (wOf S nc nt no) M) (eqR (some (.int (nI 0))) (MdW E b (setS T 0 (nI 1)) (wOf S nc nt no) M)) 0 0 := by
  refine Ct.of gmX5_asks (ls := [.ref (b 0), .int c, .int (nI 2)]) rfl rfl (Nat.le_of_ble_eq_true rfl) ?_
  intro X hX Q hQ
  have hwf2 := hwf
  obtain ⟨hnc, hncl, hnt, hntl, hno, hnol⟩ := hwf2
  have hw0 : wOf S nc nt no 0 = nI nc := hnc
  have hw1 : wOf S nc nt no 1 = nI nt := hnt
  have hw2 : wOf S nc nt no 2 = nI no := hno
  refine gq_aload_n hX dX5_asks_0 rfl rfl rfl ?_
  refine gq_iconst (v := nI 0) hX dX5_asks_1 rfl (by decide) ?_
  refine gq_putf hX dX5_asks_2 rfl fX5_42 rfl rfl rfl (mqR0 hb) (Nat.le_of_ble_eq_true rfl) (hb.2 0 (by decide)) (mqW0_0 hb) ?_
  refine gq_aload_n hX dX5_asks_5 rfl rfl rfl ?_
  refine gq_iload_n hX dX5_asks_6 rfl rfl rfl ?_
  refine gq_callVe hX dX5_asks_7 rfl vX5_94 (mt_isCom hb hwf _) rfl (mqR0 hb) rfl rfl (Nat.le_of_ble_eq_true rfl) ⟨(Nat.le_of_ble_eq_true rfl), (Nat.le_of_ble_eq_true rfl)⟩ (Nat.zero_add _) (Nat.zero_add _) ?_
  refine gq_if_eqT (tgt := 22) hX dX5_asks_10 rfl hF ?_
  refine gq_aload_n hX dX5_asks_22 rfl rfl rfl ?_
  refine gq_iconst (v := nI 1) hX dX5_asks_23 rfl (by decide) ?_
  refine gq_callVe hX dX5_asks_24 rfl vX5_79 (mt_fails hb _) rfl (mqR0 hb) rfl rfl (Nat.le_of_ble_eq_true rfl) ⟨(Nat.le_of_ble_eq_true rfl), (Nat.le_of_ble_eq_true rfl)⟩ (Nat.zero_add _) (Nat.zero_add _) ?_
  exact gq_iret hX hQ dX5_asks_27 rfl ⟨rfl, by rw [setS_2]⟩

set_option maxRecDepth 100000 in
set_option maxHeartbeats 4000000 in
theorem as_isFlying_ok {E : Ev} {b : Nat → Nat} {T : St} {M : Hp} (hb : Lay E 9 b) {S : St} {nc nt no : Nat} (hwf : Wf S nc nt no) {j : Nat} (hj : j < nc) : Ct E mX5_asks [.ref (b 0), .int (nI j), .int (nI 2)] (MdW E b T (wOf S nc nt no) M) (eqR (some (.int (S.2 3 j))) (MdW E b (setS T 0 (nI 0)) (wOf S nc nt no) M)) 0 0 := by
  refine Ct.of gmX5_asks (ls := [.ref (b 0), .int (nI j), .int (nI 2)]) rfl rfl (Nat.le_of_ble_eq_true rfl) ?_
  intro X hX Q hQ
  have hwf2 := hwf
  obtain ⟨hnc, hncl, hnt, hntl, hno, hnol⟩ := hwf2
  have hw0 : wOf S nc nt no 0 = nI nc := hnc
  have hw1 : wOf S nc nt no 1 = nI nt := hnt
  have hw2 : wOf S nc nt no 2 = nI no := hno
  refine gq_aload_n hX dX5_asks_0 rfl rfl rfl ?_
  refine gq_iconst (v := nI 0) hX dX5_asks_1 rfl (by decide) ?_
  refine gq_putf hX dX5_asks_2 rfl fX5_42 rfl rfl rfl (mqR0 hb) (Nat.le_of_ble_eq_true rfl) (hb.2 0 (by decide)) (mqW0_0 hb) ?_
  refine gq_aload_n hX dX5_asks_5 rfl rfl rfl ?_
  refine gq_iload_n hX dX5_asks_6 rfl rfl rfl ?_
  refine gq_callVe hX dX5_asks_7 rfl vX5_94 (mt_isCom hb hwf _) rfl (mqR0 hb) rfl rfl (Nat.le_of_ble_eq_true rfl) ⟨(Nat.le_of_ble_eq_true rfl), (Nat.le_of_ble_eq_true rfl)⟩ (Nat.zero_add _) (Nat.zero_add _) ?_
  refine gq_if_eqF (tgt := 22) hX dX5_asks_10 rfl rfl (by rw [hasI_yes hj (by omega)]; decide) ?_
  refine gq_aload_n hX dX5_asks_13 rfl rfl rfl ?_
  refine gq_iload_n hX dX5_asks_14 rfl rfl rfl ?_
  refine gq_iload_n hX dX5_asks_15 rfl rfl rfl ?_
  refine gq_callVe hX dX5_asks_16 rfl vX5_65 (mt_of hb (c := j) (x := 2) (by omega) (by decide)) rfl (mqR0 hb) rfl rfl (Nat.le_of_ble_eq_true rfl) ⟨(Nat.le_of_ble_eq_true rfl), (Nat.le_of_ble_eq_true rfl)⟩ (Nat.zero_add _) (Nat.zero_add _) ?_
  rw [wC2 hncl hj]
  refine gq_goto (tgt := 27) hX dX5_asks_19 rfl ?_
  exact gq_iret hX hQ dX5_asks_27 rfl ⟨rfl, rfl⟩

set_option maxRecDepth 100000 in
set_option maxHeartbeats 4000000 in
theorem mr_isFlying_bad {E : Ev} {b : Nat → Nat} {T : St} {M : Hp} (hb : Lay E 9 b) {S : St} {nc nt no : Nat} (hwf : Wf S nc nt no) (c : Int32) (hF : hasI nc c = 0) : Ct E mX5_isFlying [.ref (b 0), .int c] (MdW E b T (wOf S nc nt no) M) (eqR (some (.int (nI 0))) (MdW E b (setS T 0 (nI 1)) (wOf S nc nt no) M)) 0 0 := by
  refine Ct.of gmX5_isFlying (ls := [.ref (b 0), .int c]) rfl rfl (Nat.le_of_ble_eq_true rfl) ?_
  intro X hX Q hQ
  refine gq_aload_n hX dX5_isFlying_0 rfl rfl rfl ?_
  refine gq_iload_n hX dX5_isFlying_1 rfl rfl rfl ?_
  refine gq_iconst (v := nI 2) hX dX5_isFlying_2 rfl (by decide) ?_
  refine gq_callVe hX dX5_isFlying_3 rfl vX5_201 (as_isFlying_bad hb hwf _ hF) rfl (mqR0 hb) rfl rfl (Nat.le_of_ble_eq_true rfl) ⟨(Nat.le_of_ble_eq_true rfl), (Nat.le_of_ble_eq_true rfl)⟩ (Nat.zero_add _) (Nat.zero_add _) ?_
  refine gq_iconst (v := nI 1) hX dX5_isFlying_6 rfl (by decide) ?_
  refine gq_icmp_neT (tgt := 14) hX dX5_isFlying_7 rfl (by decide) ?_
  refine gq_iconst (v := nI 0) hX dX5_isFlying_14 rfl (by decide) ?_
  exact gq_zret hX hQ dX5_isFlying_15 rfl rfl ⟨rfl, rfl⟩

set_option maxRecDepth 100000 in
set_option maxHeartbeats 4000000 in
theorem mr_isFlying_ok {E : Ev} {b : Nat → Nat} {T : St} {M : Hp} (hb : Lay E 9 b) {S : St} {nc nt no : Nat} (hwf : Wf S nc nt no) (hn : Nar S) {j : Nat} (hj : j < nc) : Ct E mX5_isFlying [.ref (b 0), .int (nI j)] (MdW E b T (wOf S nc nt no) M) (eqR (some (.int (S.2 3 j))) (MdW E b (setS T 0 (nI 0)) (wOf S nc nt no) M)) 0 0 := by
  refine Ct.of gmX5_isFlying (ls := [.ref (b 0), .int (nI j)]) rfl rfl (Nat.le_of_ble_eq_true rfl) ?_
  intro X hX Q hQ
  refine gq_aload_n hX dX5_isFlying_0 rfl rfl rfl ?_
  refine gq_iload_n hX dX5_isFlying_1 rfl rfl rfl ?_
  refine gq_iconst (v := nI 2) hX dX5_isFlying_2 rfl (by decide) ?_
  refine gq_callVe hX dX5_isFlying_3 rfl vX5_201 (as_isFlying_ok hb hwf hj) rfl (mqR0 hb) rfl rfl (Nat.le_of_ble_eq_true rfl) ⟨(Nat.le_of_ble_eq_true rfl), (Nat.le_of_ble_eq_true rfl)⟩ (Nat.zero_add _) (Nat.zero_add _) ?_
  refine gq_iconst (v := nI 1) hX dX5_isFlying_6 rfl (by decide) ?_
  refine gq_icmp_ne (tgt := 14) hX dX5_isFlying_7 rfl rfl (fun c7 => ?_) (fun c7 => ?_)
  · refine gq_iconst (v := nI 0) hX dX5_isFlying_14 rfl (by decide) ?_
    exact gq_zret hX hQ dX5_isFlying_15 rfl rfl ⟨congrArg (fun z => some (Value.int z)) ((bool_01 (hn.1 j)).resolve_right c7).symm, rfl⟩
  · refine gq_iconst (v := nI 1) hX dX5_isFlying_10 rfl (by decide) ?_
    refine gq_goto (tgt := 15) hX dX5_isFlying_11 rfl ?_
    exact gq_zret hX hQ dX5_isFlying_15 rfl rfl ⟨congrArg (fun z => some (Value.int z)) (show nI 1 = S.2 3 j from (c7 : S.2 3 j = nI 1).symm), rfl⟩

set_option maxRecDepth 100000 in
set_option maxHeartbeats 4000000 in
theorem mr_tailLength_bad {E : Ev} {b : Nat → Nat} {T : St} {M : Hp} (hb : Lay E 9 b) {S : St} {nc nt no : Nat} (hwf : Wf S nc nt no) (c : Int32) (hF : hasI nc c = 0) : Ct E mX5_tailLength [.ref (b 0), .int c] (MdW E b T (wOf S nc nt no) M) (eqR (some (.int (nI 0))) (MdW E b (setS T 0 (nI 1)) (wOf S nc nt no) M)) 0 0 := by
  refine Ct.of gmX5_tailLength (ls := [.ref (b 0), .int c]) rfl rfl (Nat.le_of_ble_eq_true rfl) ?_
  intro X hX Q hQ
  have hwf2 := hwf
  obtain ⟨hnc, hncl, hnt, hntl, hno, hnol⟩ := hwf2
  have hw0 : wOf S nc nt no 0 = nI nc := hnc
  have hw1 : wOf S nc nt no 1 = nI nt := hnt
  have hw2 : wOf S nc nt no 2 = nI no := hno
  refine gq_aload_n hX dX5_tailLength_0 rfl rfl rfl ?_
  refine gq_iconst (v := nI 0) hX dX5_tailLength_1 rfl (by decide) ?_
  refine gq_putf hX dX5_tailLength_2 rfl fX5_42 rfl rfl rfl (mqR0 hb) (Nat.le_of_ble_eq_true rfl) (hb.2 0 (by decide)) (mqW0_0 hb) ?_
  refine gq_aload_n hX dX5_tailLength_5 rfl rfl rfl ?_
  refine gq_iload_n hX dX5_tailLength_6 rfl rfl rfl ?_
  refine gq_callVe hX dX5_tailLength_7 rfl vX5_94 (mt_isCom hb hwf _) rfl (mqR0 hb) rfl rfl (Nat.le_of_ble_eq_true rfl) ⟨(Nat.le_of_ble_eq_true rfl), (Nat.le_of_ble_eq_true rfl)⟩ (Nat.zero_add _) (Nat.zero_add _) ?_
  refine gq_if_eqT (tgt := 21) hX dX5_tailLength_10 rfl hF ?_
  refine gq_aload_n hX dX5_tailLength_21 rfl rfl rfl ?_
  refine gq_iconst (v := nI 1) hX dX5_tailLength_22 rfl (by decide) ?_
  refine gq_callVe hX dX5_tailLength_23 rfl vX5_79 (mt_fails hb _) rfl (mqR0 hb) rfl rfl (Nat.le_of_ble_eq_true rfl) ⟨(Nat.le_of_ble_eq_true rfl), (Nat.le_of_ble_eq_true rfl)⟩ (Nat.zero_add _) (Nat.zero_add _) ?_
  exact gq_iret hX hQ dX5_tailLength_26 rfl ⟨rfl, by rw [setS_2]⟩

set_option maxRecDepth 100000 in
set_option maxHeartbeats 4000000 in
theorem mr_tailLength_ok {E : Ev} {b : Nat → Nat} {T : St} {M : Hp} (hb : Lay E 9 b) {S : St} {nc nt no : Nat} (hwf : Wf S nc nt no) {j : Nat} (hj : j < nc) : Ct E mX5_tailLength [.ref (b 0), .int (nI j)] (MdW E b T (wOf S nc nt no) M) (eqR (some (.int (lenB S nt (nI j)))) (MdW E b (setS T 0 (nI 0)) (wOf S nc nt no) M)) 0 0 := by
  refine Ct.of gmX5_tailLength (ls := [.ref (b 0), .int (nI j)]) rfl rfl (Nat.le_of_ble_eq_true rfl) ?_
  intro X hX Q hQ
  have hwf2 := hwf
  obtain ⟨hnc, hncl, hnt, hntl, hno, hnol⟩ := hwf2
  have hw0 : wOf S nc nt no 0 = nI nc := hnc
  have hw1 : wOf S nc nt no 1 = nI nt := hnt
  have hw2 : wOf S nc nt no 2 = nI no := hno
  refine gq_aload_n hX dX5_tailLength_0 rfl rfl rfl ?_
  refine gq_iconst (v := nI 0) hX dX5_tailLength_1 rfl (by decide) ?_
  refine gq_putf hX dX5_tailLength_2 rfl fX5_42 rfl rfl rfl (mqR0 hb) (Nat.le_of_ble_eq_true rfl) (hb.2 0 (by decide)) (mqW0_0 hb) ?_
  refine gq_aload_n hX dX5_tailLength_5 rfl rfl rfl ?_
  refine gq_iload_n hX dX5_tailLength_6 rfl rfl rfl ?_
  refine gq_callVe hX dX5_tailLength_7 rfl vX5_94 (mt_isCom hb hwf _) rfl (mqR0 hb) rfl rfl (Nat.le_of_ble_eq_true rfl) ⟨(Nat.le_of_ble_eq_true rfl), (Nat.le_of_ble_eq_true rfl)⟩ (Nat.zero_add _) (Nat.zero_add _) ?_
  refine gq_if_eqF (tgt := 21) hX dX5_tailLength_10 rfl rfl (by rw [hasI_yes hj (by omega)]; decide) ?_
  refine gq_aload_n hX dX5_tailLength_13 rfl rfl rfl ?_
  refine gq_iload_n hX dX5_tailLength_14 rfl rfl rfl ?_
  refine gq_callVe hX dX5_tailLength_15 rfl vX5_183 (mt_len hb hwf _) rfl (mqR0 hb) rfl rfl (Nat.le_of_ble_eq_true rfl) ⟨(Nat.le_of_ble_eq_true rfl), (Nat.le_of_ble_eq_true rfl)⟩ (Nat.zero_add _) (Nat.zero_add _) ?_
  refine gq_goto (tgt := 26) hX dX5_tailLength_18 rfl ?_
  exact gq_iret hX hQ dX5_tailLength_26 rfl ⟨rfl, rfl⟩

set_option maxRecDepth 100000 in
set_option maxHeartbeats 4000000 in
theorem mr_tailsOf_bad {E : Ev} {b : Nat → Nat} {T : St} {M : Hp} (hb : Lay E 9 b) {S : St} {nc nt no : Nat} (hwf : Wf S nc nt no) (c : Int32) (hF : hasI nc c = 0) : Ct E mX5_tailsOf [.ref (b 0), .int c] (MdW E b T (wOf S nc nt no) M) (eqR (some (.int (nI 0))) (MdW E b (setS T 0 (nI 1)) (wOf S nc nt no) M)) 0 0 := by
  refine Ct.of gmX5_tailsOf (ls := [.ref (b 0), .int c, hole, hole]) rfl rfl (Nat.le_of_ble_eq_true rfl) ?_
  intro X hX Q hQ
  have hwf2 := hwf
  obtain ⟨hnc, hncl, hnt, hntl, hno, hnol⟩ := hwf2
  have hw0 : wOf S nc nt no 0 = nI nc := hnc
  have hw1 : wOf S nc nt no 1 = nI nt := hnt
  have hw2 : wOf S nc nt no 2 = nI no := hno
  refine gq_aload_n hX dX5_tailsOf_0 rfl rfl rfl ?_
  refine gq_iconst (v := nI 0) hX dX5_tailsOf_1 rfl (by decide) ?_
  refine gq_putf hX dX5_tailsOf_2 rfl fX5_42 rfl rfl rfl (mqR0 hb) (Nat.le_of_ble_eq_true rfl) (hb.2 0 (by decide)) (mqW0_0 hb) ?_
  refine gq_aload_n hX dX5_tailsOf_5 rfl rfl rfl ?_
  refine gq_iload_n hX dX5_tailsOf_6 rfl rfl rfl ?_
  refine gq_callVe hX dX5_tailsOf_7 rfl vX5_94 (mt_isCom hb hwf _) rfl (mqR0 hb) rfl rfl (Nat.le_of_ble_eq_true rfl) ⟨(Nat.le_of_ble_eq_true rfl), (Nat.le_of_ble_eq_true rfl)⟩ (Nat.zero_add _) (Nat.zero_add _) ?_
  refine gq_if_neF (tgt := 19) hX dX5_tailsOf_10 rfl rfl hF ?_
  refine gq_aload_n hX dX5_tailsOf_13 rfl rfl rfl ?_
  refine gq_iconst (v := nI 1) hX dX5_tailsOf_14 rfl (by decide) ?_
  refine gq_callVe hX dX5_tailsOf_15 rfl vX5_79 (mt_fails hb _) rfl (mqR0 hb) rfl rfl (Nat.le_of_ble_eq_true rfl) ⟨(Nat.le_of_ble_eq_true rfl), (Nat.le_of_ble_eq_true rfl)⟩ (Nat.zero_add _) (Nat.zero_add _) ?_
  exact gq_iret hX hQ dX5_tailsOf_18 rfl ⟨rfl, by rw [setS_2]⟩

set_option maxRecDepth 100000 in
set_option maxHeartbeats 4000000 in
theorem mr_tailsOf_ok {E : Ev} {b : Nat → Nat} {T : St} {M : Hp} (hb : Lay E 9 b) {S : St} {nc nt no : Nat} (hwf : Wf S nc nt no) {j0 : Nat} (hj : j0 < nc) : Ct E mX5_tailsOf [.ref (b 0), .int (nI j0)] (MdW E b T (wOf S nc nt no) M) (eqR (some (.int (taiB S nt (nI j0)))) (MdW E b (setS T 0 (nI 0)) (wOf S nc nt no) M)) 0 0 := by
  refine Ct.of gmX5_tailsOf (ls := [.ref (b 0), .int (nI j0), hole, hole]) rfl rfl (Nat.le_of_ble_eq_true rfl) ?_
  intro X hX Q hQ
  have hwf2 := hwf
  obtain ⟨hnc, hncl, hnt, hntl, hno, hnol⟩ := hwf2
  have hw0 : wOf S nc nt no 0 = nI nc := hnc
  have hw1 : wOf S nc nt no 1 = nI nt := hnt
  have hw2 : wOf S nc nt no 2 = nI no := hno
  refine gq_aload_n hX dX5_tailsOf_0 rfl rfl rfl ?_
  refine gq_iconst (v := nI 0) hX dX5_tailsOf_1 rfl (by decide) ?_
  refine gq_putf hX dX5_tailsOf_2 rfl fX5_42 rfl rfl rfl (mqR0 hb) (Nat.le_of_ble_eq_true rfl) (hb.2 0 (by decide)) (mqW0_0 hb) ?_
  refine gq_aload_n hX dX5_tailsOf_5 rfl rfl rfl ?_
  refine gq_iload_n hX dX5_tailsOf_6 rfl rfl rfl ?_
  refine gq_callVe hX dX5_tailsOf_7 rfl vX5_94 (mt_isCom hb hwf _) rfl (mqR0 hb) rfl rfl (Nat.le_of_ble_eq_true rfl) ⟨(Nat.le_of_ble_eq_true rfl), (Nat.le_of_ble_eq_true rfl)⟩ (Nat.zero_add _) (Nat.zero_add _) ?_
  refine gq_if_neT (tgt := 19) hX dX5_tailsOf_10 rfl (by rw [hasI_yes hj (by omega)]; decide) ?_
  refine gq_iconst (v := nI 0) hX dX5_tailsOf_19 rfl (by decide) ?_
  refine gq_istore_n hX dX5_tailsOf_20 rfl rfl (Nat.le_of_ble_eq_true rfl) rfl ?_
  refine gq_iconst (v := nI 0) hX dX5_tailsOf_21 rfl (by decide) ?_
  refine gq_istore_n hX dX5_tailsOf_22 rfl rfl (Nat.le_of_ble_eq_true rfl) rfl ?_
  have loop : ∀ n j : Nat, j + n = nt → Gq E X mX5_tailsOf Q 23 [.ref (b 0), .int (nI j0), .int (it (fun i s => if S.2 5 i = nI j0 then s + nI 1 else s) (nI 0) j), .int (nI j)] [] (MdW E b (setS T 0 (nI 0)) (wOf S nc nt no) M) 0 0 := by
    intro n
    induction n with
    | zero =>
      intro j hj
      refine gq_iload_n hX dX5_tailsOf_23 rfl rfl rfl ?_
      refine gq_aload_n hX dX5_tailsOf_24 rfl rfl rfl ?_
      refine gq_getf hX dX5_tailsOf_25 rfl fX5_7 (mqR0 hb) rfl ?_
      refine gq_iconst (v := nI 1) hX dX5_tailsOf_28 rfl (by decide) ?_
      refine gq_ialdN hX dX5_tailsOf_29 rfl (mqR1 hb) rfl (by omega) (Nat.le_of_ble_eq_true rfl) ?_
      refine gq_icmp_geT (tgt := 59) hX dX5_tailsOf_30 rfl (cT hw1 (by omega) (by omega)) ?_
      have ej : nt = j := by omega
      subst ej
      refine gq_iload_n hX dX5_tailsOf_59 rfl rfl rfl ?_
      exact gq_iret hX hQ dX5_tailsOf_60 rfl ⟨rfl, rfl⟩
    | succ n ih =>
      intro j hj
      refine gq_iload_n hX dX5_tailsOf_23 rfl rfl rfl ?_
      refine gq_aload_n hX dX5_tailsOf_24 rfl rfl rfl ?_
      refine gq_getf hX dX5_tailsOf_25 rfl fX5_7 (mqR0 hb) rfl ?_
      refine gq_iconst (v := nI 1) hX dX5_tailsOf_28 rfl (by decide) ?_
      refine gq_ialdN hX dX5_tailsOf_29 rfl (mqR1 hb) rfl (by omega) (Nat.le_of_ble_eq_true rfl) ?_
      refine gq_icmp_geF (tgt := 59) hX dX5_tailsOf_30 rfl rfl (cF hw1 (by omega) (by omega)) ?_
      refine gq_iload_n hX dX5_tailsOf_33 rfl rfl rfl ?_
      refine gq_aload_n hX dX5_tailsOf_34 rfl rfl rfl ?_
      refine gq_iload_n hX dX5_tailsOf_35 rfl rfl rfl ?_
      refine gq_iconst (v := nI 1) hX dX5_tailsOf_36 rfl (by decide) ?_
      refine gq_callVe hX dX5_tailsOf_37 rfl vX5_68 (mt_tail hb (c := j) (x := 1) (by omega) (by decide)) rfl (mqR0 hb) rfl rfl (Nat.le_of_ble_eq_true rfl) ⟨(Nat.le_of_ble_eq_true rfl), (Nat.le_of_ble_eq_true rfl)⟩ (Nat.zero_add _) (Nat.zero_add _) ?_
      rw [wT1 hntl (by omega)]
      refine gq_iload_n hX dX5_tailsOf_40 rfl rfl rfl ?_
      refine gq_iconst (v := nI 1) hX dX5_tailsOf_41 rfl (by decide) ?_
      refine gq_iadd hX dX5_tailsOf_42 rfl ?_
      refine gq_icmp_ne (tgt := 50) hX dX5_tailsOf_43 rfl rfl (fun c9 => ?_) (fun c9 => ?_)
      · refine gq_iconst (v := nI 0) hX dX5_tailsOf_50 rfl (by decide) ?_
        refine gq_iadd hX dX5_tailsOf_51 rfl ?_
        refine gq_istore_n hX dX5_tailsOf_52 rfl rfl (Nat.le_of_ble_eq_true rfl) rfl ?_
        refine gq_iinc hX dX5_tailsOf_53 rfl rfl (inc1 _) (Nat.le_of_ble_eq_true rfl) rfl ?_
        refine gq_goto (tgt := 23) hX dX5_tailsOf_56 rfl ?_
        exact gq_ls (by rw [show it (fun i s => if S.2 5 i = nI j0 then s + nI 1 else s) (nI 0) (j + 1) = it (fun i s => if S.2 5 i = nI j0 then s + nI 1 else s) (nI 0) j from if_neg (fun e => c9 (add1_inj.mpr e)), show it (fun i s => if S.2 5 i = nI j0 then s + nI 1 else s) (nI 0) j + nI 0 = it (fun i s => if S.2 5 i = nI j0 then s + nI 1 else s) (nI 0) j from Int32.add_zero _]; rfl) rfl rfl (ih (j + 1) (by omega))
      · refine gq_iconst (v := nI 1) hX dX5_tailsOf_46 rfl (by decide) ?_
        refine gq_goto (tgt := 51) hX dX5_tailsOf_47 rfl ?_
        refine gq_iadd hX dX5_tailsOf_51 rfl ?_
        refine gq_istore_n hX dX5_tailsOf_52 rfl rfl (Nat.le_of_ble_eq_true rfl) rfl ?_
        refine gq_iinc hX dX5_tailsOf_53 rfl rfl (inc1 _) (Nat.le_of_ble_eq_true rfl) rfl ?_
        refine gq_goto (tgt := 23) hX dX5_tailsOf_56 rfl ?_
        exact gq_ls (by rw [show it (fun i s => if S.2 5 i = nI j0 then s + nI 1 else s) (nI 0) (j + 1) = it (fun i s => if S.2 5 i = nI j0 then s + nI 1 else s) (nI 0) j + nI 1 from if_pos (add1_inj.mp c9)]; rfl) rfl rfl (ih (j + 1) (by omega))
  exact loop nt 0 (by omega)

set_option maxRecDepth 100000 in
set_option maxHeartbeats 4000000 in
theorem mr_length_bad {E : Ev} {b : Nat → Nat} {T : St} {M : Hp} (hb : Lay E 9 b) {S : St} {nc nt no : Nat} (hwf : Wf S nc nt no) (c : Int32) (hF : hasI nt c = 0) : Ct E mX5_length [.ref (b 0), .int c] (MdW E b T (wOf S nc nt no) M) (eqR (some (.int (nI 0))) (MdW E b (setS T 0 (nI 1)) (wOf S nc nt no) M)) 0 0 := by
  refine Ct.of gmX5_length (ls := [.ref (b 0), .int c]) rfl rfl (Nat.le_of_ble_eq_true rfl) ?_
  intro X hX Q hQ
  have hwf2 := hwf
  obtain ⟨hnc, hncl, hnt, hntl, hno, hnol⟩ := hwf2
  have hw0 : wOf S nc nt no 0 = nI nc := hnc
  have hw1 : wOf S nc nt no 1 = nI nt := hnt
  have hw2 : wOf S nc nt no 2 = nI no := hno
  refine gq_aload_n hX dX5_length_0 rfl rfl rfl ?_
  refine gq_iconst (v := nI 0) hX dX5_length_1 rfl (by decide) ?_
  refine gq_putf hX dX5_length_2 rfl fX5_42 rfl rfl rfl (mqR0 hb) (Nat.le_of_ble_eq_true rfl) (hb.2 0 (by decide)) (mqW0_0 hb) ?_
  refine gq_aload_n hX dX5_length_5 rfl rfl rfl ?_
  refine gq_iload_n hX dX5_length_6 rfl rfl rfl ?_
  refine gq_callVe hX dX5_length_7 rfl vX5_117 (mt_isTail hb hwf _) rfl (mqR0 hb) rfl rfl (Nat.le_of_ble_eq_true rfl) ⟨(Nat.le_of_ble_eq_true rfl), (Nat.le_of_ble_eq_true rfl)⟩ (Nat.zero_add _) (Nat.zero_add _) ?_
  refine gq_if_eqT (tgt := 22) hX dX5_length_10 rfl hF ?_
  refine gq_aload_n hX dX5_length_22 rfl rfl rfl ?_
  refine gq_iconst (v := nI 1) hX dX5_length_23 rfl (by decide) ?_
  refine gq_callVe hX dX5_length_24 rfl vX5_79 (mt_fails hb _) rfl (mqR0 hb) rfl rfl (Nat.le_of_ble_eq_true rfl) ⟨(Nat.le_of_ble_eq_true rfl), (Nat.le_of_ble_eq_true rfl)⟩ (Nat.zero_add _) (Nat.zero_add _) ?_
  exact gq_iret hX hQ dX5_length_27 rfl ⟨rfl, by rw [setS_2]⟩

set_option maxRecDepth 100000 in
set_option maxHeartbeats 4000000 in
theorem mr_length_ok {E : Ev} {b : Nat → Nat} {T : St} {M : Hp} (hb : Lay E 9 b) {S : St} {nc nt no : Nat} (hwf : Wf S nc nt no) {j : Nat} (hj : j < nt) : Ct E mX5_length [.ref (b 0), .int (nI j)] (MdW E b T (wOf S nc nt no) M) (eqR (some (.int (S.2 4 j))) (MdW E b (setS T 0 (nI 0)) (wOf S nc nt no) M)) 0 0 := by
  refine Ct.of gmX5_length (ls := [.ref (b 0), .int (nI j)]) rfl rfl (Nat.le_of_ble_eq_true rfl) ?_
  intro X hX Q hQ
  have hwf2 := hwf
  obtain ⟨hnc, hncl, hnt, hntl, hno, hnol⟩ := hwf2
  have hw0 : wOf S nc nt no 0 = nI nc := hnc
  have hw1 : wOf S nc nt no 1 = nI nt := hnt
  have hw2 : wOf S nc nt no 2 = nI no := hno
  refine gq_aload_n hX dX5_length_0 rfl rfl rfl ?_
  refine gq_iconst (v := nI 0) hX dX5_length_1 rfl (by decide) ?_
  refine gq_putf hX dX5_length_2 rfl fX5_42 rfl rfl rfl (mqR0 hb) (Nat.le_of_ble_eq_true rfl) (hb.2 0 (by decide)) (mqW0_0 hb) ?_
  refine gq_aload_n hX dX5_length_5 rfl rfl rfl ?_
  refine gq_iload_n hX dX5_length_6 rfl rfl rfl ?_
  refine gq_callVe hX dX5_length_7 rfl vX5_117 (mt_isTail hb hwf _) rfl (mqR0 hb) rfl rfl (Nat.le_of_ble_eq_true rfl) ⟨(Nat.le_of_ble_eq_true rfl), (Nat.le_of_ble_eq_true rfl)⟩ (Nat.zero_add _) (Nat.zero_add _) ?_
  refine gq_if_eqF (tgt := 22) hX dX5_length_10 rfl rfl (by rw [hasI_yes hj (by omega)]; decide) ?_
  refine gq_aload_n hX dX5_length_13 rfl rfl rfl ?_
  refine gq_iload_n hX dX5_length_14 rfl rfl rfl ?_
  refine gq_iconst (v := nI 0) hX dX5_length_15 rfl (by decide) ?_
  refine gq_callVe hX dX5_length_16 rfl vX5_68 (mt_tail hb (c := j) (x := 0) (by omega) (by decide)) rfl (mqR0 hb) rfl rfl (Nat.le_of_ble_eq_true rfl) ⟨(Nat.le_of_ble_eq_true rfl), (Nat.le_of_ble_eq_true rfl)⟩ (Nat.zero_add _) (Nat.zero_add _) ?_
  rw [wT0 hntl hj]
  refine gq_goto (tgt := 27) hX dX5_length_19 rfl ?_
  exact gq_iret hX hQ dX5_length_27 rfl ⟨rfl, rfl⟩

set_option maxRecDepth 100000 in
set_option maxHeartbeats 4000000 in
theorem mr_isFree_bad {E : Ev} {b : Nat → Nat} {T : St} {M : Hp} (hb : Lay E 9 b) {S : St} {nc nt no : Nat} (hwf : Wf S nc nt no) (c : Int32) (hF : hasI nt c = 0) : Ct E mX5_isFree [.ref (b 0), .int c] (MdW E b T (wOf S nc nt no) M) (eqR (some (.int (nI 0))) (MdW E b (setS T 0 (nI 1)) (wOf S nc nt no) M)) 0 0 := by
  refine Ct.of gmX5_isFree (ls := [.ref (b 0), .int c]) rfl rfl (Nat.le_of_ble_eq_true rfl) ?_
  intro X hX Q hQ
  have hwf2 := hwf
  obtain ⟨hnc, hncl, hnt, hntl, hno, hnol⟩ := hwf2
  have hw0 : wOf S nc nt no 0 = nI nc := hnc
  have hw1 : wOf S nc nt no 1 = nI nt := hnt
  have hw2 : wOf S nc nt no 2 = nI no := hno
  refine gq_aload_n hX dX5_isFree_0 rfl rfl rfl ?_
  refine gq_iconst (v := nI 0) hX dX5_isFree_1 rfl (by decide) ?_
  refine gq_putf hX dX5_isFree_2 rfl fX5_42 rfl rfl rfl (mqR0 hb) (Nat.le_of_ble_eq_true rfl) (hb.2 0 (by decide)) (mqW0_0 hb) ?_
  refine gq_aload_n hX dX5_isFree_5 rfl rfl rfl ?_
  refine gq_iload_n hX dX5_isFree_6 rfl rfl rfl ?_
  refine gq_callVe hX dX5_isFree_7 rfl vX5_117 (mt_isTail hb hwf _) rfl (mqR0 hb) rfl rfl (Nat.le_of_ble_eq_true rfl) ⟨(Nat.le_of_ble_eq_true rfl), (Nat.le_of_ble_eq_true rfl)⟩ (Nat.zero_add _) (Nat.zero_add _) ?_
  refine gq_if_neF (tgt := 27) hX dX5_isFree_10 rfl rfl hF ?_
  refine gq_aload_n hX dX5_isFree_13 rfl rfl rfl ?_
  refine gq_iconst (v := nI 1) hX dX5_isFree_14 rfl (by decide) ?_
  refine gq_callVe hX dX5_isFree_15 rfl vX5_79 (mt_fails hb _) rfl (mqR0 hb) rfl rfl (Nat.le_of_ble_eq_true rfl) ⟨(Nat.le_of_ble_eq_true rfl), (Nat.le_of_ble_eq_true rfl)⟩ (Nat.zero_add _) (Nat.zero_add _) ?_
  refine gq_if_leT (tgt := 25) hX dX5_isFree_18 rfl (by decide) ?_
  refine gq_iconst (v := nI 0) hX dX5_isFree_25 rfl (by decide) ?_
  exact gq_zret hX hQ dX5_isFree_26 rfl rfl ⟨rfl, by rw [setS_2]⟩

set_option maxRecDepth 100000 in
set_option maxHeartbeats 4000000 in
theorem mr_isFree_ok {E : Ev} {b : Nat → Nat} {T : St} {M : Hp} (hb : Lay E 9 b) {S : St} {nc nt no : Nat} (hwf : Wf S nc nt no) {j : Nat} (hj : j < nt) : Ct E mX5_isFree [.ref (b 0), .int (nI j)] (MdW E b T (wOf S nc nt no) M) (eqR (some (.int (if S.2 5 j = -1 then nI 1 else nI 0))) (MdW E b (setS T 0 (nI 0)) (wOf S nc nt no) M)) 0 0 := by
  refine Ct.of gmX5_isFree (ls := [.ref (b 0), .int (nI j)]) rfl rfl (Nat.le_of_ble_eq_true rfl) ?_
  intro X hX Q hQ
  have hwf2 := hwf
  obtain ⟨hnc, hncl, hnt, hntl, hno, hnol⟩ := hwf2
  have hw0 : wOf S nc nt no 0 = nI nc := hnc
  have hw1 : wOf S nc nt no 1 = nI nt := hnt
  have hw2 : wOf S nc nt no 2 = nI no := hno
  refine gq_aload_n hX dX5_isFree_0 rfl rfl rfl ?_
  refine gq_iconst (v := nI 0) hX dX5_isFree_1 rfl (by decide) ?_
  refine gq_putf hX dX5_isFree_2 rfl fX5_42 rfl rfl rfl (mqR0 hb) (Nat.le_of_ble_eq_true rfl) (hb.2 0 (by decide)) (mqW0_0 hb) ?_
  refine gq_aload_n hX dX5_isFree_5 rfl rfl rfl ?_
  refine gq_iload_n hX dX5_isFree_6 rfl rfl rfl ?_
  refine gq_callVe hX dX5_isFree_7 rfl vX5_117 (mt_isTail hb hwf _) rfl (mqR0 hb) rfl rfl (Nat.le_of_ble_eq_true rfl) ⟨(Nat.le_of_ble_eq_true rfl), (Nat.le_of_ble_eq_true rfl)⟩ (Nat.zero_add _) (Nat.zero_add _) ?_
  refine gq_if_neT (tgt := 27) hX dX5_isFree_10 rfl (by rw [hasI_yes hj (by omega)]; decide) ?_
  refine gq_aload_n hX dX5_isFree_27 rfl rfl rfl ?_
  refine gq_iload_n hX dX5_isFree_28 rfl rfl rfl ?_
  refine gq_iconst (v := nI 1) hX dX5_isFree_29 rfl (by decide) ?_
  refine gq_callVe hX dX5_isFree_30 rfl vX5_68 (mt_tail hb (c := j) (x := 1) (by omega) (by decide)) rfl (mqR0 hb) rfl rfl (Nat.le_of_ble_eq_true rfl) ⟨(Nat.le_of_ble_eq_true rfl), (Nat.le_of_ble_eq_true rfl)⟩ (Nat.zero_add _) (Nat.zero_add _) ?_
  rw [wT1 hntl hj]
  refine gq_if_ne (tgt := 40) hX dX5_isFree_33 rfl rfl (fun c9 => ?_) (fun c9 => ?_)
  · refine gq_iconst (v := nI 0) hX dX5_isFree_40 rfl (by decide) ?_
    exact gq_zret hX hQ dX5_isFree_41 rfl rfl ⟨by rw [if_neg (fun e => c9 (add1_0.mpr e))], rfl⟩
  · refine gq_iconst (v := nI 1) hX dX5_isFree_36 rfl (by decide) ?_
    refine gq_goto (tgt := 41) hX dX5_isFree_37 rfl ?_
    exact gq_zret hX hQ dX5_isFree_41 rfl rfl ⟨by rw [if_pos (add1_0.mp c9)], rfl⟩

set_option maxRecDepth 100000 in
set_option maxHeartbeats 4000000 in
theorem mr_renterOf_bad {E : Ev} {b : Nat → Nat} {T : St} {M : Hp} (hb : Lay E 9 b) {S : St} {nc nt no : Nat} (hwf : Wf S nc nt no) (c : Int32) (hF : hasI nt c = 0) : Ct E mX5_renterOf [.ref (b 0), .int c] (MdW E b T (wOf S nc nt no) M) (eqR (some (.int (nI 0))) (MdW E b (setS T 0 (nI 1)) (wOf S nc nt no) M)) 0 0 := by
  refine Ct.of gmX5_renterOf (ls := [.ref (b 0), .int c]) rfl rfl (Nat.le_of_ble_eq_true rfl) ?_
  intro X hX Q hQ
  have hwf2 := hwf
  obtain ⟨hnc, hncl, hnt, hntl, hno, hnol⟩ := hwf2
  have hw0 : wOf S nc nt no 0 = nI nc := hnc
  have hw1 : wOf S nc nt no 1 = nI nt := hnt
  have hw2 : wOf S nc nt no 2 = nI no := hno
  refine gq_aload_n hX dX5_renterOf_0 rfl rfl rfl ?_
  refine gq_iconst (v := nI 0) hX dX5_renterOf_1 rfl (by decide) ?_
  refine gq_putf hX dX5_renterOf_2 rfl fX5_42 rfl rfl rfl (mqR0 hb) (Nat.le_of_ble_eq_true rfl) (hb.2 0 (by decide)) (mqW0_0 hb) ?_
  refine gq_aload_n hX dX5_renterOf_5 rfl rfl rfl ?_
  refine gq_iload_n hX dX5_renterOf_6 rfl rfl rfl ?_
  refine gq_callVe hX dX5_renterOf_7 rfl vX5_117 (mt_isTail hb hwf _) rfl (mqR0 hb) rfl rfl (Nat.le_of_ble_eq_true rfl) ⟨(Nat.le_of_ble_eq_true rfl), (Nat.le_of_ble_eq_true rfl)⟩ (Nat.zero_add _) (Nat.zero_add _) ?_
  refine gq_if_neF (tgt := 19) hX dX5_renterOf_10 rfl rfl hF ?_
  refine gq_aload_n hX dX5_renterOf_13 rfl rfl rfl ?_
  refine gq_iconst (v := nI 1) hX dX5_renterOf_14 rfl (by decide) ?_
  refine gq_callVe hX dX5_renterOf_15 rfl vX5_79 (mt_fails hb _) rfl (mqR0 hb) rfl rfl (Nat.le_of_ble_eq_true rfl) ⟨(Nat.le_of_ble_eq_true rfl), (Nat.le_of_ble_eq_true rfl)⟩ (Nat.zero_add _) (Nat.zero_add _) ?_
  exact gq_iret hX hQ dX5_renterOf_18 rfl ⟨rfl, by rw [setS_2]⟩

set_option maxRecDepth 100000 in
set_option maxHeartbeats 4000000 in
theorem mr_renterOf_free {E : Ev} {b : Nat → Nat} {T : St} {M : Hp} (hb : Lay E 9 b) {S : St} {nc nt no : Nat} (hwf : Wf S nc nt no) {j : Nat} (hj : j < nt) (h5 : S.2 5 j = -1) : Ct E mX5_renterOf [.ref (b 0), .int (nI j)] (MdW E b T (wOf S nc nt no) M) (eqR (some (.int (nI 0))) (MdW E b (setS T 0 (nI 2)) (wOf S nc nt no) M)) 0 0 := by
  refine Ct.of gmX5_renterOf (ls := [.ref (b 0), .int (nI j)]) rfl rfl (Nat.le_of_ble_eq_true rfl) ?_
  intro X hX Q hQ
  have hwf2 := hwf
  obtain ⟨hnc, hncl, hnt, hntl, hno, hnol⟩ := hwf2
  have hw0 : wOf S nc nt no 0 = nI nc := hnc
  have hw1 : wOf S nc nt no 1 = nI nt := hnt
  have hw2 : wOf S nc nt no 2 = nI no := hno
  refine gq_aload_n hX dX5_renterOf_0 rfl rfl rfl ?_
  refine gq_iconst (v := nI 0) hX dX5_renterOf_1 rfl (by decide) ?_
  refine gq_putf hX dX5_renterOf_2 rfl fX5_42 rfl rfl rfl (mqR0 hb) (Nat.le_of_ble_eq_true rfl) (hb.2 0 (by decide)) (mqW0_0 hb) ?_
  refine gq_aload_n hX dX5_renterOf_5 rfl rfl rfl ?_
  refine gq_iload_n hX dX5_renterOf_6 rfl rfl rfl ?_
  refine gq_callVe hX dX5_renterOf_7 rfl vX5_117 (mt_isTail hb hwf _) rfl (mqR0 hb) rfl rfl (Nat.le_of_ble_eq_true rfl) ⟨(Nat.le_of_ble_eq_true rfl), (Nat.le_of_ble_eq_true rfl)⟩ (Nat.zero_add _) (Nat.zero_add _) ?_
  refine gq_if_neT (tgt := 19) hX dX5_renterOf_10 rfl (by rw [hasI_yes hj (by omega)]; decide) ?_
  refine gq_aload_n hX dX5_renterOf_19 rfl rfl rfl ?_
  refine gq_iload_n hX dX5_renterOf_20 rfl rfl rfl ?_
  refine gq_iconst (v := nI 1) hX dX5_renterOf_21 rfl (by decide) ?_
  refine gq_callVe hX dX5_renterOf_22 rfl vX5_68 (mt_tail hb (c := j) (x := 1) (by omega) (by decide)) rfl (mqR0 hb) rfl rfl (Nat.le_of_ble_eq_true rfl) ⟨(Nat.le_of_ble_eq_true rfl), (Nat.le_of_ble_eq_true rfl)⟩ (Nat.zero_add _) (Nat.zero_add _) ?_
  rw [wT1 hntl hj]
  refine gq_if_neF (tgt := 36) hX dX5_renterOf_25 rfl rfl (add1_0.mpr h5) ?_
  refine gq_aload_n hX dX5_renterOf_28 rfl rfl rfl ?_
  refine gq_iconst (v := nI 2) hX dX5_renterOf_29 rfl (by decide) ?_
  refine gq_callVe hX dX5_renterOf_30 rfl vX5_79 (mt_fails hb _) rfl (mqR0 hb) rfl rfl (Nat.le_of_ble_eq_true rfl) ⟨(Nat.le_of_ble_eq_true rfl), (Nat.le_of_ble_eq_true rfl)⟩ (Nat.zero_add _) (Nat.zero_add _) ?_
  refine gq_goto (tgt := 44) hX dX5_renterOf_33 rfl ?_
  exact gq_iret hX hQ dX5_renterOf_44 rfl ⟨rfl, by rw [setS_2]⟩

set_option maxRecDepth 100000 in
set_option maxHeartbeats 4000000 in
theorem mr_renterOf_ok {E : Ev} {b : Nat → Nat} {T : St} {M : Hp} (hb : Lay E 9 b) {S : St} {nc nt no : Nat} (hwf : Wf S nc nt no) {j : Nat} (hj : j < nt) (h5 : ¬ S.2 5 j = -1) : Ct E mX5_renterOf [.ref (b 0), .int (nI j)] (MdW E b T (wOf S nc nt no) M) (eqR (some (.int (S.2 5 j))) (MdW E b (setS T 0 (nI 0)) (wOf S nc nt no) M)) 0 0 := by
  refine Ct.of gmX5_renterOf (ls := [.ref (b 0), .int (nI j)]) rfl rfl (Nat.le_of_ble_eq_true rfl) ?_
  intro X hX Q hQ
  have hwf2 := hwf
  obtain ⟨hnc, hncl, hnt, hntl, hno, hnol⟩ := hwf2
  have hw0 : wOf S nc nt no 0 = nI nc := hnc
  have hw1 : wOf S nc nt no 1 = nI nt := hnt
  have hw2 : wOf S nc nt no 2 = nI no := hno
  refine gq_aload_n hX dX5_renterOf_0 rfl rfl rfl ?_
  refine gq_iconst (v := nI 0) hX dX5_renterOf_1 rfl (by decide) ?_
  refine gq_putf hX dX5_renterOf_2 rfl fX5_42 rfl rfl rfl (mqR0 hb) (Nat.le_of_ble_eq_true rfl) (hb.2 0 (by decide)) (mqW0_0 hb) ?_
  refine gq_aload_n hX dX5_renterOf_5 rfl rfl rfl ?_
  refine gq_iload_n hX dX5_renterOf_6 rfl rfl rfl ?_
  refine gq_callVe hX dX5_renterOf_7 rfl vX5_117 (mt_isTail hb hwf _) rfl (mqR0 hb) rfl rfl (Nat.le_of_ble_eq_true rfl) ⟨(Nat.le_of_ble_eq_true rfl), (Nat.le_of_ble_eq_true rfl)⟩ (Nat.zero_add _) (Nat.zero_add _) ?_
  refine gq_if_neT (tgt := 19) hX dX5_renterOf_10 rfl (by rw [hasI_yes hj (by omega)]; decide) ?_
  refine gq_aload_n hX dX5_renterOf_19 rfl rfl rfl ?_
  refine gq_iload_n hX dX5_renterOf_20 rfl rfl rfl ?_
  refine gq_iconst (v := nI 1) hX dX5_renterOf_21 rfl (by decide) ?_
  refine gq_callVe hX dX5_renterOf_22 rfl vX5_68 (mt_tail hb (c := j) (x := 1) (by omega) (by decide)) rfl (mqR0 hb) rfl rfl (Nat.le_of_ble_eq_true rfl) ⟨(Nat.le_of_ble_eq_true rfl), (Nat.le_of_ble_eq_true rfl)⟩ (Nat.zero_add _) (Nat.zero_add _) ?_
  rw [wT1 hntl hj]
  refine gq_if_neT (tgt := 36) hX dX5_renterOf_25 rfl (fun e => h5 (add1_0.mp e)) ?_
  refine gq_aload_n hX dX5_renterOf_36 rfl rfl rfl ?_
  refine gq_iload_n hX dX5_renterOf_37 rfl rfl rfl ?_
  refine gq_iconst (v := nI 1) hX dX5_renterOf_38 rfl (by decide) ?_
  refine gq_callVe hX dX5_renterOf_39 rfl vX5_68 (mt_tail hb (c := j) (x := 1) (by omega) (by decide)) rfl (mqR0 hb) rfl rfl (Nat.le_of_ble_eq_true rfl) ⟨(Nat.le_of_ble_eq_true rfl), (Nat.le_of_ble_eq_true rfl)⟩ (Nat.zero_add _) (Nat.zero_add _) ?_
  rw [wT1 hntl hj]
  refine gq_iconst (v := nI 1) hX dX5_renterOf_42 rfl (by decide) ?_
  refine gq_isub hX dX5_renterOf_43 rfl ?_
  exact gq_iret hX hQ dX5_renterOf_44 rfl ⟨by rw [Int32.add_sub_cancel], rfl⟩

theorem shO_lt {S : St} : ∀ {n k : Nat}, shO S n = some k → k < n := by
  intro n
  induction n with
  | zero =>
    intro k h
    cases h
  | succ j ih =>
    intro t h
    have h2 : (if S.2 5 j = -1 then (match shO S j with
      | none => some j
      | some t => if S.2 4 t ≤ S.2 4 j then some t else some j) else shO S j) = some t := h
    cases ho : shO S j with
    | none =>
      rw [ho] at h2
      split at h2
      · cases h2
        omega
      · cases h2
    | some u =>
      have hu := ih ho
      rw [ho] at h2
      dsimp only at h2
      split at h2
      · split at h2
        · cases h2
          omega
        · cases h2
          omega
      · cases h2
        omega
theorem shO_none {S : St} {j : Nat} (h : S.2 5 j = -1) (ho : shO S j = none) : shO S (j + 1) = some j := by
  show (if S.2 5 j = -1 then (match shO S j with
    | none => some j
    | some t => if S.2 4 t ≤ S.2 4 j then some t else some j) else shO S j) = some j
  rw [if_pos h, ho]
theorem shO_some {S : St} {j k : Nat} (h : S.2 5 j = -1) (ho : shO S j = some k) : shO S (j + 1) = if S.2 4 k ≤ S.2 4 j then some k else some j := by
  show (if S.2 5 j = -1 then (match shO S j with
    | none => some j
    | some t => if S.2 4 t ≤ S.2 4 j then some t else some j) else shO S j) = _
  rw [if_pos h, ho]
def shoV (o : Option Nat) : Int32 := match o with
  | some k => nI k
  | none => nI 0
def shoT (o : Option Nat) : Int32 := match o with
  | some _ => nI 0
  | none => nI 1

set_option maxRecDepth 100000 in
set_option maxHeartbeats 4000000 in
theorem mr_shortest {E : Ev} {b : Nat → Nat} {T : St} {M : Hp} (hb : Lay E 9 b) {S : St} {nc nt no : Nat} (hwf : Wf S nc nt no) : Ct E mX5_shortestFreeTail [.ref (b 0)] (MdW E b T (wOf S nc nt no) M) (eqR (some (.int (shoV (shO S nt)))) (MdW E b (setS T 0 (shoT (shO S nt))) (wOf S nc nt no) M)) 0 0 := by
  refine Ct.of gmX5_shortestFreeTail (ls := [.ref (b 0), hole, hole]) rfl rfl (Nat.le_of_ble_eq_true rfl) ?_
  intro X hX Q hQ
  have hwf2 := hwf
  obtain ⟨hnc, hncl, hnt, hntl, hno, hnol⟩ := hwf2
  have hw0 : wOf S nc nt no 0 = nI nc := hnc
  have hw1 : wOf S nc nt no 1 = nI nt := hnt
  have hw2 : wOf S nc nt no 2 = nI no := hno
  refine gq_aload_n hX dX5_shortestFreeTail_0 rfl rfl rfl ?_
  refine gq_iconst (v := nI 0) hX dX5_shortestFreeTail_1 rfl (by decide) ?_
  refine gq_putf hX dX5_shortestFreeTail_2 rfl fX5_42 rfl rfl rfl (mqR0 hb) (Nat.le_of_ble_eq_true rfl) (hb.2 0 (by decide)) (mqW0_0 hb) ?_
  refine gq_iconst (v := -1) hX dX5_shortestFreeTail_5 rfl (by decide) ?_
  refine gq_istore_n hX dX5_shortestFreeTail_6 rfl rfl (Nat.le_of_ble_eq_true rfl) rfl ?_
  refine gq_iconst (v := nI 0) hX dX5_shortestFreeTail_7 rfl (by decide) ?_
  refine gq_istore_n hX dX5_shortestFreeTail_8 rfl rfl (Nat.le_of_ble_eq_true rfl) rfl ?_
  skip
  have loop : ∀ n j : Nat, j + n = nt → Gq E X mX5_shortestFreeTail Q 9 [.ref (b 0), .int (slO (shO S j)), .int (nI j)] [] (MdW E b (setS T 0 (nI 0)) (wOf S nc nt no) M) 0 0 := by
    intro n
    induction n with
    | zero =>
      intro j hj
      refine gq_iload_n hX dX5_shortestFreeTail_9 rfl rfl rfl ?_
      refine gq_aload_n hX dX5_shortestFreeTail_10 rfl rfl rfl ?_
      refine gq_getf hX dX5_shortestFreeTail_11 rfl fX5_7 (mqR0 hb) rfl ?_
      refine gq_iconst (v := nI 1) hX dX5_shortestFreeTail_14 rfl (by decide) ?_
      refine gq_ialdN hX dX5_shortestFreeTail_15 rfl (mqR1 hb) rfl (by omega) (Nat.le_of_ble_eq_true rfl) ?_
      refine gq_icmp_geT (tgt := 55) hX dX5_shortestFreeTail_16 rfl (cT hw1 (by omega) (by omega)) ?_
      have ej : nt = j := by omega
      subst ej
      refine gq_iload_n hX dX5_shortestFreeTail_55 rfl rfl rfl ?_
      rcases hs : shO S nt with _ | k
      · refine gq_if_geF (tgt := 67) hX dX5_shortestFreeTail_56 rfl rfl (by decide) ?_
        refine gq_aload_n hX dX5_shortestFreeTail_59 rfl rfl rfl ?_
        refine gq_iconst (v := nI 1) hX dX5_shortestFreeTail_60 rfl (by decide) ?_
        refine gq_callVe hX dX5_shortestFreeTail_61 rfl vX5_79 (mt_fails hb _) rfl (mqR0 hb) rfl rfl (Nat.le_of_ble_eq_true rfl) ⟨(Nat.le_of_ble_eq_true rfl), (Nat.le_of_ble_eq_true rfl)⟩ (Nat.zero_add _) (Nat.zero_add _) ?_
        refine gq_goto (tgt := 68) hX dX5_shortestFreeTail_64 rfl ?_
        exact gq_iret hX hQ dX5_shortestFreeTail_68 rfl ⟨by rw [hs]; rfl, by rw [hs, setS_2]; rfl⟩
      · have hkj := shO_lt hs
        refine gq_if_geT (tgt := 67) hX dX5_shortestFreeTail_56 rfl (nI_pos' (by omega)) ?_
        refine gq_iload_n hX dX5_shortestFreeTail_67 rfl rfl rfl ?_
        exact gq_iret hX hQ dX5_shortestFreeTail_68 rfl ⟨by rw [hs]; rfl, by rw [hs]; rfl⟩
    | succ n ih =>
      intro j hj
      refine gq_iload_n hX dX5_shortestFreeTail_9 rfl rfl rfl ?_
      refine gq_aload_n hX dX5_shortestFreeTail_10 rfl rfl rfl ?_
      refine gq_getf hX dX5_shortestFreeTail_11 rfl fX5_7 (mqR0 hb) rfl ?_
      refine gq_iconst (v := nI 1) hX dX5_shortestFreeTail_14 rfl (by decide) ?_
      refine gq_ialdN hX dX5_shortestFreeTail_15 rfl (mqR1 hb) rfl (by omega) (Nat.le_of_ble_eq_true rfl) ?_
      refine gq_icmp_geF (tgt := 55) hX dX5_shortestFreeTail_16 rfl rfl (cF hw1 (by omega) (by omega)) ?_
      refine gq_aload_n hX dX5_shortestFreeTail_19 rfl rfl rfl ?_
      refine gq_iload_n hX dX5_shortestFreeTail_20 rfl rfl rfl ?_
      refine gq_iconst (v := nI 1) hX dX5_shortestFreeTail_21 rfl (by decide) ?_
      refine gq_callVe hX dX5_shortestFreeTail_22 rfl vX5_68 (mt_tail hb (c := j) (x := 1) (by omega) (by decide)) rfl (mqR0 hb) rfl rfl (Nat.le_of_ble_eq_true rfl) ⟨(Nat.le_of_ble_eq_true rfl), (Nat.le_of_ble_eq_true rfl)⟩ (Nat.zero_add _) (Nat.zero_add _) ?_
      rw [wT1 hntl (by omega)]
      refine gq_if_ne (tgt := 49) hX dX5_shortestFreeTail_25 rfl rfl (fun c9 => ?_) (fun c9 => ?_)
      · refine gq_iinc hX dX5_shortestFreeTail_49 rfl rfl (inc1 _) (Nat.le_of_ble_eq_true rfl) rfl ?_
        refine gq_goto (tgt := 9) hX dX5_shortestFreeTail_52 rfl ?_
        have h9 : shO S (j + 1) = shO S j := if_neg (fun e => c9 (add1_0.mpr e))
        exact gq_ls (by rw [h9]; rfl) rfl rfl (ih (j + 1) (by omega))
      · have c9p : S.2 5 j = -1 := add1_0.mp c9
        rcases hs : shO S j with _ | k
        · refine gq_iload_n hX dX5_shortestFreeTail_28 rfl rfl rfl ?_
          refine gq_if_ltT (tgt := 47) hX dX5_shortestFreeTail_29 rfl (by decide) ?_
          refine gq_iload_n hX dX5_shortestFreeTail_47 rfl rfl rfl ?_
          refine gq_istore_n hX dX5_shortestFreeTail_48 rfl rfl (Nat.le_of_ble_eq_true rfl) rfl ?_
          refine gq_iinc hX dX5_shortestFreeTail_49 rfl rfl (inc1 _) (Nat.le_of_ble_eq_true rfl) rfl ?_
          refine gq_goto (tgt := 9) hX dX5_shortestFreeTail_52 rfl ?_
          have h9 : shO S (j + 1) = some j := shO_none c9p hs
          exact gq_ls (by rw [h9]; rfl) rfl rfl (ih (j + 1) (by omega))
        · have hkj := shO_lt hs
          have hk0 : ¬ nI k < 0 := nI_pos (by omega)
          refine gq_iload_n hX dX5_shortestFreeTail_28 rfl rfl rfl ?_
          refine gq_if_ltF (tgt := 47) hX dX5_shortestFreeTail_29 rfl rfl hk0 ?_
          refine gq_aload_n hX dX5_shortestFreeTail_32 rfl rfl rfl ?_
          refine gq_iload_n hX dX5_shortestFreeTail_33 rfl rfl rfl ?_
          refine gq_iconst (v := nI 0) hX dX5_shortestFreeTail_34 rfl (by decide) ?_
          refine gq_callVe hX dX5_shortestFreeTail_35 rfl vX5_68 (mt_tail hb (c := j) (x := 0) (by omega) (by decide)) rfl (mqR0 hb) rfl rfl (Nat.le_of_ble_eq_true rfl) ⟨(Nat.le_of_ble_eq_true rfl), (Nat.le_of_ble_eq_true rfl)⟩ (Nat.zero_add _) (Nat.zero_add _) ?_
          rw [wT0 hntl (by omega)]
          refine gq_aload_n hX dX5_shortestFreeTail_38 rfl rfl rfl ?_
          refine gq_iload_n hX dX5_shortestFreeTail_39 rfl rfl rfl ?_
          refine gq_iconst (v := nI 0) hX dX5_shortestFreeTail_40 rfl (by decide) ?_
          refine gq_callVe hX dX5_shortestFreeTail_41 rfl vX5_68 (mt_tail hb (c := k) (x := 0) (by omega) (by decide)) rfl (mqR0 hb) rfl rfl (Nat.le_of_ble_eq_true rfl) ⟨(Nat.le_of_ble_eq_true rfl), (Nat.le_of_ble_eq_true rfl)⟩ (Nat.zero_add _) (Nat.zero_add _) ?_
          rw [wT0 hntl (by omega)]
          refine gq_icmp_ge (tgt := 49) hX dX5_shortestFreeTail_44 rfl rfl (fun c44 => ?_) (fun c44 => ?_)
          · refine gq_iinc hX dX5_shortestFreeTail_49 rfl rfl (inc1 _) (Nat.le_of_ble_eq_true rfl) rfl ?_
            refine gq_goto (tgt := 9) hX dX5_shortestFreeTail_52 rfl ?_
            have h9 : shO S (j + 1) = some k := (shO_some c9p hs).trans (if_pos (c44))
            exact gq_ls (by rw [h9]; rfl) rfl rfl (ih (j + 1) (by omega))
          · refine gq_iload_n hX dX5_shortestFreeTail_47 rfl rfl rfl ?_
            refine gq_istore_n hX dX5_shortestFreeTail_48 rfl rfl (Nat.le_of_ble_eq_true rfl) rfl ?_
            refine gq_iinc hX dX5_shortestFreeTail_49 rfl rfl (inc1 _) (Nat.le_of_ble_eq_true rfl) rfl ?_
            refine gq_goto (tgt := 9) hX dX5_shortestFreeTail_52 rfl ?_
            have h9 : shO S (j + 1) = some j := (shO_some c9p hs).trans (if_neg (c44))
            exact gq_ls (by rw [h9]; rfl) rfl rfl (ih (j + 1) (by omega))
  exact loop nt 0 (by omega)

set_option maxRecDepth 100000 in
set_option maxHeartbeats 4000000 in
theorem mr_motionAt_bad {E : Ev} {b : Nat → Nat} {T : St} {M : Hp} (hb : Lay E 9 b) {S : St} {nc nt no : Nat} (hwf : Wf S nc nt no) (c : Int32) (hF : hasI no c = 0) : Ct E mX5_motionAt [.ref (b 0), .int c] (MdW E b T (wOf S nc nt no) M) (eqR (some (.int (nI 0))) (MdW E b (setS T 0 (nI 1)) (wOf S nc nt no) M)) 0 0 := by
  refine Ct.of gmX5_motionAt (ls := [.ref (b 0), .int c]) rfl rfl (Nat.le_of_ble_eq_true rfl) ?_
  intro X hX Q hQ
  have hwf2 := hwf
  obtain ⟨hnc, hncl, hnt, hntl, hno, hnol⟩ := hwf2
  have hw0 : wOf S nc nt no 0 = nI nc := hnc
  have hw1 : wOf S nc nt no 1 = nI nt := hnt
  have hw2 : wOf S nc nt no 2 = nI no := hno
  refine gq_aload_n hX dX5_motionAt_0 rfl rfl rfl ?_
  refine gq_iconst (v := nI 0) hX dX5_motionAt_1 rfl (by decide) ?_
  refine gq_putf hX dX5_motionAt_2 rfl fX5_42 rfl rfl rfl (mqR0 hb) (Nat.le_of_ble_eq_true rfl) (hb.2 0 (by decide)) (mqW0_0 hb) ?_
  refine gq_iload_n hX dX5_motionAt_5 rfl rfl rfl ?_
  refine gq_iconst (v := nI 0) hX dX5_motionAt_6 rfl (by decide) ?_
  refine gq_aload_n hX dX5_motionAt_7 rfl rfl rfl ?_
  refine gq_getf hX dX5_motionAt_8 rfl fX5_7 (mqR0 hb) rfl ?_
  refine gq_iconst (v := nI 2) hX dX5_motionAt_11 rfl (by decide) ?_
  refine gq_ialdN hX dX5_motionAt_12 rfl (mqR1 hb) rfl (by omega) (Nat.le_of_ble_eq_true rfl) ?_
  rw [hw2]
  refine gq_iconst (v := nI 1) hX dX5_motionAt_13 rfl (by decide) ?_
  refine gq_isub hX dX5_motionAt_14 rfl ?_
  refine gq_callSe hX dX5_motionAt_15 rfl vX5_57 (mt_btw _ _ _) rfl rfl (Nat.le_of_ble_eq_true rfl) ⟨(Nat.le_of_ble_eq_true rfl), (Nat.le_of_ble_eq_true rfl)⟩ (Nat.zero_add _) (Nat.zero_add _) ?_
  refine gq_if_eqT (tgt := 30) hX dX5_motionAt_18 rfl (by rw [btw_has (by omega)]; exact hF) ?_
  refine gq_aload_n hX dX5_motionAt_30 rfl rfl rfl ?_
  refine gq_iconst (v := nI 1) hX dX5_motionAt_31 rfl (by decide) ?_
  refine gq_callVe hX dX5_motionAt_32 rfl vX5_79 (mt_fails hb _) rfl (mqR0 hb) rfl rfl (Nat.le_of_ble_eq_true rfl) ⟨(Nat.le_of_ble_eq_true rfl), (Nat.le_of_ble_eq_true rfl)⟩ (Nat.zero_add _) (Nat.zero_add _) ?_
  exact gq_iret hX hQ dX5_motionAt_35 rfl ⟨rfl, by rw [setS_2]⟩

set_option maxRecDepth 100000 in
set_option maxHeartbeats 4000000 in
theorem mr_motionAt_ok {E : Ev} {b : Nat → Nat} {T : St} {M : Hp} (hb : Lay E 9 b) {S : St} {nc nt no : Nat} (hwf : Wf S nc nt no) {j : Nat} (hj : j < no) : Ct E mX5_motionAt [.ref (b 0), .int (nI j)] (MdW E b T (wOf S nc nt no) M) (eqR (some (.int (S.2 7 j))) (MdW E b (setS T 0 (nI 0)) (wOf S nc nt no) M)) 0 0 := by
  refine Ct.of gmX5_motionAt (ls := [.ref (b 0), .int (nI j)]) rfl rfl (Nat.le_of_ble_eq_true rfl) ?_
  intro X hX Q hQ
  have hwf2 := hwf
  obtain ⟨hnc, hncl, hnt, hntl, hno, hnol⟩ := hwf2
  have hw0 : wOf S nc nt no 0 = nI nc := hnc
  have hw1 : wOf S nc nt no 1 = nI nt := hnt
  have hw2 : wOf S nc nt no 2 = nI no := hno
  refine gq_aload_n hX dX5_motionAt_0 rfl rfl rfl ?_
  refine gq_iconst (v := nI 0) hX dX5_motionAt_1 rfl (by decide) ?_
  refine gq_putf hX dX5_motionAt_2 rfl fX5_42 rfl rfl rfl (mqR0 hb) (Nat.le_of_ble_eq_true rfl) (hb.2 0 (by decide)) (mqW0_0 hb) ?_
  refine gq_iload_n hX dX5_motionAt_5 rfl rfl rfl ?_
  refine gq_iconst (v := nI 0) hX dX5_motionAt_6 rfl (by decide) ?_
  refine gq_aload_n hX dX5_motionAt_7 rfl rfl rfl ?_
  refine gq_getf hX dX5_motionAt_8 rfl fX5_7 (mqR0 hb) rfl ?_
  refine gq_iconst (v := nI 2) hX dX5_motionAt_11 rfl (by decide) ?_
  refine gq_ialdN hX dX5_motionAt_12 rfl (mqR1 hb) rfl (by omega) (Nat.le_of_ble_eq_true rfl) ?_
  rw [hw2]
  refine gq_iconst (v := nI 1) hX dX5_motionAt_13 rfl (by decide) ?_
  refine gq_isub hX dX5_motionAt_14 rfl ?_
  refine gq_callSe hX dX5_motionAt_15 rfl vX5_57 (mt_btw _ _ _) rfl rfl (Nat.le_of_ble_eq_true rfl) ⟨(Nat.le_of_ble_eq_true rfl), (Nat.le_of_ble_eq_true rfl)⟩ (Nat.zero_add _) (Nat.zero_add _) ?_
  refine gq_if_eqF (tgt := 30) hX dX5_motionAt_18 rfl rfl (by rw [btw_has (by omega), hasI_yes hj (by omega)]; decide) ?_
  refine gq_aload_n hX dX5_motionAt_21 rfl rfl rfl ?_
  refine gq_iload_n hX dX5_motionAt_22 rfl rfl rfl ?_
  refine gq_iconst (v := nI 0) hX dX5_motionAt_23 rfl (by decide) ?_
  refine gq_callVe hX dX5_motionAt_24 rfl vX5_61 (mt_motion hb (c := j) (x := 0) (by omega) (by decide)) rfl (mqR0 hb) rfl rfl (Nat.le_of_ble_eq_true rfl) ⟨(Nat.le_of_ble_eq_true rfl), (Nat.le_of_ble_eq_true rfl)⟩ (Nat.zero_add _) (Nat.zero_add _) ?_
  rw [wM0 hnol hj]
  refine gq_goto (tgt := 35) hX dX5_motionAt_27 rfl ?_
  exact gq_iret hX hQ dX5_motionAt_35 rfl ⟨rfl, rfl⟩

set_option maxRecDepth 100000 in
set_option maxHeartbeats 4000000 in
theorem am_2_bad {E : Ev} {b : Nat → Nat} {T : St} {M : Hp} (hb : Lay E 9 b) {S : St} {nc nt no : Nat} (hwf : Wf S nc nt no) {id : Int32} (ho : slotO S no id = none) : Ct E mX5_asksMotion [.ref (b 0), .int id, .int (nI 2)] (MdW E b T (wOf S nc nt no) M) (eqR (some (.int (nI 0))) (MdW E b (setS T 0 (nI 1)) (wOf S nc nt no) M)) 0 0 := by
  refine Ct.of gmX5_asksMotion (ls := [.ref (b 0), .int id, .int (nI 2)]) rfl rfl (Nat.le_of_ble_eq_true rfl) ?_
  intro X hX Q hQ
  have hwf2 := hwf
  obtain ⟨hnc, hncl, hnt, hntl, hno, hnol⟩ := hwf2
  have hw0 : wOf S nc nt no 0 = nI nc := hnc
  have hw1 : wOf S nc nt no 1 = nI nt := hnt
  have hw2 : wOf S nc nt no 2 = nI no := hno
  have hct := mt_slotOf (M := M) (T := setS T 0 (nI 0)) hb hwf id
  rw [ho] at hct
  refine gq_aload_n hX dX5_asksMotion_0 rfl rfl rfl ?_
  refine gq_iconst (v := nI 0) hX dX5_asksMotion_1 rfl (by decide) ?_
  refine gq_putf hX dX5_asksMotion_2 rfl fX5_42 rfl rfl rfl (mqR0 hb) (Nat.le_of_ble_eq_true rfl) (hb.2 0 (by decide)) (mqW0_0 hb) ?_
  refine gq_aload_n hX dX5_asksMotion_5 rfl rfl rfl ?_
  refine gq_iload_n hX dX5_asksMotion_6 rfl rfl rfl ?_
  refine gq_callVe hX dX5_asksMotion_7 rfl vX5_133 (hct) rfl (mqR0 hb) rfl rfl (Nat.le_of_ble_eq_true rfl) ⟨(Nat.le_of_ble_eq_true rfl), (Nat.le_of_ble_eq_true rfl)⟩ (Nat.zero_add _) (Nat.zero_add _) ?_
  refine gq_if_geF (tgt := 21) hX dX5_asksMotion_10 rfl rfl (by decide) ?_
  refine gq_aload_n hX dX5_asksMotion_13 rfl rfl rfl ?_
  refine gq_iconst (v := nI 1) hX dX5_asksMotion_14 rfl (by decide) ?_
  refine gq_callVe hX dX5_asksMotion_15 rfl vX5_79 (mt_fails hb _) rfl (mqR0 hb) rfl rfl (Nat.le_of_ble_eq_true rfl) ⟨(Nat.le_of_ble_eq_true rfl), (Nat.le_of_ble_eq_true rfl)⟩ (Nat.zero_add _) (Nat.zero_add _) ?_
  refine gq_goto (tgt := 31) hX dX5_asksMotion_18 rfl ?_
  exact gq_iret hX hQ dX5_asksMotion_31 rfl ⟨rfl, by rw [setS_2]⟩

set_option maxRecDepth 100000 in
set_option maxHeartbeats 4000000 in
theorem am_2_ok {E : Ev} {b : Nat → Nat} {T : St} {M : Hp} (hb : Lay E 9 b) {S : St} {nc nt no : Nat} (hwf : Wf S nc nt no) {id : Int32} {k : Nat} (ho : slotO S no id = some k) : Ct E mX5_asksMotion [.ref (b 0), .int id, .int (nI 2)] (MdW E b T (wOf S nc nt no) M) (eqR (some (.int (S.2 9 k))) (MdW E b (setS T 0 (nI 0)) (wOf S nc nt no) M)) 0 0 := by
  refine Ct.of gmX5_asksMotion (ls := [.ref (b 0), .int id, .int (nI 2)]) rfl rfl (Nat.le_of_ble_eq_true rfl) ?_
  intro X hX Q hQ
  have hwf2 := hwf
  obtain ⟨hnc, hncl, hnt, hntl, hno, hnol⟩ := hwf2
  have hw0 : wOf S nc nt no 0 = nI nc := hnc
  have hw1 : wOf S nc nt no 1 = nI nt := hnt
  have hw2 : wOf S nc nt no 2 = nI no := hno
  have hct := mt_slotOf (M := M) (T := setS T 0 (nI 0)) hb hwf id
  rw [ho] at hct
  obtain ⟨hk, hid⟩ := slotO_lt ho
  have hk0 : 0 ≤ nI k := nI_pos' (by omega)
  refine gq_aload_n hX dX5_asksMotion_0 rfl rfl rfl ?_
  refine gq_iconst (v := nI 0) hX dX5_asksMotion_1 rfl (by decide) ?_
  refine gq_putf hX dX5_asksMotion_2 rfl fX5_42 rfl rfl rfl (mqR0 hb) (Nat.le_of_ble_eq_true rfl) (hb.2 0 (by decide)) (mqW0_0 hb) ?_
  refine gq_aload_n hX dX5_asksMotion_5 rfl rfl rfl ?_
  refine gq_iload_n hX dX5_asksMotion_6 rfl rfl rfl ?_
  refine gq_callVe hX dX5_asksMotion_7 rfl vX5_133 (hct) rfl (mqR0 hb) rfl rfl (Nat.le_of_ble_eq_true rfl) ⟨(Nat.le_of_ble_eq_true rfl), (Nat.le_of_ble_eq_true rfl)⟩ (Nat.zero_add _) (Nat.zero_add _) ?_
  refine gq_if_geT (tgt := 21) hX dX5_asksMotion_10 rfl hk0 ?_
  refine gq_aload_n hX dX5_asksMotion_21 rfl rfl rfl ?_
  refine gq_aload_n hX dX5_asksMotion_22 rfl rfl rfl ?_
  refine gq_iload_n hX dX5_asksMotion_23 rfl rfl rfl ?_
  refine gq_callVe hX dX5_asksMotion_24 rfl vX5_133 (hct) rfl (mqR0 hb) rfl rfl (Nat.le_of_ble_eq_true rfl) ⟨(Nat.le_of_ble_eq_true rfl), (Nat.le_of_ble_eq_true rfl)⟩ (Nat.zero_add _) (Nat.zero_add _) ?_
  refine gq_iload_n hX dX5_asksMotion_27 rfl rfl rfl ?_
  refine gq_callVe hX dX5_asksMotion_28 rfl vX5_61 (mt_motion hb (c := k) (x := 2) (by omega) (by decide)) rfl (mqR0 hb) rfl rfl (Nat.le_of_ble_eq_true rfl) ⟨(Nat.le_of_ble_eq_true rfl), (Nat.le_of_ble_eq_true rfl)⟩ (Nat.zero_add _) (Nat.zero_add _) ?_
  rw [wM2 hnol hk]
  exact gq_iret hX hQ dX5_asksMotion_31 rfl ⟨rfl, rfl⟩

set_option maxRecDepth 100000 in
set_option maxHeartbeats 4000000 in
theorem am_4_bad {E : Ev} {b : Nat → Nat} {T : St} {M : Hp} (hb : Lay E 9 b) {S : St} {nc nt no : Nat} (hwf : Wf S nc nt no) {id : Int32} (ho : slotO S no id = none) : Ct E mX5_asksMotion [.ref (b 0), .int id, .int (nI 4)] (MdW E b T (wOf S nc nt no) M) (eqR (some (.int (nI 0))) (MdW E b (setS T 0 (nI 1)) (wOf S nc nt no) M)) 0 0 := by
  refine Ct.of gmX5_asksMotion (ls := [.ref (b 0), .int id, .int (nI 4)]) rfl rfl (Nat.le_of_ble_eq_true rfl) ?_
  intro X hX Q hQ
  have hwf2 := hwf
  obtain ⟨hnc, hncl, hnt, hntl, hno, hnol⟩ := hwf2
  have hw0 : wOf S nc nt no 0 = nI nc := hnc
  have hw1 : wOf S nc nt no 1 = nI nt := hnt
  have hw2 : wOf S nc nt no 2 = nI no := hno
  have hct := mt_slotOf (M := M) (T := setS T 0 (nI 0)) hb hwf id
  rw [ho] at hct
  refine gq_aload_n hX dX5_asksMotion_0 rfl rfl rfl ?_
  refine gq_iconst (v := nI 0) hX dX5_asksMotion_1 rfl (by decide) ?_
  refine gq_putf hX dX5_asksMotion_2 rfl fX5_42 rfl rfl rfl (mqR0 hb) (Nat.le_of_ble_eq_true rfl) (hb.2 0 (by decide)) (mqW0_0 hb) ?_
  refine gq_aload_n hX dX5_asksMotion_5 rfl rfl rfl ?_
  refine gq_iload_n hX dX5_asksMotion_6 rfl rfl rfl ?_
  refine gq_callVe hX dX5_asksMotion_7 rfl vX5_133 (hct) rfl (mqR0 hb) rfl rfl (Nat.le_of_ble_eq_true rfl) ⟨(Nat.le_of_ble_eq_true rfl), (Nat.le_of_ble_eq_true rfl)⟩ (Nat.zero_add _) (Nat.zero_add _) ?_
  refine gq_if_geF (tgt := 21) hX dX5_asksMotion_10 rfl rfl (by decide) ?_
  refine gq_aload_n hX dX5_asksMotion_13 rfl rfl rfl ?_
  refine gq_iconst (v := nI 1) hX dX5_asksMotion_14 rfl (by decide) ?_
  refine gq_callVe hX dX5_asksMotion_15 rfl vX5_79 (mt_fails hb _) rfl (mqR0 hb) rfl rfl (Nat.le_of_ble_eq_true rfl) ⟨(Nat.le_of_ble_eq_true rfl), (Nat.le_of_ble_eq_true rfl)⟩ (Nat.zero_add _) (Nat.zero_add _) ?_
  refine gq_goto (tgt := 31) hX dX5_asksMotion_18 rfl ?_
  exact gq_iret hX hQ dX5_asksMotion_31 rfl ⟨rfl, by rw [setS_2]⟩

set_option maxRecDepth 100000 in
set_option maxHeartbeats 4000000 in
theorem am_4_ok {E : Ev} {b : Nat → Nat} {T : St} {M : Hp} (hb : Lay E 9 b) {S : St} {nc nt no : Nat} (hwf : Wf S nc nt no) {id : Int32} {k : Nat} (ho : slotO S no id = some k) : Ct E mX5_asksMotion [.ref (b 0), .int id, .int (nI 4)] (MdW E b T (wOf S nc nt no) M) (eqR (some (.int (S.2 11 k + nI 1))) (MdW E b (setS T 0 (nI 0)) (wOf S nc nt no) M)) 0 0 := by
  refine Ct.of gmX5_asksMotion (ls := [.ref (b 0), .int id, .int (nI 4)]) rfl rfl (Nat.le_of_ble_eq_true rfl) ?_
  intro X hX Q hQ
  have hwf2 := hwf
  obtain ⟨hnc, hncl, hnt, hntl, hno, hnol⟩ := hwf2
  have hw0 : wOf S nc nt no 0 = nI nc := hnc
  have hw1 : wOf S nc nt no 1 = nI nt := hnt
  have hw2 : wOf S nc nt no 2 = nI no := hno
  have hct := mt_slotOf (M := M) (T := setS T 0 (nI 0)) hb hwf id
  rw [ho] at hct
  obtain ⟨hk, hid⟩ := slotO_lt ho
  have hk0 : 0 ≤ nI k := nI_pos' (by omega)
  refine gq_aload_n hX dX5_asksMotion_0 rfl rfl rfl ?_
  refine gq_iconst (v := nI 0) hX dX5_asksMotion_1 rfl (by decide) ?_
  refine gq_putf hX dX5_asksMotion_2 rfl fX5_42 rfl rfl rfl (mqR0 hb) (Nat.le_of_ble_eq_true rfl) (hb.2 0 (by decide)) (mqW0_0 hb) ?_
  refine gq_aload_n hX dX5_asksMotion_5 rfl rfl rfl ?_
  refine gq_iload_n hX dX5_asksMotion_6 rfl rfl rfl ?_
  refine gq_callVe hX dX5_asksMotion_7 rfl vX5_133 (hct) rfl (mqR0 hb) rfl rfl (Nat.le_of_ble_eq_true rfl) ⟨(Nat.le_of_ble_eq_true rfl), (Nat.le_of_ble_eq_true rfl)⟩ (Nat.zero_add _) (Nat.zero_add _) ?_
  refine gq_if_geT (tgt := 21) hX dX5_asksMotion_10 rfl hk0 ?_
  refine gq_aload_n hX dX5_asksMotion_21 rfl rfl rfl ?_
  refine gq_aload_n hX dX5_asksMotion_22 rfl rfl rfl ?_
  refine gq_iload_n hX dX5_asksMotion_23 rfl rfl rfl ?_
  refine gq_callVe hX dX5_asksMotion_24 rfl vX5_133 (hct) rfl (mqR0 hb) rfl rfl (Nat.le_of_ble_eq_true rfl) ⟨(Nat.le_of_ble_eq_true rfl), (Nat.le_of_ble_eq_true rfl)⟩ (Nat.zero_add _) (Nat.zero_add _) ?_
  refine gq_iload_n hX dX5_asksMotion_27 rfl rfl rfl ?_
  refine gq_callVe hX dX5_asksMotion_28 rfl vX5_61 (mt_motion hb (c := k) (x := 4) (by omega) (by decide)) rfl (mqR0 hb) rfl rfl (Nat.le_of_ble_eq_true rfl) ⟨(Nat.le_of_ble_eq_true rfl), (Nat.le_of_ble_eq_true rfl)⟩ (Nat.zero_add _) (Nat.zero_add _) ?_
  rw [wM4 hnol hk]
  exact gq_iret hX hQ dX5_asksMotion_31 rfl ⟨rfl, rfl⟩

set_option maxRecDepth 100000 in
set_option maxHeartbeats 4000000 in
theorem am_5_bad {E : Ev} {b : Nat → Nat} {T : St} {M : Hp} (hb : Lay E 9 b) {S : St} {nc nt no : Nat} (hwf : Wf S nc nt no) {id : Int32} (ho : slotO S no id = none) : Ct E mX5_asksMotion [.ref (b 0), .int id, .int (nI 5)] (MdW E b T (wOf S nc nt no) M) (eqR (some (.int (nI 0))) (MdW E b (setS T 0 (nI 1)) (wOf S nc nt no) M)) 0 0 := by
  refine Ct.of gmX5_asksMotion (ls := [.ref (b 0), .int id, .int (nI 5)]) rfl rfl (Nat.le_of_ble_eq_true rfl) ?_
  intro X hX Q hQ
  have hwf2 := hwf
  obtain ⟨hnc, hncl, hnt, hntl, hno, hnol⟩ := hwf2
  have hw0 : wOf S nc nt no 0 = nI nc := hnc
  have hw1 : wOf S nc nt no 1 = nI nt := hnt
  have hw2 : wOf S nc nt no 2 = nI no := hno
  have hct := mt_slotOf (M := M) (T := setS T 0 (nI 0)) hb hwf id
  rw [ho] at hct
  refine gq_aload_n hX dX5_asksMotion_0 rfl rfl rfl ?_
  refine gq_iconst (v := nI 0) hX dX5_asksMotion_1 rfl (by decide) ?_
  refine gq_putf hX dX5_asksMotion_2 rfl fX5_42 rfl rfl rfl (mqR0 hb) (Nat.le_of_ble_eq_true rfl) (hb.2 0 (by decide)) (mqW0_0 hb) ?_
  refine gq_aload_n hX dX5_asksMotion_5 rfl rfl rfl ?_
  refine gq_iload_n hX dX5_asksMotion_6 rfl rfl rfl ?_
  refine gq_callVe hX dX5_asksMotion_7 rfl vX5_133 (hct) rfl (mqR0 hb) rfl rfl (Nat.le_of_ble_eq_true rfl) ⟨(Nat.le_of_ble_eq_true rfl), (Nat.le_of_ble_eq_true rfl)⟩ (Nat.zero_add _) (Nat.zero_add _) ?_
  refine gq_if_geF (tgt := 21) hX dX5_asksMotion_10 rfl rfl (by decide) ?_
  refine gq_aload_n hX dX5_asksMotion_13 rfl rfl rfl ?_
  refine gq_iconst (v := nI 1) hX dX5_asksMotion_14 rfl (by decide) ?_
  refine gq_callVe hX dX5_asksMotion_15 rfl vX5_79 (mt_fails hb _) rfl (mqR0 hb) rfl rfl (Nat.le_of_ble_eq_true rfl) ⟨(Nat.le_of_ble_eq_true rfl), (Nat.le_of_ble_eq_true rfl)⟩ (Nat.zero_add _) (Nat.zero_add _) ?_
  refine gq_goto (tgt := 31) hX dX5_asksMotion_18 rfl ?_
  exact gq_iret hX hQ dX5_asksMotion_31 rfl ⟨rfl, by rw [setS_2]⟩

set_option maxRecDepth 100000 in
set_option maxHeartbeats 4000000 in
theorem am_5_ok {E : Ev} {b : Nat → Nat} {T : St} {M : Hp} (hb : Lay E 9 b) {S : St} {nc nt no : Nat} (hwf : Wf S nc nt no) {id : Int32} {k : Nat} (ho : slotO S no id = some k) : Ct E mX5_asksMotion [.ref (b 0), .int id, .int (nI 5)] (MdW E b T (wOf S nc nt no) M) (eqR (some (.int (S.2 12 k))) (MdW E b (setS T 0 (nI 0)) (wOf S nc nt no) M)) 0 0 := by
  refine Ct.of gmX5_asksMotion (ls := [.ref (b 0), .int id, .int (nI 5)]) rfl rfl (Nat.le_of_ble_eq_true rfl) ?_
  intro X hX Q hQ
  have hwf2 := hwf
  obtain ⟨hnc, hncl, hnt, hntl, hno, hnol⟩ := hwf2
  have hw0 : wOf S nc nt no 0 = nI nc := hnc
  have hw1 : wOf S nc nt no 1 = nI nt := hnt
  have hw2 : wOf S nc nt no 2 = nI no := hno
  have hct := mt_slotOf (M := M) (T := setS T 0 (nI 0)) hb hwf id
  rw [ho] at hct
  obtain ⟨hk, hid⟩ := slotO_lt ho
  have hk0 : 0 ≤ nI k := nI_pos' (by omega)
  refine gq_aload_n hX dX5_asksMotion_0 rfl rfl rfl ?_
  refine gq_iconst (v := nI 0) hX dX5_asksMotion_1 rfl (by decide) ?_
  refine gq_putf hX dX5_asksMotion_2 rfl fX5_42 rfl rfl rfl (mqR0 hb) (Nat.le_of_ble_eq_true rfl) (hb.2 0 (by decide)) (mqW0_0 hb) ?_
  refine gq_aload_n hX dX5_asksMotion_5 rfl rfl rfl ?_
  refine gq_iload_n hX dX5_asksMotion_6 rfl rfl rfl ?_
  refine gq_callVe hX dX5_asksMotion_7 rfl vX5_133 (hct) rfl (mqR0 hb) rfl rfl (Nat.le_of_ble_eq_true rfl) ⟨(Nat.le_of_ble_eq_true rfl), (Nat.le_of_ble_eq_true rfl)⟩ (Nat.zero_add _) (Nat.zero_add _) ?_
  refine gq_if_geT (tgt := 21) hX dX5_asksMotion_10 rfl hk0 ?_
  refine gq_aload_n hX dX5_asksMotion_21 rfl rfl rfl ?_
  refine gq_aload_n hX dX5_asksMotion_22 rfl rfl rfl ?_
  refine gq_iload_n hX dX5_asksMotion_23 rfl rfl rfl ?_
  refine gq_callVe hX dX5_asksMotion_24 rfl vX5_133 (hct) rfl (mqR0 hb) rfl rfl (Nat.le_of_ble_eq_true rfl) ⟨(Nat.le_of_ble_eq_true rfl), (Nat.le_of_ble_eq_true rfl)⟩ (Nat.zero_add _) (Nat.zero_add _) ?_
  refine gq_iload_n hX dX5_asksMotion_27 rfl rfl rfl ?_
  refine gq_callVe hX dX5_asksMotion_28 rfl vX5_61 (mt_motion hb (c := k) (x := 5) (by omega) (by decide)) rfl (mqR0 hb) rfl rfl (Nat.le_of_ble_eq_true rfl) ⟨(Nat.le_of_ble_eq_true rfl), (Nat.le_of_ble_eq_true rfl)⟩ (Nat.zero_add _) (Nat.zero_add _) ?_
  rw [wM5 hnol hk]
  exact gq_iret hX hQ dX5_asksMotion_31 rfl ⟨rfl, rfl⟩

set_option maxRecDepth 100000 in
set_option maxHeartbeats 4000000 in
theorem mr_moverOf_bad {E : Ev} {b : Nat → Nat} {T : St} {M : Hp} (hb : Lay E 9 b) {S : St} {nc nt no : Nat} (hwf : Wf S nc nt no) {id : Int32} (ho : slotO S no id = none) : Ct E mX5_moverOf [.ref (b 0), .int id] (MdW E b T (wOf S nc nt no) M) (eqR (some (.int (nI 0))) (MdW E b (setS T 0 (nI 1)) (wOf S nc nt no) M)) 0 0 := by
  refine Ct.of gmX5_moverOf (ls := [.ref (b 0), .int id]) rfl rfl (Nat.le_of_ble_eq_true rfl) ?_
  intro X hX Q hQ
  refine gq_aload_n hX dX5_moverOf_0 rfl rfl rfl ?_
  refine gq_iload_n hX dX5_moverOf_1 rfl rfl rfl ?_
  refine gq_iconst (v := nI 2) hX dX5_moverOf_2 rfl (by decide) ?_
  refine gq_callVe hX dX5_moverOf_3 rfl vX5_204 (am_2_bad hb hwf ho) rfl (mqR0 hb) rfl rfl (Nat.le_of_ble_eq_true rfl) ⟨(Nat.le_of_ble_eq_true rfl), (Nat.le_of_ble_eq_true rfl)⟩ (Nat.zero_add _) (Nat.zero_add _) ?_
  exact gq_iret hX hQ dX5_moverOf_6 rfl ⟨rfl, rfl⟩

set_option maxRecDepth 100000 in
set_option maxHeartbeats 4000000 in
theorem mr_moverOf_ok {E : Ev} {b : Nat → Nat} {T : St} {M : Hp} (hb : Lay E 9 b) {S : St} {nc nt no : Nat} (hwf : Wf S nc nt no) {id : Int32} {k : Nat} (ho : slotO S no id = some k) : Ct E mX5_moverOf [.ref (b 0), .int id] (MdW E b T (wOf S nc nt no) M) (eqR (some (.int (S.2 9 k))) (MdW E b (setS T 0 (nI 0)) (wOf S nc nt no) M)) 0 0 := by
  refine Ct.of gmX5_moverOf (ls := [.ref (b 0), .int id]) rfl rfl (Nat.le_of_ble_eq_true rfl) ?_
  intro X hX Q hQ
  refine gq_aload_n hX dX5_moverOf_0 rfl rfl rfl ?_
  refine gq_iload_n hX dX5_moverOf_1 rfl rfl rfl ?_
  refine gq_iconst (v := nI 2) hX dX5_moverOf_2 rfl (by decide) ?_
  refine gq_callVe hX dX5_moverOf_3 rfl vX5_204 (am_2_ok hb hwf ho) rfl (mqR0 hb) rfl rfl (Nat.le_of_ble_eq_true rfl) ⟨(Nat.le_of_ble_eq_true rfl), (Nat.le_of_ble_eq_true rfl)⟩ (Nat.zero_add _) (Nat.zero_add _) ?_
  exact gq_iret hX hQ dX5_moverOf_6 rfl ⟨rfl, rfl⟩

set_option maxRecDepth 100000 in
set_option maxHeartbeats 4000000 in
theorem mr_isSeconded_bad {E : Ev} {b : Nat → Nat} {T : St} {M : Hp} (hb : Lay E 9 b) {S : St} {nc nt no : Nat} (hwf : Wf S nc nt no) {id : Int32} (ho : slotO S no id = none) : Ct E mX5_isSeconded [.ref (b 0), .int id] (MdW E b T (wOf S nc nt no) M) (eqR (some (.int (nI 0))) (MdW E b (setS T 0 (nI 1)) (wOf S nc nt no) M)) 0 0 := by
  refine Ct.of gmX5_isSeconded (ls := [.ref (b 0), .int id]) rfl rfl (Nat.le_of_ble_eq_true rfl) ?_
  intro X hX Q hQ
  refine gq_aload_n hX dX5_isSeconded_0 rfl rfl rfl ?_
  refine gq_iload_n hX dX5_isSeconded_1 rfl rfl rfl ?_
  refine gq_iconst (v := nI 4) hX dX5_isSeconded_2 rfl (by decide) ?_
  refine gq_callVe hX dX5_isSeconded_3 rfl vX5_204 (am_4_bad hb hwf ho) rfl (mqR0 hb) rfl rfl (Nat.le_of_ble_eq_true rfl) ⟨(Nat.le_of_ble_eq_true rfl), (Nat.le_of_ble_eq_true rfl)⟩ (Nat.zero_add _) (Nat.zero_add _) ?_
  refine gq_if_leT (tgt := 13) hX dX5_isSeconded_6 rfl (by decide) ?_
  refine gq_iconst (v := nI 0) hX dX5_isSeconded_13 rfl (by decide) ?_
  exact gq_zret hX hQ dX5_isSeconded_14 rfl rfl ⟨rfl, rfl⟩

set_option maxRecDepth 100000 in
set_option maxHeartbeats 4000000 in
theorem mr_isSeconded_ok {E : Ev} {b : Nat → Nat} {T : St} {M : Hp} (hb : Lay E 9 b) {S : St} {nc nt no : Nat} (hwf : Wf S nc nt no) {id : Int32} {k : Nat} (ho : slotO S no id = some k) (hse : SecOk S nc no) : Ct E mX5_isSeconded [.ref (b 0), .int id] (MdW E b T (wOf S nc nt no) M) (eqR (some (.int (if S.2 11 k = -1 then nI 0 else nI 1))) (MdW E b (setS T 0 (nI 0)) (wOf S nc nt no) M)) 0 0 := by
  refine Ct.of gmX5_isSeconded (ls := [.ref (b 0), .int id]) rfl rfl (Nat.le_of_ble_eq_true rfl) ?_
  intro X hX Q hQ
  have hwf2 := hwf
  obtain ⟨hnc, hncl, hnt, hntl, hno, hnol⟩ := hwf2
  have hw0 : wOf S nc nt no 0 = nI nc := hnc
  have hw1 : wOf S nc nt no 1 = nI nt := hnt
  have hw2 : wOf S nc nt no 2 = nI no := hno
  obtain ⟨hk, hid⟩ := slotO_lt ho
  have hsl := sec_le (hse k hk) (by omega)
  refine gq_aload_n hX dX5_isSeconded_0 rfl rfl rfl ?_
  refine gq_iload_n hX dX5_isSeconded_1 rfl rfl rfl ?_
  refine gq_iconst (v := nI 4) hX dX5_isSeconded_2 rfl (by decide) ?_
  refine gq_callVe hX dX5_isSeconded_3 rfl vX5_204 (am_4_ok hb hwf ho) rfl (mqR0 hb) rfl rfl (Nat.le_of_ble_eq_true rfl) ⟨(Nat.le_of_ble_eq_true rfl), (Nat.le_of_ble_eq_true rfl)⟩ (Nat.zero_add _) (Nat.zero_add _) ?_
  refine gq_if_le (tgt := 13) hX dX5_isSeconded_6 rfl rfl (fun c6 => ?_) (fun c6 => ?_)
  · refine gq_iconst (v := nI 0) hX dX5_isSeconded_13 rfl (by decide) ?_
    exact gq_zret hX hQ dX5_isSeconded_14 rfl rfl ⟨by rw [if_pos (hsl.mp c6)], rfl⟩
  · refine gq_iconst (v := nI 1) hX dX5_isSeconded_9 rfl (by decide) ?_
    refine gq_goto (tgt := 14) hX dX5_isSeconded_10 rfl ?_
    exact gq_zret hX hQ dX5_isSeconded_14 rfl rfl ⟨by rw [if_neg (fun e => c6 (hsl.mpr e))], rfl⟩

set_option maxRecDepth 100000 in
set_option maxHeartbeats 4000000 in
theorem mr_seconderOf_bad {E : Ev} {b : Nat → Nat} {T : St} {M : Hp} (hb : Lay E 9 b) {S : St} {nc nt no : Nat} (hwf : Wf S nc nt no) {id : Int32} (ho : slotO S no id = none) : Ct E mX5_seconderOf [.ref (b 0), .int id] (MdW E b T (wOf S nc nt no) M) (eqR (some (.int (nI 0))) (MdW E b (setS T 0 (nI 1)) (wOf S nc nt no) M)) 0 0 := by
  refine Ct.of gmX5_seconderOf (ls := [.ref (b 0), .int id, hole]) rfl rfl (Nat.le_of_ble_eq_true rfl) ?_
  intro X hX Q hQ
  refine gq_aload_n hX dX5_seconderOf_0 rfl rfl rfl ?_
  refine gq_iload_n hX dX5_seconderOf_1 rfl rfl rfl ?_
  refine gq_iconst (v := nI 4) hX dX5_seconderOf_2 rfl (by decide) ?_
  refine gq_callVe hX dX5_seconderOf_3 rfl vX5_204 (am_4_bad hb hwf ho) rfl (mqR0 hb) rfl rfl (Nat.le_of_ble_eq_true rfl) ⟨(Nat.le_of_ble_eq_true rfl), (Nat.le_of_ble_eq_true rfl)⟩ (Nat.zero_add _) (Nat.zero_add _) ?_
  refine gq_istore_n hX dX5_seconderOf_6 rfl rfl (Nat.le_of_ble_eq_true rfl) rfl ?_
  refine gq_aload_n hX dX5_seconderOf_7 rfl rfl rfl ?_
  refine gq_getf hX dX5_seconderOf_8 rfl fX5_42 (mqR0 hb) rfl ?_
  refine gq_if_eqF (tgt := 16) hX dX5_seconderOf_11 rfl rfl (show ¬ (nI 1 : Int32) = 0 by decide) ?_
  refine gq_iconst (v := nI 0) hX dX5_seconderOf_14 rfl (by decide) ?_
  exact gq_iret hX hQ dX5_seconderOf_15 rfl ⟨rfl, rfl⟩

set_option maxRecDepth 100000 in
set_option maxHeartbeats 4000000 in
theorem mr_seconderOf_none {E : Ev} {b : Nat → Nat} {T : St} {M : Hp} (hb : Lay E 9 b) {S : St} {nc nt no : Nat} (hwf : Wf S nc nt no) {id : Int32} {k : Nat} (ho : slotO S no id = some k) (h5 : S.2 11 k = -1) : Ct E mX5_seconderOf [.ref (b 0), .int id] (MdW E b T (wOf S nc nt no) M) (eqR (some (.int (nI 0))) (MdW E b (setS T 0 (nI 2)) (wOf S nc nt no) M)) 0 0 := by
  refine Ct.of gmX5_seconderOf (ls := [.ref (b 0), .int id, hole]) rfl rfl (Nat.le_of_ble_eq_true rfl) ?_
  intro X hX Q hQ
  refine gq_aload_n hX dX5_seconderOf_0 rfl rfl rfl ?_
  refine gq_iload_n hX dX5_seconderOf_1 rfl rfl rfl ?_
  refine gq_iconst (v := nI 4) hX dX5_seconderOf_2 rfl (by decide) ?_
  refine gq_callVe hX dX5_seconderOf_3 rfl vX5_204 (am_4_ok hb hwf ho) rfl (mqR0 hb) rfl rfl (Nat.le_of_ble_eq_true rfl) ⟨(Nat.le_of_ble_eq_true rfl), (Nat.le_of_ble_eq_true rfl)⟩ (Nat.zero_add _) (Nat.zero_add _) ?_
  refine gq_istore_n hX dX5_seconderOf_6 rfl rfl (Nat.le_of_ble_eq_true rfl) rfl ?_
  refine gq_aload_n hX dX5_seconderOf_7 rfl rfl rfl ?_
  refine gq_getf hX dX5_seconderOf_8 rfl fX5_42 (mqR0 hb) rfl ?_
  refine gq_if_eqT (tgt := 16) hX dX5_seconderOf_11 rfl rfl ?_
  refine gq_iload_n hX dX5_seconderOf_16 rfl rfl rfl ?_
  refine gq_if_neF (tgt := 28) hX dX5_seconderOf_17 rfl rfl (add1_0.mpr h5) ?_
  refine gq_aload_n hX dX5_seconderOf_20 rfl rfl rfl ?_
  refine gq_iconst (v := nI 2) hX dX5_seconderOf_21 rfl (by decide) ?_
  refine gq_callVe hX dX5_seconderOf_22 rfl vX5_79 (mt_fails hb _) rfl (mqR0 hb) rfl rfl (Nat.le_of_ble_eq_true rfl) ⟨(Nat.le_of_ble_eq_true rfl), (Nat.le_of_ble_eq_true rfl)⟩ (Nat.zero_add _) (Nat.zero_add _) ?_
  refine gq_goto (tgt := 31) hX dX5_seconderOf_25 rfl ?_
  exact gq_iret hX hQ dX5_seconderOf_31 rfl ⟨rfl, by rw [setS_2]⟩

set_option maxRecDepth 100000 in
set_option maxHeartbeats 4000000 in
theorem mr_seconderOf_ok {E : Ev} {b : Nat → Nat} {T : St} {M : Hp} (hb : Lay E 9 b) {S : St} {nc nt no : Nat} (hwf : Wf S nc nt no) {id : Int32} {k : Nat} (ho : slotO S no id = some k) (h5 : ¬ S.2 11 k = -1) : Ct E mX5_seconderOf [.ref (b 0), .int id] (MdW E b T (wOf S nc nt no) M) (eqR (some (.int (S.2 11 k))) (MdW E b (setS T 0 (nI 0)) (wOf S nc nt no) M)) 0 0 := by
  refine Ct.of gmX5_seconderOf (ls := [.ref (b 0), .int id, hole]) rfl rfl (Nat.le_of_ble_eq_true rfl) ?_
  intro X hX Q hQ
  refine gq_aload_n hX dX5_seconderOf_0 rfl rfl rfl ?_
  refine gq_iload_n hX dX5_seconderOf_1 rfl rfl rfl ?_
  refine gq_iconst (v := nI 4) hX dX5_seconderOf_2 rfl (by decide) ?_
  refine gq_callVe hX dX5_seconderOf_3 rfl vX5_204 (am_4_ok hb hwf ho) rfl (mqR0 hb) rfl rfl (Nat.le_of_ble_eq_true rfl) ⟨(Nat.le_of_ble_eq_true rfl), (Nat.le_of_ble_eq_true rfl)⟩ (Nat.zero_add _) (Nat.zero_add _) ?_
  refine gq_istore_n hX dX5_seconderOf_6 rfl rfl (Nat.le_of_ble_eq_true rfl) rfl ?_
  refine gq_aload_n hX dX5_seconderOf_7 rfl rfl rfl ?_
  refine gq_getf hX dX5_seconderOf_8 rfl fX5_42 (mqR0 hb) rfl ?_
  refine gq_if_eqT (tgt := 16) hX dX5_seconderOf_11 rfl rfl ?_
  refine gq_iload_n hX dX5_seconderOf_16 rfl rfl rfl ?_
  refine gq_if_neT (tgt := 28) hX dX5_seconderOf_17 rfl (fun e => h5 (add1_0.mp e)) ?_
  refine gq_iload_n hX dX5_seconderOf_28 rfl rfl rfl ?_
  refine gq_iconst (v := nI 1) hX dX5_seconderOf_29 rfl (by decide) ?_
  refine gq_isub hX dX5_seconderOf_30 rfl ?_
  exact gq_iret hX hQ dX5_seconderOf_31 rfl ⟨by rw [Int32.add_sub_cancel], rfl⟩

set_option maxRecDepth 100000 in
set_option maxHeartbeats 4000000 in
theorem mr_isTabled_bad {E : Ev} {b : Nat → Nat} {T : St} {M : Hp} (hb : Lay E 9 b) {S : St} {nc nt no : Nat} (hwf : Wf S nc nt no) {id : Int32} (ho : slotO S no id = none) : Ct E mX5_isTabled [.ref (b 0), .int id] (MdW E b T (wOf S nc nt no) M) (eqR (some (.int (nI 0))) (MdW E b (setS T 0 (nI 1)) (wOf S nc nt no) M)) 0 0 := by
  refine Ct.of gmX5_isTabled (ls := [.ref (b 0), .int id]) rfl rfl (Nat.le_of_ble_eq_true rfl) ?_
  intro X hX Q hQ
  refine gq_aload_n hX dX5_isTabled_0 rfl rfl rfl ?_
  refine gq_iload_n hX dX5_isTabled_1 rfl rfl rfl ?_
  refine gq_iconst (v := nI 5) hX dX5_isTabled_2 rfl (by decide) ?_
  refine gq_callVe hX dX5_isTabled_3 rfl vX5_204 (am_5_bad hb hwf ho) rfl (mqR0 hb) rfl rfl (Nat.le_of_ble_eq_true rfl) ⟨(Nat.le_of_ble_eq_true rfl), (Nat.le_of_ble_eq_true rfl)⟩ (Nat.zero_add _) (Nat.zero_add _) ?_
  refine gq_iconst (v := nI 1) hX dX5_isTabled_6 rfl (by decide) ?_
  refine gq_icmp_neT (tgt := 14) hX dX5_isTabled_7 rfl (by decide) ?_
  refine gq_iconst (v := nI 0) hX dX5_isTabled_14 rfl (by decide) ?_
  exact gq_zret hX hQ dX5_isTabled_15 rfl rfl ⟨rfl, rfl⟩

set_option maxRecDepth 100000 in
set_option maxHeartbeats 4000000 in
theorem mr_isTabled_ok {E : Ev} {b : Nat → Nat} {T : St} {M : Hp} (hb : Lay E 9 b) {S : St} {nc nt no : Nat} (hwf : Wf S nc nt no) {id : Int32} {k : Nat} (ho : slotO S no id = some k) (hn : Nar S) : Ct E mX5_isTabled [.ref (b 0), .int id] (MdW E b T (wOf S nc nt no) M) (eqR (some (.int (S.2 12 k))) (MdW E b (setS T 0 (nI 0)) (wOf S nc nt no) M)) 0 0 := by
  refine Ct.of gmX5_isTabled (ls := [.ref (b 0), .int id]) rfl rfl (Nat.le_of_ble_eq_true rfl) ?_
  intro X hX Q hQ
  refine gq_aload_n hX dX5_isTabled_0 rfl rfl rfl ?_
  refine gq_iload_n hX dX5_isTabled_1 rfl rfl rfl ?_
  refine gq_iconst (v := nI 5) hX dX5_isTabled_2 rfl (by decide) ?_
  refine gq_callVe hX dX5_isTabled_3 rfl vX5_204 (am_5_ok hb hwf ho) rfl (mqR0 hb) rfl rfl (Nat.le_of_ble_eq_true rfl) ⟨(Nat.le_of_ble_eq_true rfl), (Nat.le_of_ble_eq_true rfl)⟩ (Nat.zero_add _) (Nat.zero_add _) ?_
  refine gq_iconst (v := nI 1) hX dX5_isTabled_6 rfl (by decide) ?_
  refine gq_icmp_ne (tgt := 14) hX dX5_isTabled_7 rfl rfl (fun c7 => ?_) (fun c7 => ?_)
  · refine gq_iconst (v := nI 0) hX dX5_isTabled_14 rfl (by decide) ?_
    exact gq_zret hX hQ dX5_isTabled_15 rfl rfl ⟨congrArg (fun z => some (Value.int z)) ((bool_01 (hn.2.2 k)).resolve_right c7).symm, rfl⟩
  · refine gq_iconst (v := nI 1) hX dX5_isTabled_10 rfl (by decide) ?_
    refine gq_goto (tgt := 15) hX dX5_isTabled_11 rfl ?_
    exact gq_zret hX hQ dX5_isTabled_15 rfl rfl ⟨congrArg (fun z => some (Value.int z)) (show nI 1 = S.2 12 k from (c7 : S.2 12 k = nI 1).symm), rfl⟩

set_option maxRecDepth 100000 in
set_option maxHeartbeats 4000000 in
theorem mr_votesFor_bad {E : Ev} {b : Nat → Nat} {T : St} {M : Hp} (hb : Lay E 9 b) {S : St} {nc nt no : Nat} (hwf : Wf S nc nt no) {id : Int32} (ho : slotO S no id = none) : Ct E mX5_votesFor [.ref (b 0), .int id] (MdW E b T (wOf S nc nt no) M) (eqR (some (.int (nI 0))) (MdW E b (setS T 0 (nI 1)) (wOf S nc nt no) M)) 0 0 := by
  refine Ct.of gmX5_votesFor (ls := [.ref (b 0), .int id]) rfl rfl (Nat.le_of_ble_eq_true rfl) ?_
  intro X hX Q hQ
  have hwf2 := hwf
  obtain ⟨hnc, hncl, hnt, hntl, hno, hnol⟩ := hwf2
  have hw0 : wOf S nc nt no 0 = nI nc := hnc
  have hw1 : wOf S nc nt no 1 = nI nt := hnt
  have hw2 : wOf S nc nt no 2 = nI no := hno
  have hct := mt_slotOf (M := M) (T := setS T 0 (nI 0)) hb hwf id
  rw [ho] at hct
  refine gq_aload_n hX dX5_votesFor_0 rfl rfl rfl ?_
  refine gq_iconst (v := nI 0) hX dX5_votesFor_1 rfl (by decide) ?_
  refine gq_putf hX dX5_votesFor_2 rfl fX5_42 rfl rfl rfl (mqR0 hb) (Nat.le_of_ble_eq_true rfl) (hb.2 0 (by decide)) (mqW0_0 hb) ?_
  refine gq_aload_n hX dX5_votesFor_5 rfl rfl rfl ?_
  refine gq_iload_n hX dX5_votesFor_6 rfl rfl rfl ?_
  refine gq_callVe hX dX5_votesFor_7 rfl vX5_133 (hct) rfl (mqR0 hb) rfl rfl (Nat.le_of_ble_eq_true rfl) ⟨(Nat.le_of_ble_eq_true rfl), (Nat.le_of_ble_eq_true rfl)⟩ (Nat.zero_add _) (Nat.zero_add _) ?_
  refine gq_if_geF (tgt := 21) hX dX5_votesFor_10 rfl rfl (by decide) ?_
  refine gq_aload_n hX dX5_votesFor_13 rfl rfl rfl ?_
  refine gq_iconst (v := nI 1) hX dX5_votesFor_14 rfl (by decide) ?_
  refine gq_callVe hX dX5_votesFor_15 rfl vX5_79 (mt_fails hb _) rfl (mqR0 hb) rfl rfl (Nat.le_of_ble_eq_true rfl) ⟨(Nat.le_of_ble_eq_true rfl), (Nat.le_of_ble_eq_true rfl)⟩ (Nat.zero_add _) (Nat.zero_add _) ?_
  refine gq_goto (tgt := 31) hX dX5_votesFor_18 rfl ?_
  exact gq_iret hX hQ dX5_votesFor_31 rfl ⟨rfl, by rw [setS_2]⟩

set_option maxRecDepth 100000 in
set_option maxHeartbeats 4000000 in
theorem mr_votesFor_ok {E : Ev} {b : Nat → Nat} {T : St} {M : Hp} (hb : Lay E 9 b) {S : St} {nc nt no : Nat} (hwf : Wf S nc nt no) {id : Int32} {k : Nat} (ho : slotO S no id = some k) (hn : Nar S) {a : Nat} (hmv : S.2 9 k = nI a) (ha : a < nc) : Ct E mX5_votesFor [.ref (b 0), .int id] (MdW E b T (wOf S nc nt no) M) (eqR (some (.int (sumV S nc k a (nI 1)))) (MdW E b (setS T 0 (nI 0)) (wOf S nc nt no) M)) 0 0 := by
  refine Ct.of gmX5_votesFor (ls := [.ref (b 0), .int id]) rfl rfl (Nat.le_of_ble_eq_true rfl) ?_
  intro X hX Q hQ
  have hwf2 := hwf
  obtain ⟨hnc, hncl, hnt, hntl, hno, hnol⟩ := hwf2
  have hw0 : wOf S nc nt no 0 = nI nc := hnc
  have hw1 : wOf S nc nt no 1 = nI nt := hnt
  have hw2 : wOf S nc nt no 2 = nI no := hno
  have hct := mt_slotOf (M := M) (T := setS T 0 (nI 0)) hb hwf id
  rw [ho] at hct
  obtain ⟨hk, hid⟩ := slotO_lt ho
  have hk0 : 0 ≤ nI k := nI_pos' (by omega)
  refine gq_aload_n hX dX5_votesFor_0 rfl rfl rfl ?_
  refine gq_iconst (v := nI 0) hX dX5_votesFor_1 rfl (by decide) ?_
  refine gq_putf hX dX5_votesFor_2 rfl fX5_42 rfl rfl rfl (mqR0 hb) (Nat.le_of_ble_eq_true rfl) (hb.2 0 (by decide)) (mqW0_0 hb) ?_
  refine gq_aload_n hX dX5_votesFor_5 rfl rfl rfl ?_
  refine gq_iload_n hX dX5_votesFor_6 rfl rfl rfl ?_
  refine gq_callVe hX dX5_votesFor_7 rfl vX5_133 (hct) rfl (mqR0 hb) rfl rfl (Nat.le_of_ble_eq_true rfl) ⟨(Nat.le_of_ble_eq_true rfl), (Nat.le_of_ble_eq_true rfl)⟩ (Nat.zero_add _) (Nat.zero_add _) ?_
  refine gq_if_geT (tgt := 21) hX dX5_votesFor_10 rfl hk0 ?_
  refine gq_aload_n hX dX5_votesFor_21 rfl rfl rfl ?_
  refine gq_aload_n hX dX5_votesFor_22 rfl rfl rfl ?_
  refine gq_iload_n hX dX5_votesFor_23 rfl rfl rfl ?_
  refine gq_callVe hX dX5_votesFor_24 rfl vX5_133 (hct) rfl (mqR0 hb) rfl rfl (Nat.le_of_ble_eq_true rfl) ⟨(Nat.le_of_ble_eq_true rfl), (Nat.le_of_ble_eq_true rfl)⟩ (Nat.zero_add _) (Nat.zero_add _) ?_
  refine gq_iconst (v := nI 1) hX dX5_votesFor_27 rfl (by decide) ?_
  refine gq_callVe hX dX5_votesFor_28 rfl vX5_168 (mt_votes hb hwf hn hk hmv ha _) rfl (mqR0 hb) rfl rfl (Nat.le_of_ble_eq_true rfl) ⟨(Nat.le_of_ble_eq_true rfl), (Nat.le_of_ble_eq_true rfl)⟩ (Nat.zero_add _) (Nat.zero_add _) ?_
  exact gq_iret hX hQ dX5_votesFor_31 rfl ⟨rfl, rfl⟩

set_option maxRecDepth 100000 in
set_option maxHeartbeats 4000000 in
theorem mr_votesAgainst_bad {E : Ev} {b : Nat → Nat} {T : St} {M : Hp} (hb : Lay E 9 b) {S : St} {nc nt no : Nat} (hwf : Wf S nc nt no) {id : Int32} (ho : slotO S no id = none) : Ct E mX5_votesAgainst [.ref (b 0), .int id] (MdW E b T (wOf S nc nt no) M) (eqR (some (.int (nI 0))) (MdW E b (setS T 0 (nI 1)) (wOf S nc nt no) M)) 0 0 := by
  refine Ct.of gmX5_votesAgainst (ls := [.ref (b 0), .int id]) rfl rfl (Nat.le_of_ble_eq_true rfl) ?_
  intro X hX Q hQ
  have hwf2 := hwf
  obtain ⟨hnc, hncl, hnt, hntl, hno, hnol⟩ := hwf2
  have hw0 : wOf S nc nt no 0 = nI nc := hnc
  have hw1 : wOf S nc nt no 1 = nI nt := hnt
  have hw2 : wOf S nc nt no 2 = nI no := hno
  have hct := mt_slotOf (M := M) (T := setS T 0 (nI 0)) hb hwf id
  rw [ho] at hct
  refine gq_aload_n hX dX5_votesAgainst_0 rfl rfl rfl ?_
  refine gq_iconst (v := nI 0) hX dX5_votesAgainst_1 rfl (by decide) ?_
  refine gq_putf hX dX5_votesAgainst_2 rfl fX5_42 rfl rfl rfl (mqR0 hb) (Nat.le_of_ble_eq_true rfl) (hb.2 0 (by decide)) (mqW0_0 hb) ?_
  refine gq_aload_n hX dX5_votesAgainst_5 rfl rfl rfl ?_
  refine gq_iload_n hX dX5_votesAgainst_6 rfl rfl rfl ?_
  refine gq_callVe hX dX5_votesAgainst_7 rfl vX5_133 (hct) rfl (mqR0 hb) rfl rfl (Nat.le_of_ble_eq_true rfl) ⟨(Nat.le_of_ble_eq_true rfl), (Nat.le_of_ble_eq_true rfl)⟩ (Nat.zero_add _) (Nat.zero_add _) ?_
  refine gq_if_geF (tgt := 21) hX dX5_votesAgainst_10 rfl rfl (by decide) ?_
  refine gq_aload_n hX dX5_votesAgainst_13 rfl rfl rfl ?_
  refine gq_iconst (v := nI 1) hX dX5_votesAgainst_14 rfl (by decide) ?_
  refine gq_callVe hX dX5_votesAgainst_15 rfl vX5_79 (mt_fails hb _) rfl (mqR0 hb) rfl rfl (Nat.le_of_ble_eq_true rfl) ⟨(Nat.le_of_ble_eq_true rfl), (Nat.le_of_ble_eq_true rfl)⟩ (Nat.zero_add _) (Nat.zero_add _) ?_
  refine gq_goto (tgt := 31) hX dX5_votesAgainst_18 rfl ?_
  exact gq_iret hX hQ dX5_votesAgainst_31 rfl ⟨rfl, by rw [setS_2]⟩

set_option maxRecDepth 100000 in
set_option maxHeartbeats 4000000 in
theorem mr_votesAgainst_ok {E : Ev} {b : Nat → Nat} {T : St} {M : Hp} (hb : Lay E 9 b) {S : St} {nc nt no : Nat} (hwf : Wf S nc nt no) {id : Int32} {k : Nat} (ho : slotO S no id = some k) (hn : Nar S) {a : Nat} (hmv : S.2 9 k = nI a) (ha : a < nc) : Ct E mX5_votesAgainst [.ref (b 0), .int id] (MdW E b T (wOf S nc nt no) M) (eqR (some (.int (sumV S nc k a (-1)))) (MdW E b (setS T 0 (nI 0)) (wOf S nc nt no) M)) 0 0 := by
  refine Ct.of gmX5_votesAgainst (ls := [.ref (b 0), .int id]) rfl rfl (Nat.le_of_ble_eq_true rfl) ?_
  intro X hX Q hQ
  have hwf2 := hwf
  obtain ⟨hnc, hncl, hnt, hntl, hno, hnol⟩ := hwf2
  have hw0 : wOf S nc nt no 0 = nI nc := hnc
  have hw1 : wOf S nc nt no 1 = nI nt := hnt
  have hw2 : wOf S nc nt no 2 = nI no := hno
  have hct := mt_slotOf (M := M) (T := setS T 0 (nI 0)) hb hwf id
  rw [ho] at hct
  obtain ⟨hk, hid⟩ := slotO_lt ho
  have hk0 : 0 ≤ nI k := nI_pos' (by omega)
  refine gq_aload_n hX dX5_votesAgainst_0 rfl rfl rfl ?_
  refine gq_iconst (v := nI 0) hX dX5_votesAgainst_1 rfl (by decide) ?_
  refine gq_putf hX dX5_votesAgainst_2 rfl fX5_42 rfl rfl rfl (mqR0 hb) (Nat.le_of_ble_eq_true rfl) (hb.2 0 (by decide)) (mqW0_0 hb) ?_
  refine gq_aload_n hX dX5_votesAgainst_5 rfl rfl rfl ?_
  refine gq_iload_n hX dX5_votesAgainst_6 rfl rfl rfl ?_
  refine gq_callVe hX dX5_votesAgainst_7 rfl vX5_133 (hct) rfl (mqR0 hb) rfl rfl (Nat.le_of_ble_eq_true rfl) ⟨(Nat.le_of_ble_eq_true rfl), (Nat.le_of_ble_eq_true rfl)⟩ (Nat.zero_add _) (Nat.zero_add _) ?_
  refine gq_if_geT (tgt := 21) hX dX5_votesAgainst_10 rfl hk0 ?_
  refine gq_aload_n hX dX5_votesAgainst_21 rfl rfl rfl ?_
  refine gq_aload_n hX dX5_votesAgainst_22 rfl rfl rfl ?_
  refine gq_iload_n hX dX5_votesAgainst_23 rfl rfl rfl ?_
  refine gq_callVe hX dX5_votesAgainst_24 rfl vX5_133 (hct) rfl (mqR0 hb) rfl rfl (Nat.le_of_ble_eq_true rfl) ⟨(Nat.le_of_ble_eq_true rfl), (Nat.le_of_ble_eq_true rfl)⟩ (Nat.zero_add _) (Nat.zero_add _) ?_
  refine gq_iconst (v := -1) hX dX5_votesAgainst_27 rfl (by decide) ?_
  refine gq_callVe hX dX5_votesAgainst_28 rfl vX5_168 (mt_votes hb hwf hn hk hmv ha _) rfl (mqR0 hb) rfl rfl (Nat.le_of_ble_eq_true rfl) ⟨(Nat.le_of_ble_eq_true rfl), (Nat.le_of_ble_eq_true rfl)⟩ (Nat.zero_add _) (Nat.zero_add _) ?_
  exact gq_iret hX hQ dX5_votesAgainst_31 rfl ⟨rfl, rfl⟩

set_option maxRecDepth 100000 in
set_option maxHeartbeats 4000000 in
theorem mr_votesM_bad {E : Ev} {b : Nat → Nat} {T : St} {M : Hp} (hb : Lay E 9 b) {S : St} {nc nt no : Nat} (hwf : Wf S nc nt no) {id : Int32} (ho : slotO S no id = none) : Ct E mX5_votesForByMember [.ref (b 0), .int id] (MdW E b T (wOf S nc nt no) M) (eqR (some (.int (nI 0))) (MdW E b (setS T 0 (nI 1)) (wOf S nc nt no) M)) 0 0 := by
  refine Ct.of gmX5_votesForByMember (ls := [.ref (b 0), .int id]) rfl rfl (Nat.le_of_ble_eq_true rfl) ?_
  intro X hX Q hQ
  refine gq_aload_n hX dX5_votesForByMember_0 rfl rfl rfl ?_
  refine gq_iload_n hX dX5_votesForByMember_1 rfl rfl rfl ?_
  refine gq_callVe hX dX5_votesForByMember_2 rfl vX5_207 (mr_votesFor_bad hb hwf ho) rfl (mqR0 hb) rfl rfl (Nat.le_of_ble_eq_true rfl) ⟨(Nat.le_of_ble_eq_true rfl), (Nat.le_of_ble_eq_true rfl)⟩ (Nat.zero_add _) (Nat.zero_add _) ?_
  exact gq_iret hX hQ dX5_votesForByMember_5 rfl ⟨rfl, rfl⟩

set_option maxRecDepth 100000 in
set_option maxHeartbeats 4000000 in
theorem mr_votesM_ok {E : Ev} {b : Nat → Nat} {T : St} {M : Hp} (hb : Lay E 9 b) {S : St} {nc nt no : Nat} (hwf : Wf S nc nt no) {id : Int32} {k : Nat} (ho : slotO S no id = some k) (hn : Nar S) {a : Nat} (hmv : S.2 9 k = nI a) (ha : a < nc) : Ct E mX5_votesForByMember [.ref (b 0), .int id] (MdW E b T (wOf S nc nt no) M) (eqR (some (.int (sumV S nc k a (nI 1)))) (MdW E b (setS T 0 (nI 0)) (wOf S nc nt no) M)) 0 0 := by
  refine Ct.of gmX5_votesForByMember (ls := [.ref (b 0), .int id]) rfl rfl (Nat.le_of_ble_eq_true rfl) ?_
  intro X hX Q hQ
  refine gq_aload_n hX dX5_votesForByMember_0 rfl rfl rfl ?_
  refine gq_iload_n hX dX5_votesForByMember_1 rfl rfl rfl ?_
  refine gq_callVe hX dX5_votesForByMember_2 rfl vX5_207 (mr_votesFor_ok hb hwf ho hn hmv ha) rfl (mqR0 hb) rfl rfl (Nat.le_of_ble_eq_true rfl) ⟨(Nat.le_of_ble_eq_true rfl), (Nat.le_of_ble_eq_true rfl)⟩ (Nat.zero_add _) (Nat.zero_add _) ?_
  exact gq_iret hX hQ dX5_votesForByMember_5 rfl ⟨rfl, rfl⟩

set_option maxRecDepth 100000 in
set_option maxHeartbeats 4000000 in
theorem mr_after_bad {E : Ev} {b : Nat → Nat} {T : St} {M : Hp} (hb : Lay E 9 b) {S : St} {nc nt no : Nat} (hwf : Wf S nc nt no) (c h : Int32) (hF : hasI nc c = 0) : Ct E mX5_arrearsAfter [.ref (b 0), .int c, .int h] (MdW E b T (wOf S nc nt no) M) (eqR (some (.int (nI 0))) (MdW E b (setS T 0 (nI 1)) (wOf S nc nt no) M)) 0 0 := by
  refine Ct.of gmX5_arrearsAfter (ls := [.ref (b 0), .int c, .int h, hole, hole]) rfl rfl (Nat.le_of_ble_eq_true rfl) ?_
  intro X hX Q hQ
  have hwf2 := hwf
  obtain ⟨hnc, hncl, hnt, hntl, hno, hnol⟩ := hwf2
  have hw0 : wOf S nc nt no 0 = nI nc := hnc
  have hw1 : wOf S nc nt no 1 = nI nt := hnt
  have hw2 : wOf S nc nt no 2 = nI no := hno
  refine gq_aload_n hX dX5_arrearsAfter_0 rfl rfl rfl ?_
  refine gq_iconst (v := nI 0) hX dX5_arrearsAfter_1 rfl (by decide) ?_
  refine gq_putf hX dX5_arrearsAfter_2 rfl fX5_42 rfl rfl rfl (mqR0 hb) (Nat.le_of_ble_eq_true rfl) (hb.2 0 (by decide)) (mqW0_0 hb) ?_
  refine gq_aload_n hX dX5_arrearsAfter_5 rfl rfl rfl ?_
  refine gq_iload_n hX dX5_arrearsAfter_6 rfl rfl rfl ?_
  refine gq_callVe hX dX5_arrearsAfter_7 rfl vX5_94 (mt_isCom hb hwf _) rfl (mqR0 hb) rfl rfl (Nat.le_of_ble_eq_true rfl) ⟨(Nat.le_of_ble_eq_true rfl), (Nat.le_of_ble_eq_true rfl)⟩ (Nat.zero_add _) (Nat.zero_add _) ?_
  refine gq_if_neF (tgt := 19) hX dX5_arrearsAfter_10 rfl rfl hF ?_
  refine gq_aload_n hX dX5_arrearsAfter_13 rfl rfl rfl ?_
  refine gq_iconst (v := nI 1) hX dX5_arrearsAfter_14 rfl (by decide) ?_
  refine gq_callVe hX dX5_arrearsAfter_15 rfl vX5_79 (mt_fails hb _) rfl (mqR0 hb) rfl rfl (Nat.le_of_ble_eq_true rfl) ⟨(Nat.le_of_ble_eq_true rfl), (Nat.le_of_ble_eq_true rfl)⟩ (Nat.zero_add _) (Nat.zero_add _) ?_
  exact gq_iret hX hQ dX5_arrearsAfter_18 rfl ⟨rfl, by rw [setS_2]⟩

set_option maxRecDepth 100000 in
set_option maxHeartbeats 4000000 in
theorem mr_after_bad2 {E : Ev} {b : Nat → Nat} {T : St} {M : Hp} (hb : Lay E 9 b) {S : St} {nc nt no : Nat} (hwf : Wf S nc nt no) {j : Nat} (hj : j < nc) (h : Int32) (hF : btw h (nI 0) (nI 24) = 0) : Ct E mX5_arrearsAfter [.ref (b 0), .int (nI j), .int h] (MdW E b T (wOf S nc nt no) M) (eqR (some (.int (nI 0))) (MdW E b (setS T 0 (nI 2)) (wOf S nc nt no) M)) 0 0 := by
  refine Ct.of gmX5_arrearsAfter (ls := [.ref (b 0), .int (nI j), .int h, hole, hole]) rfl rfl (Nat.le_of_ble_eq_true rfl) ?_
  intro X hX Q hQ
  have hwf2 := hwf
  obtain ⟨hnc, hncl, hnt, hntl, hno, hnol⟩ := hwf2
  have hw0 : wOf S nc nt no 0 = nI nc := hnc
  have hw1 : wOf S nc nt no 1 = nI nt := hnt
  have hw2 : wOf S nc nt no 2 = nI no := hno
  refine gq_aload_n hX dX5_arrearsAfter_0 rfl rfl rfl ?_
  refine gq_iconst (v := nI 0) hX dX5_arrearsAfter_1 rfl (by decide) ?_
  refine gq_putf hX dX5_arrearsAfter_2 rfl fX5_42 rfl rfl rfl (mqR0 hb) (Nat.le_of_ble_eq_true rfl) (hb.2 0 (by decide)) (mqW0_0 hb) ?_
  refine gq_aload_n hX dX5_arrearsAfter_5 rfl rfl rfl ?_
  refine gq_iload_n hX dX5_arrearsAfter_6 rfl rfl rfl ?_
  refine gq_callVe hX dX5_arrearsAfter_7 rfl vX5_94 (mt_isCom hb hwf _) rfl (mqR0 hb) rfl rfl (Nat.le_of_ble_eq_true rfl) ⟨(Nat.le_of_ble_eq_true rfl), (Nat.le_of_ble_eq_true rfl)⟩ (Nat.zero_add _) (Nat.zero_add _) ?_
  refine gq_if_neT (tgt := 19) hX dX5_arrearsAfter_10 rfl (by rw [hasI_yes hj (by omega)]; decide) ?_
  refine gq_iload_n hX dX5_arrearsAfter_19 rfl rfl rfl ?_
  refine gq_iconst (v := nI 0) hX dX5_arrearsAfter_20 rfl (by decide) ?_
  refine gq_bipush (v := nI 24) hX dX5_arrearsAfter_21 rfl (by decide) ?_
  refine gq_callSe hX dX5_arrearsAfter_23 rfl vX5_57 (mt_btw _ _ _) rfl rfl (Nat.le_of_ble_eq_true rfl) ⟨(Nat.le_of_ble_eq_true rfl), (Nat.le_of_ble_eq_true rfl)⟩ (Nat.zero_add _) (Nat.zero_add _) ?_
  refine gq_if_neF (tgt := 35) hX dX5_arrearsAfter_26 rfl rfl hF ?_
  refine gq_aload_n hX dX5_arrearsAfter_29 rfl rfl rfl ?_
  refine gq_iconst (v := nI 2) hX dX5_arrearsAfter_30 rfl (by decide) ?_
  refine gq_callVe hX dX5_arrearsAfter_31 rfl vX5_79 (mt_fails hb _) rfl (mqR0 hb) rfl rfl (Nat.le_of_ble_eq_true rfl) ⟨(Nat.le_of_ble_eq_true rfl), (Nat.le_of_ble_eq_true rfl)⟩ (Nat.zero_add _) (Nat.zero_add _) ?_
  exact gq_iret hX hQ dX5_arrearsAfter_34 rfl ⟨rfl, by rw [setS_2]⟩

set_option maxRecDepth 100000 in
set_option maxHeartbeats 4000000 in
theorem mr_after_ok {E : Ev} {b : Nat → Nat} {T : St} {M : Hp} (hb : Lay E 9 b) {S : St} {nc nt no : Nat} (hwf : Wf S nc nt no) (hn : Nar S) {j : Nat} (hj : j < nc) {h : Nat} (hh : h < 1000) (hF : ¬ btw (nI h) (nI 0) (nI 24) = 0) : Ct E mX5_arrearsAfter [.ref (b 0), .int (nI j), .int (nI h)] (MdW E b T (wOf S nc nt no) M) (eqR (some (.int ((pasS S nt nc h).1.2 2 j))) (MdW E b (setA (setS T 0 (nI 0)) 5 (itU (wOf S nc nt no) (T.2 5) 91)) (wOf S nc nt no) M)) 0 0 := by
  refine Ct.of gmX5_arrearsAfter (ls := [.ref (b 0), .int (nI j), .int (nI h), hole, hole]) rfl rfl (Nat.le_of_ble_eq_true rfl) ?_
  intro X hX Q hQ
  have hwf2 := hwf
  obtain ⟨hnc, hncl, hnt, hntl, hno, hnol⟩ := hwf2
  have hw0 : wOf S nc nt no 0 = nI nc := hnc
  have hw1 : wOf S nc nt no 1 = nI nt := hnt
  have hw2 : wOf S nc nt no 2 = nI no := hno
  refine gq_aload_n hX dX5_arrearsAfter_0 rfl rfl rfl ?_
  refine gq_iconst (v := nI 0) hX dX5_arrearsAfter_1 rfl (by decide) ?_
  refine gq_putf hX dX5_arrearsAfter_2 rfl fX5_42 rfl rfl rfl (mqR0 hb) (Nat.le_of_ble_eq_true rfl) (hb.2 0 (by decide)) (mqW0_0 hb) ?_
  refine gq_aload_n hX dX5_arrearsAfter_5 rfl rfl rfl ?_
  refine gq_iload_n hX dX5_arrearsAfter_6 rfl rfl rfl ?_
  refine gq_callVe hX dX5_arrearsAfter_7 rfl vX5_94 (mt_isCom hb hwf _) rfl (mqR0 hb) rfl rfl (Nat.le_of_ble_eq_true rfl) ⟨(Nat.le_of_ble_eq_true rfl), (Nat.le_of_ble_eq_true rfl)⟩ (Nat.zero_add _) (Nat.zero_add _) ?_
  refine gq_if_neT (tgt := 19) hX dX5_arrearsAfter_10 rfl (by rw [hasI_yes hj (by omega)]; decide) ?_
  refine gq_iload_n hX dX5_arrearsAfter_19 rfl rfl rfl ?_
  refine gq_iconst (v := nI 0) hX dX5_arrearsAfter_20 rfl (by decide) ?_
  refine gq_bipush (v := nI 24) hX dX5_arrearsAfter_21 rfl (by decide) ?_
  refine gq_callSe hX dX5_arrearsAfter_23 rfl vX5_57 (mt_btw _ _ _) rfl rfl (Nat.le_of_ble_eq_true rfl) ⟨(Nat.le_of_ble_eq_true rfl), (Nat.le_of_ble_eq_true rfl)⟩ (Nat.zero_add _) (Nat.zero_add _) ?_
  refine gq_if_neT (tgt := 35) hX dX5_arrearsAfter_26 rfl hF ?_
  refine gq_iconst (v := nI 0) hX dX5_arrearsAfter_35 rfl (by decide) ?_
  refine gq_istore_n hX dX5_arrearsAfter_36 rfl rfl (Nat.le_of_ble_eq_true rfl) rfl ?_
  have loop : ∀ n q : Nat, q + n = 91 → ∀ z : Value, Gq E X mX5_arrearsAfter Q 37 [.ref (b 0), .int (nI j), .int (nI h), .int (nI q), z] [] (MdW E b (setA (setS T 0 (nI 0)) 5 (itU (wOf S nc nt no) (T.2 5) q)) (wOf S nc nt no) M) 0 0 := by
    intro n
    induction n with
    | zero =>
      intro q hjq z
      refine gq_iload_n hX dX5_arrearsAfter_37 rfl rfl rfl ?_
      refine gq_bipush (v := nI 91) hX dX5_arrearsAfter_38 rfl (by decide) ?_
      refine gq_icmp_geT (tgt := 61) hX dX5_arrearsAfter_40 rfl (cT (rfl : nI 91 = nI 91) (by omega) (by omega)) ?_
      have ej : 91 = q := by omega
      subst ej
      refine gq_aload_n hX dX5_arrearsAfter_61 rfl rfl rfl ?_
      refine gq_iload_n hX dX5_arrearsAfter_62 rfl rfl rfl ?_
      refine gq_callVe hX dX5_arrearsAfter_63 rfl vX5_198 (mt_passes hb (T := (setA (setS T 0 (nI 0)) 5 (itU (wOf S nc nt no) (T.2 5) 91))) hwf hn hh) rfl (mqR0 hb) rfl rfl (Nat.le_of_ble_eq_true rfl) ⟨(Nat.le_of_ble_eq_true rfl), (Nat.le_of_ble_eq_true rfl)⟩ (Nat.zero_add _) (Nat.zero_add _) ?_
      refine gq_pop hX dX5_arrearsAfter_66 rfl rfl ?_
      refine gq_aload_n hX dX5_arrearsAfter_67 rfl rfl rfl ?_
      refine gq_iload_n hX dX5_arrearsAfter_68 rfl rfl rfl ?_
      refine gq_iconst (v := nI 1) hX dX5_arrearsAfter_69 rfl (by decide) ?_
      refine gq_callVe hX dX5_arrearsAfter_70 rfl vX5_65 (mt_of hb (c := j) (x := 1) (by omega) (by decide)) rfl (mqR0 hb) rfl rfl (Nat.le_of_ble_eq_true rfl) ⟨(Nat.le_of_ble_eq_true rfl), (Nat.le_of_ble_eq_true rfl)⟩ (Nat.zero_add _) (Nat.zero_add _) ?_
      rw [wC1 hncl hj]
      refine gq_istore_n hX dX5_arrearsAfter_73 rfl rfl (Nat.le_of_ble_eq_true rfl) rfl ?_
      refine gq_iconst (v := nI 0) hX dX5_arrearsAfter_74 rfl (by decide) ?_
      refine gq_istore hX dX5_arrearsAfter_75 rfl (Nat.le_of_ble_eq_true rfl) rfl ?_
      have loop2 : ∀ n2 i : Nat, i + n2 = 91 → Gq E X mX5_arrearsAfter Q 77 [.ref (b 0), .int (nI j), .int (nI h), .int ((pasS S nt nc h).1.2 2 j), .int (nI i)] [] (MdW E b (setA (setS T 0 (nI 0)) 5 (itU (wOf S nc nt no) (T.2 5) 91)) (itU (itU (wOf S nc nt no) (T.2 5) 91) (wOf (pasS S nt nc h).1 nc nt no) i) M) 0 0 := by
        intro n2
        induction n2 with
        | zero =>
          intro i hi2
          refine gq_iload hX dX5_arrearsAfter_77 rfl rfl ?_
          refine gq_bipush (v := nI 91) hX dX5_arrearsAfter_79 rfl (by decide) ?_
          refine gq_icmp_geT (tgt := 104) hX dX5_arrearsAfter_81 rfl (cT (rfl : nI 91 = nI 91) (by omega) (by omega)) ?_
          have ej : 91 = i := by omega
          subst ej
          refine gq_iload_n hX dX5_arrearsAfter_104 rfl rfl rfl ?_
          refine gq_iret hX hQ dX5_arrearsAfter_105 rfl ⟨rfl, congrArg (fun z => MdW E b (setA (setS T 0 (nI 0)) 5 (itU (wOf S nc nt no) (T.2 5) 91)) z M) ?_⟩
          funext q
          by_cases hq : q < 91
          · rw [itU_lt hq, itU_lt hq]
          · rw [show itU (itU (wOf S nc nt no) (T.2 5) 91) (wOf (pasS S nt nc h).1 nc nt no) 91 q = wOf (pasS S nt nc h).1 nc nt no q from if_neg hq, w_h (by omega), w_h (by omega)]
        | succ n2 ih2 =>
          intro i hi2
          refine gq_iload hX dX5_arrearsAfter_77 rfl rfl ?_
          refine gq_bipush (v := nI 91) hX dX5_arrearsAfter_79 rfl (by decide) ?_
          refine gq_icmp_geF (tgt := 104) hX dX5_arrearsAfter_81 rfl rfl (cF (rfl : nI 91 = nI 91) (by omega) (by omega)) ?_
          refine gq_aload_n hX dX5_arrearsAfter_84 rfl rfl rfl ?_
          refine gq_getf hX dX5_arrearsAfter_85 rfl fX5_7 (mqR0 hb) rfl ?_
          refine gq_iload hX dX5_arrearsAfter_88 rfl rfl ?_
          refine gq_aload_n hX dX5_arrearsAfter_90 rfl rfl rfl ?_
          refine gq_getf hX dX5_arrearsAfter_91 rfl fX5_22 (mqR0 hb) rfl ?_
          refine gq_iload hX dX5_arrearsAfter_94 rfl rfl ?_
          refine gq_ialdN hX dX5_arrearsAfter_96 rfl (mqR5 hb) rfl (by omega) (Nat.le_of_ble_eq_true rfl) ?_
          refine gq_iastN hX dX5_arrearsAfter_97 rfl (mqR1 hb) rfl (by omega) (Nat.le_of_ble_eq_true rfl) (hb.2 1 (by decide)) (mqW1 hb) ?_
          rw [show itU (itU (wOf S nc nt no) (T.2 5) 91) (wOf (pasS S nt nc h).1 nc nt no) i = itU (itU (wOf S nc nt no) (T.2 5) 91) (wOf (pasS S nt nc h).1 nc nt no) i from rfl, show (setA (setS T 0 (nI 0)) 5 (itU (wOf S nc nt no) (T.2 5) 91)).2 5 = itU (wOf S nc nt no) (T.2 5) 91 from setA_at _ _ _, itU_s]
          refine gq_iinc hX dX5_arrearsAfter_98 rfl rfl (inc1 _) (Nat.le_of_ble_eq_true rfl) rfl ?_
          refine gq_goto (tgt := 77) hX dX5_arrearsAfter_101 rfl ?_
          exact ih2 (i + 1) (by omega)
      refine gq_ls rfl rfl ?_ (loop2 91 0 (by omega))
      rw [itU_0]
    | succ n ih =>
      intro q hjq z
      refine gq_iload_n hX dX5_arrearsAfter_37 rfl rfl rfl ?_
      refine gq_bipush (v := nI 91) hX dX5_arrearsAfter_38 rfl (by decide) ?_
      refine gq_icmp_geF (tgt := 61) hX dX5_arrearsAfter_40 rfl rfl (cF (rfl : nI 91 = nI 91) (by omega) (by omega)) ?_
      refine gq_aload_n hX dX5_arrearsAfter_43 rfl rfl rfl ?_
      refine gq_getf hX dX5_arrearsAfter_44 rfl fX5_22 (mqR0 hb) rfl ?_
      refine gq_iload_n hX dX5_arrearsAfter_47 rfl rfl rfl ?_
      refine gq_aload_n hX dX5_arrearsAfter_48 rfl rfl rfl ?_
      refine gq_getf hX dX5_arrearsAfter_49 rfl fX5_7 (mqR0 hb) rfl ?_
      refine gq_iload_n hX dX5_arrearsAfter_52 rfl rfl rfl ?_
      refine gq_ialdN hX dX5_arrearsAfter_53 rfl (mqR1 hb) rfl (by omega) (Nat.le_of_ble_eq_true rfl) ?_
      refine gq_iastN hX dX5_arrearsAfter_54 rfl (mqR5 hb) rfl (by omega) (Nat.le_of_ble_eq_true rfl) (hb.2 5 (by decide)) (mqW5 hb) ?_
      rw [setA_2, setA_at, itU_s]
      refine gq_iinc hX dX5_arrearsAfter_55 rfl rfl (inc1 _) (Nat.le_of_ble_eq_true rfl) rfl ?_
      refine gq_goto (tgt := 37) hX dX5_arrearsAfter_58 rfl ?_
      exact ih (q + 1) (by omega) _
  refine gq_ls rfl rfl ?_ (loop 91 0 (by omega) _)
  rw [itU_0]
  exact congrArg (fun z => MdW E b z (wOf S nc nt no) M) (setA_id (S := setS T 0 (nI 0)))

set_option maxRecDepth 100000 in
set_option maxHeartbeats 4000000 in
theorem mr_rate_bad {E : Ev} {b : Nat → Nat} {T : St} {M : Hp} (hb : Lay E 9 b) {S : St} {nc nt no : Nat} (hwf : Wf S nc nt no) (c h : Int32) (hF : hasI nc c = 0) : Ct E mX5_arrearsAfterByRate [.ref (b 0), .int c, .int h] (MdW E b T (wOf S nc nt no) M) (eqR (some (.int (nI 0))) (MdW E b (setS T 0 (nI 1)) (wOf S nc nt no) M)) 0 0 := by
  refine Ct.of gmX5_arrearsAfterByRate (ls := [.ref (b 0), .int c, .int h]) rfl rfl (Nat.le_of_ble_eq_true rfl) ?_
  intro X hX Q hQ
  refine gq_aload_n hX dX5_arrearsAfterByRate_0 rfl rfl rfl ?_
  refine gq_iload_n hX dX5_arrearsAfterByRate_1 rfl rfl rfl ?_
  refine gq_iload_n hX dX5_arrearsAfterByRate_2 rfl rfl rfl ?_
  refine gq_callVe hX dX5_arrearsAfterByRate_3 rfl vX5_210 (mr_after_bad hb hwf _ _ hF) rfl (mqR0 hb) rfl rfl (Nat.le_of_ble_eq_true rfl) ⟨(Nat.le_of_ble_eq_true rfl), (Nat.le_of_ble_eq_true rfl)⟩ (Nat.zero_add _) (Nat.zero_add _) ?_
  exact gq_iret hX hQ dX5_arrearsAfterByRate_6 rfl ⟨rfl, rfl⟩

set_option maxRecDepth 100000 in
set_option maxHeartbeats 4000000 in
theorem mr_rate_bad2 {E : Ev} {b : Nat → Nat} {T : St} {M : Hp} (hb : Lay E 9 b) {S : St} {nc nt no : Nat} (hwf : Wf S nc nt no) {j : Nat} (hj : j < nc) (h : Int32) (hF : btw h (nI 0) (nI 24) = 0) : Ct E mX5_arrearsAfterByRate [.ref (b 0), .int (nI j), .int h] (MdW E b T (wOf S nc nt no) M) (eqR (some (.int (nI 0))) (MdW E b (setS T 0 (nI 2)) (wOf S nc nt no) M)) 0 0 := by
  refine Ct.of gmX5_arrearsAfterByRate (ls := [.ref (b 0), .int (nI j), .int h]) rfl rfl (Nat.le_of_ble_eq_true rfl) ?_
  intro X hX Q hQ
  refine gq_aload_n hX dX5_arrearsAfterByRate_0 rfl rfl rfl ?_
  refine gq_iload_n hX dX5_arrearsAfterByRate_1 rfl rfl rfl ?_
  refine gq_iload_n hX dX5_arrearsAfterByRate_2 rfl rfl rfl ?_
  refine gq_callVe hX dX5_arrearsAfterByRate_3 rfl vX5_210 (mr_after_bad2 hb hwf hj _ hF) rfl (mqR0 hb) rfl rfl (Nat.le_of_ble_eq_true rfl) ⟨(Nat.le_of_ble_eq_true rfl), (Nat.le_of_ble_eq_true rfl)⟩ (Nat.zero_add _) (Nat.zero_add _) ?_
  exact gq_iret hX hQ dX5_arrearsAfterByRate_6 rfl ⟨rfl, rfl⟩

set_option maxRecDepth 100000 in
set_option maxHeartbeats 4000000 in
theorem mr_rate_ok {E : Ev} {b : Nat → Nat} {T : St} {M : Hp} (hb : Lay E 9 b) {S : St} {nc nt no : Nat} (hwf : Wf S nc nt no) (hn : Nar S) {j : Nat} (hj : j < nc) {h : Nat} (hh : h < 1000) (hF : ¬ btw (nI h) (nI 0) (nI 24) = 0) : Ct E mX5_arrearsAfterByRate [.ref (b 0), .int (nI j), .int (nI h)] (MdW E b T (wOf S nc nt no) M) (eqR (some (.int ((pasS S nt nc h).1.2 2 j))) (MdW E b (setA (setS T 0 (nI 0)) 5 (itU (wOf S nc nt no) (T.2 5) 91)) (wOf S nc nt no) M)) 0 0 := by
  refine Ct.of gmX5_arrearsAfterByRate (ls := [.ref (b 0), .int (nI j), .int (nI h)]) rfl rfl (Nat.le_of_ble_eq_true rfl) ?_
  intro X hX Q hQ
  refine gq_aload_n hX dX5_arrearsAfterByRate_0 rfl rfl rfl ?_
  refine gq_iload_n hX dX5_arrearsAfterByRate_1 rfl rfl rfl ?_
  refine gq_iload_n hX dX5_arrearsAfterByRate_2 rfl rfl rfl ?_
  refine gq_callVe hX dX5_arrearsAfterByRate_3 rfl vX5_210 (mr_after_ok hb hwf hn hj hh hF) rfl (mqR0 hb) rfl rfl (Nat.le_of_ble_eq_true rfl) ⟨(Nat.le_of_ble_eq_true rfl), (Nat.le_of_ble_eq_true rfl)⟩ (Nat.zero_add _) (Nat.zero_add _) ?_
  exact gq_iret hX hQ dX5_arrearsAfterByRate_6 rfl ⟨rfl, rfl⟩

set_option maxRecDepth 100000 in
set_option maxHeartbeats 4000000 in
theorem mr_committeeCount {E : Ev} {b : Nat → Nat} {T : St} {M : Hp} (hb : Lay E 9 b) {S : St} {nc nt no : Nat} : Ct E mX5_committeeCount [.ref (b 0)] (MdW E b T (wOf S nc nt no) M) (eqR (some (.int (S.1 0))) (MdW E b (setS T 0 (nI 0)) (wOf S nc nt no) M)) 0 0 := by
  refine Ct.of gmX5_committeeCount (ls := [.ref (b 0)]) rfl rfl (Nat.le_of_ble_eq_true rfl) ?_
  intro X hX Q hQ
  refine gq_aload_n hX dX5_committeeCount_0 rfl rfl rfl ?_
  refine gq_iconst (v := nI 0) hX dX5_committeeCount_1 rfl (by decide) ?_
  refine gq_putf hX dX5_committeeCount_2 rfl fX5_42 rfl rfl rfl (mqR0 hb) (Nat.le_of_ble_eq_true rfl) (hb.2 0 (by decide)) (mqW0_0 hb) ?_
  refine gq_aload_n hX dX5_committeeCount_5 rfl rfl rfl ?_
  refine gq_getf hX dX5_committeeCount_6 rfl fX5_7 (mqR0 hb) rfl ?_
  refine gq_iconst (v := nI 0) hX dX5_committeeCount_9 rfl (by decide) ?_
  refine gq_ialdN hX dX5_committeeCount_10 rfl (mqR1 hb) rfl (by omega) (Nat.le_of_ble_eq_true rfl) ?_
  rw [wS0]
  exact gq_iret hX hQ dX5_committeeCount_11 rfl ⟨rfl, rfl⟩

set_option maxRecDepth 100000 in
set_option maxHeartbeats 4000000 in
theorem mr_tailCount {E : Ev} {b : Nat → Nat} {T : St} {M : Hp} (hb : Lay E 9 b) {S : St} {nc nt no : Nat} : Ct E mX5_tailCount [.ref (b 0)] (MdW E b T (wOf S nc nt no) M) (eqR (some (.int (S.1 1))) (MdW E b (setS T 0 (nI 0)) (wOf S nc nt no) M)) 0 0 := by
  refine Ct.of gmX5_tailCount (ls := [.ref (b 0)]) rfl rfl (Nat.le_of_ble_eq_true rfl) ?_
  intro X hX Q hQ
  refine gq_aload_n hX dX5_tailCount_0 rfl rfl rfl ?_
  refine gq_iconst (v := nI 0) hX dX5_tailCount_1 rfl (by decide) ?_
  refine gq_putf hX dX5_tailCount_2 rfl fX5_42 rfl rfl rfl (mqR0 hb) (Nat.le_of_ble_eq_true rfl) (hb.2 0 (by decide)) (mqW0_0 hb) ?_
  refine gq_aload_n hX dX5_tailCount_5 rfl rfl rfl ?_
  refine gq_getf hX dX5_tailCount_6 rfl fX5_7 (mqR0 hb) rfl ?_
  refine gq_iconst (v := nI 1) hX dX5_tailCount_9 rfl (by decide) ?_
  refine gq_ialdN hX dX5_tailCount_10 rfl (mqR1 hb) rfl (by omega) (Nat.le_of_ble_eq_true rfl) ?_
  rw [wS1]
  exact gq_iret hX hQ dX5_tailCount_11 rfl ⟨rfl, rfl⟩

set_option maxRecDepth 100000 in
set_option maxHeartbeats 4000000 in
theorem mr_openMotions {E : Ev} {b : Nat → Nat} {T : St} {M : Hp} (hb : Lay E 9 b) {S : St} {nc nt no : Nat} : Ct E mX5_openMotions [.ref (b 0)] (MdW E b T (wOf S nc nt no) M) (eqR (some (.int (S.1 7))) (MdW E b (setS T 0 (nI 0)) (wOf S nc nt no) M)) 0 0 := by
  refine Ct.of gmX5_openMotions (ls := [.ref (b 0)]) rfl rfl (Nat.le_of_ble_eq_true rfl) ?_
  intro X hX Q hQ
  refine gq_aload_n hX dX5_openMotions_0 rfl rfl rfl ?_
  refine gq_iconst (v := nI 0) hX dX5_openMotions_1 rfl (by decide) ?_
  refine gq_putf hX dX5_openMotions_2 rfl fX5_42 rfl rfl rfl (mqR0 hb) (Nat.le_of_ble_eq_true rfl) (hb.2 0 (by decide)) (mqW0_0 hb) ?_
  refine gq_aload_n hX dX5_openMotions_5 rfl rfl rfl ?_
  refine gq_getf hX dX5_openMotions_6 rfl fX5_7 (mqR0 hb) rfl ?_
  refine gq_iconst (v := nI 2) hX dX5_openMotions_9 rfl (by decide) ?_
  refine gq_ialdN hX dX5_openMotions_10 rfl (mqR1 hb) rfl (by omega) (Nat.le_of_ble_eq_true rfl) ?_
  rw [wS2]
  exact gq_iret hX hQ dX5_openMotions_11 rfl ⟨rfl, rfl⟩

set_option maxRecDepth 100000 in
set_option maxHeartbeats 4000000 in
theorem mr_hour {E : Ev} {b : Nat → Nat} {T : St} {M : Hp} (hb : Lay E 9 b) {S : St} {nc nt no : Nat} : Ct E mX5_hour [.ref (b 0)] (MdW E b T (wOf S nc nt no) M) (eqR (some (.int (S.1 2))) (MdW E b (setS T 0 (nI 0)) (wOf S nc nt no) M)) 0 0 := by
  refine Ct.of gmX5_hour (ls := [.ref (b 0)]) rfl rfl (Nat.le_of_ble_eq_true rfl) ?_
  intro X hX Q hQ
  refine gq_aload_n hX dX5_hour_0 rfl rfl rfl ?_
  refine gq_iconst (v := nI 0) hX dX5_hour_1 rfl (by decide) ?_
  refine gq_putf hX dX5_hour_2 rfl fX5_42 rfl rfl rfl (mqR0 hb) (Nat.le_of_ble_eq_true rfl) (hb.2 0 (by decide)) (mqW0_0 hb) ?_
  refine gq_aload_n hX dX5_hour_5 rfl rfl rfl ?_
  refine gq_getf hX dX5_hour_6 rfl fX5_7 (mqR0 hb) rfl ?_
  refine gq_iconst (v := nI 4) hX dX5_hour_9 rfl (by decide) ?_
  refine gq_ialdN hX dX5_hour_10 rfl (mqR1 hb) rfl (by omega) (Nat.le_of_ble_eq_true rfl) ?_
  rw [wS4]
  exact gq_iret hX hQ dX5_hour_11 rfl ⟨rfl, rfl⟩

set_option maxRecDepth 100000 in
set_option maxHeartbeats 4000000 in
theorem mr_carriedCount {E : Ev} {b : Nat → Nat} {T : St} {M : Hp} (hb : Lay E 9 b) {S : St} {nc nt no : Nat} : Ct E mX5_carriedCount [.ref (b 0)] (MdW E b T (wOf S nc nt no) M) (eqR (some (.int (S.1 3))) (MdW E b (setS T 0 (nI 0)) (wOf S nc nt no) M)) 0 0 := by
  refine Ct.of gmX5_carriedCount (ls := [.ref (b 0)]) rfl rfl (Nat.le_of_ble_eq_true rfl) ?_
  intro X hX Q hQ
  refine gq_aload_n hX dX5_carriedCount_0 rfl rfl rfl ?_
  refine gq_iconst (v := nI 0) hX dX5_carriedCount_1 rfl (by decide) ?_
  refine gq_putf hX dX5_carriedCount_2 rfl fX5_42 rfl rfl rfl (mqR0 hb) (Nat.le_of_ble_eq_true rfl) (hb.2 0 (by decide)) (mqW0_0 hb) ?_
  refine gq_aload_n hX dX5_carriedCount_5 rfl rfl rfl ?_
  refine gq_getf hX dX5_carriedCount_6 rfl fX5_7 (mqR0 hb) rfl ?_
  refine gq_iconst (v := nI 5) hX dX5_carriedCount_9 rfl (by decide) ?_
  refine gq_ialdN hX dX5_carriedCount_10 rfl (mqR1 hb) rfl (by omega) (Nat.le_of_ble_eq_true rfl) ?_
  rw [wS5]
  exact gq_iret hX hQ dX5_carriedCount_11 rfl ⟨rfl, rfl⟩

set_option maxRecDepth 100000 in
set_option maxHeartbeats 4000000 in
theorem mr_lostCount {E : Ev} {b : Nat → Nat} {T : St} {M : Hp} (hb : Lay E 9 b) {S : St} {nc nt no : Nat} : Ct E mX5_lostCount [.ref (b 0)] (MdW E b T (wOf S nc nt no) M) (eqR (some (.int (S.1 4))) (MdW E b (setS T 0 (nI 0)) (wOf S nc nt no) M)) 0 0 := by
  refine Ct.of gmX5_lostCount (ls := [.ref (b 0)]) rfl rfl (Nat.le_of_ble_eq_true rfl) ?_
  intro X hX Q hQ
  refine gq_aload_n hX dX5_lostCount_0 rfl rfl rfl ?_
  refine gq_iconst (v := nI 0) hX dX5_lostCount_1 rfl (by decide) ?_
  refine gq_putf hX dX5_lostCount_2 rfl fX5_42 rfl rfl rfl (mqR0 hb) (Nat.le_of_ble_eq_true rfl) (hb.2 0 (by decide)) (mqW0_0 hb) ?_
  refine gq_aload_n hX dX5_lostCount_5 rfl rfl rfl ?_
  refine gq_getf hX dX5_lostCount_6 rfl fX5_7 (mqR0 hb) rfl ?_
  refine gq_bipush (v := nI 6) hX dX5_lostCount_9 rfl (by decide) ?_
  refine gq_ialdN hX dX5_lostCount_11 rfl (mqR1 hb) rfl (by omega) (Nat.le_of_ble_eq_true rfl) ?_
  rw [wS6]
  exact gq_iret hX hQ dX5_lostCount_12 rfl ⟨rfl, rfl⟩

set_option maxRecDepth 100000 in
set_option maxHeartbeats 4000000 in
theorem mr_paidTotal {E : Ev} {b : Nat → Nat} {T : St} {M : Hp} (hb : Lay E 9 b) {S : St} {nc nt no : Nat} : Ct E mX5_paidTotal [.ref (b 0)] (MdW E b T (wOf S nc nt no) M) (eqR (some (.int (S.1 5))) (MdW E b (setS T 0 (nI 0)) (wOf S nc nt no) M)) 0 0 := by
  refine Ct.of gmX5_paidTotal (ls := [.ref (b 0)]) rfl rfl (Nat.le_of_ble_eq_true rfl) ?_
  intro X hX Q hQ
  refine gq_aload_n hX dX5_paidTotal_0 rfl rfl rfl ?_
  refine gq_iconst (v := nI 0) hX dX5_paidTotal_1 rfl (by decide) ?_
  refine gq_putf hX dX5_paidTotal_2 rfl fX5_42 rfl rfl rfl (mqR0 hb) (Nat.le_of_ble_eq_true rfl) (hb.2 0 (by decide)) (mqW0_0 hb) ?_
  refine gq_aload_n hX dX5_paidTotal_5 rfl rfl rfl ?_
  refine gq_getf hX dX5_paidTotal_6 rfl fX5_7 (mqR0 hb) rfl ?_
  refine gq_bipush (v := nI 7) hX dX5_paidTotal_9 rfl (by decide) ?_
  refine gq_ialdN hX dX5_paidTotal_11 rfl (mqR1 hb) rfl (by omega) (Nat.le_of_ble_eq_true rfl) ?_
  rw [wS7]
  exact gq_iret hX hQ dX5_paidTotal_12 rfl ⟨rfl, rfl⟩

set_option maxRecDepth 100000 in
set_option maxHeartbeats 4000000 in
theorem mr_chargedTotal {E : Ev} {b : Nat → Nat} {T : St} {M : Hp} (hb : Lay E 9 b) {S : St} {nc nt no : Nat} : Ct E mX5_chargedTotal [.ref (b 0)] (MdW E b T (wOf S nc nt no) M) (eqR (some (.int (S.1 6))) (MdW E b (setS T 0 (nI 0)) (wOf S nc nt no) M)) 0 0 := by
  refine Ct.of gmX5_chargedTotal (ls := [.ref (b 0)]) rfl rfl (Nat.le_of_ble_eq_true rfl) ?_
  intro X hX Q hQ
  refine gq_aload_n hX dX5_chargedTotal_0 rfl rfl rfl ?_
  refine gq_iconst (v := nI 0) hX dX5_chargedTotal_1 rfl (by decide) ?_
  refine gq_putf hX dX5_chargedTotal_2 rfl fX5_42 rfl rfl rfl (mqR0 hb) (Nat.le_of_ble_eq_true rfl) (hb.2 0 (by decide)) (mqW0_0 hb) ?_
  refine gq_aload_n hX dX5_chargedTotal_5 rfl rfl rfl ?_
  refine gq_getf hX dX5_chargedTotal_6 rfl fX5_7 (mqR0 hb) rfl ?_
  refine gq_bipush (v := nI 8) hX dX5_chargedTotal_9 rfl (by decide) ?_
  refine gq_ialdN hX dX5_chargedTotal_11 rfl (mqR1 hb) rfl (by omega) (Nat.le_of_ble_eq_true rfl) ?_
  rw [wS8]
  exact gq_iret hX hQ dX5_chargedTotal_12 rfl ⟨rfl, rfl⟩

theorem sub_0 {x y : Int32} : x - y = 0 ↔ x = y := by
  constructor
  · intro h
    have h2 := congrArg (· + y) h
    simpa [Int32.sub_add_cancel] using h2
  · intro h
    rw [h]
    exact Int32.sub_self y
theorem sub_le {a c : Nat} (ha : a < 2 ^ 30) (hc : c < 2 ^ 30) : nI a - nI c ≤ 0 ↔ nI a ≤ nI c := by
  have e0 : (0 : Int32).toInt = 0 := rfl
  rw [Int32.le_iff_toInt_le, pk_sub_toInt ha hc, e0, Int32.le_iff_toInt_le, nI_toInt (by omega), nI_toInt (by omega)]
  omega
/-- numbers of committees: small naturals -/
def SmC (S : St) (nc : Nat) : Prop := ∀ c, c < nc → (∃ m, m < 2 ^ 30 ∧ S.2 1 c = nI m) ∧ ∃ a, a < 2 ^ 30 ∧ S.2 2 c = nI a
set_option maxRecDepth 100000 in
set_option maxHeartbeats 4000000 in
theorem mt_isAhead {E : Ev} {b : Nat → Nat} {T : St} {M : Hp} (hb : Lay E 9 b) {S : St} {nc nt no : Nat} (hwf : Wf S nc nt no) (hsm : SmC S nc) {x y : Nat} (hx : x < nc) (hy : y < nc) : Ct E mX5_isAhead [.ref (b 0), .int (nI x), .int (nI y)] (MdW E b T (wOf S nc nt no) M) (eqR (some (.int (aheadI S x y))) (MdW E b T (wOf S nc nt no) M)) 0 0 := by
  refine Ct.of gmX5_isAhead (ls := [.ref (b 0), .int (nI x), .int (nI y), hole, hole]) rfl rfl (Nat.le_of_ble_eq_true rfl) ?_
  intro X hX Q hQ
  have hwf2 := hwf
  obtain ⟨hnc, hncl, hnt, hntl, hno, hnol⟩ := hwf2
  have hw0 : wOf S nc nt no 0 = nI nc := hnc
  have hw1 : wOf S nc nt no 1 = nI nt := hnt
  have hw2 : wOf S nc nt no 2 = nI no := hno
  obtain ⟨⟨m1, hm1, em1⟩, a1, ha1, ea1⟩ := hsm x hx
  obtain ⟨⟨m2, hm2, em2⟩, a2, ha2, ea2⟩ := hsm y hy
  have hA : S.2 2 x - S.2 2 y ≤ 0 ↔ S.2 2 x ≤ S.2 2 y := by rw [ea1, ea2]; exact sub_le ha1 ha2
  have hM : S.2 1 x - S.2 1 y ≤ 0 ↔ S.2 1 x ≤ S.2 1 y := by rw [em1, em2]; exact sub_le hm1 hm2
  have hA0 := @sub_0 (S.2 2 x) (S.2 2 y)
  have hM0 := @sub_0 (S.2 1 x) (S.2 1 y)
  clear em1 em2 ea1 ea2
  refine gq_aload_n hX dX5_isAhead_0 rfl rfl rfl ?_
  refine gq_iload_n hX dX5_isAhead_1 rfl rfl rfl ?_
  refine gq_iconst (v := nI 1) hX dX5_isAhead_2 rfl (by decide) ?_
  refine gq_callVe hX dX5_isAhead_3 rfl vX5_65 (mt_of hb (c := x) (x := 1) (by omega) (by decide)) rfl (mqR0 hb) rfl rfl (Nat.le_of_ble_eq_true rfl) ⟨(Nat.le_of_ble_eq_true rfl), (Nat.le_of_ble_eq_true rfl)⟩ (Nat.zero_add _) (Nat.zero_add _) ?_
  rw [wC1 hncl hx]
  refine gq_aload_n hX dX5_isAhead_6 rfl rfl rfl ?_
  refine gq_iload_n hX dX5_isAhead_7 rfl rfl rfl ?_
  refine gq_iconst (v := nI 1) hX dX5_isAhead_8 rfl (by decide) ?_
  refine gq_callVe hX dX5_isAhead_9 rfl vX5_65 (mt_of hb (c := y) (x := 1) (by omega) (by decide)) rfl (mqR0 hb) rfl rfl (Nat.le_of_ble_eq_true rfl) ⟨(Nat.le_of_ble_eq_true rfl), (Nat.le_of_ble_eq_true rfl)⟩ (Nat.zero_add _) (Nat.zero_add _) ?_
  rw [wC1 hncl hy]
  refine gq_isub hX dX5_isAhead_12 rfl ?_
  refine gq_istore_n hX dX5_isAhead_13 rfl rfl (Nat.le_of_ble_eq_true rfl) rfl ?_
  refine gq_aload_n hX dX5_isAhead_14 rfl rfl rfl ?_
  refine gq_iload_n hX dX5_isAhead_15 rfl rfl rfl ?_
  refine gq_iconst (v := nI 0) hX dX5_isAhead_16 rfl (by decide) ?_
  refine gq_callVe hX dX5_isAhead_17 rfl vX5_65 (mt_of hb (c := x) (x := 0) (by omega) (by decide)) rfl (mqR0 hb) rfl rfl (Nat.le_of_ble_eq_true rfl) ⟨(Nat.le_of_ble_eq_true rfl), (Nat.le_of_ble_eq_true rfl)⟩ (Nat.zero_add _) (Nat.zero_add _) ?_
  rw [wC0 hncl hx]
  refine gq_aload_n hX dX5_isAhead_20 rfl rfl rfl ?_
  refine gq_iload_n hX dX5_isAhead_21 rfl rfl rfl ?_
  refine gq_iconst (v := nI 0) hX dX5_isAhead_22 rfl (by decide) ?_
  refine gq_callVe hX dX5_isAhead_23 rfl vX5_65 (mt_of hb (c := y) (x := 0) (by omega) (by decide)) rfl (mqR0 hb) rfl rfl (Nat.le_of_ble_eq_true rfl) ⟨(Nat.le_of_ble_eq_true rfl), (Nat.le_of_ble_eq_true rfl)⟩ (Nat.zero_add _) (Nat.zero_add _) ?_
  rw [wC0 hncl hy]
  refine gq_isub hX dX5_isAhead_26 rfl ?_
  refine gq_istore hX dX5_isAhead_27 rfl (Nat.le_of_ble_eq_true rfl) rfl ?_
  refine gq_iload_n hX dX5_isAhead_29 rfl rfl rfl ?_
  refine gq_if_eq (tgt := 43) hX dX5_isAhead_30 rfl rfl (fun c30 => ?_) (fun c30 => ?_)
  · refine gq_iload hX dX5_isAhead_43 rfl rfl ?_
    refine gq_if_eq (tgt := 61) hX dX5_isAhead_45 rfl rfl (fun c45 => ?_) (fun c45 => ?_)
    · refine gq_iload_n hX dX5_isAhead_61 rfl rfl rfl ?_
      refine gq_iload_n hX dX5_isAhead_62 rfl rfl rfl ?_
      refine gq_icmp_ge (tgt := 70) hX dX5_isAhead_63 rfl rfl (fun c63 => ?_) (fun c63 => ?_)
      · refine gq_iconst (v := nI 0) hX dX5_isAhead_70 rfl (by decide) ?_
        exact gq_zret hX hQ dX5_isAhead_71 rfl rfl ⟨congrArg (fun z => some (Value.int z)) (by clear hQ hX; first | (simp [aheadI, *]; done) | (simp_all [aheadI]; done) | (simp_all [aheadI]; intro h; exact absurd h (i32_le.mpr (by assumption)))), rfl⟩
      · refine gq_iconst (v := nI 1) hX dX5_isAhead_66 rfl (by decide) ?_
        refine gq_goto (tgt := 71) hX dX5_isAhead_67 rfl ?_
        exact gq_zret hX hQ dX5_isAhead_71 rfl rfl ⟨congrArg (fun z => some (Value.int z)) (by clear hQ hX; first | (simp [aheadI, *]; done) | (simp_all [aheadI]; done) | (simp_all [aheadI]; intro h; exact absurd h (i32_le.mpr (by assumption)))), rfl⟩
    · refine gq_iload hX dX5_isAhead_48 rfl rfl ?_
      refine gq_if_le (tgt := 57) hX dX5_isAhead_50 rfl rfl (fun c50 => ?_) (fun c50 => ?_)
      · refine gq_iconst (v := nI 0) hX dX5_isAhead_57 rfl (by decide) ?_
        refine gq_goto (tgt := 71) hX dX5_isAhead_58 rfl ?_
        exact gq_zret hX hQ dX5_isAhead_71 rfl rfl ⟨congrArg (fun z => some (Value.int z)) (by clear hQ hX; first | (simp [aheadI, *]; done) | (simp_all [aheadI]; done) | (simp_all [aheadI]; intro h; exact absurd h (i32_le.mpr (by assumption)))), rfl⟩
      · refine gq_iconst (v := nI 1) hX dX5_isAhead_53 rfl (by decide) ?_
        refine gq_goto (tgt := 71) hX dX5_isAhead_54 rfl ?_
        exact gq_zret hX hQ dX5_isAhead_71 rfl rfl ⟨congrArg (fun z => some (Value.int z)) (by clear hQ hX; first | (simp [aheadI, *]; done) | (simp_all [aheadI]; done) | (simp_all [aheadI]; intro h; exact absurd h (i32_le.mpr (by assumption)))), rfl⟩
  · refine gq_iload_n hX dX5_isAhead_33 rfl rfl rfl ?_
    refine gq_if_le (tgt := 41) hX dX5_isAhead_34 rfl rfl (fun c34 => ?_) (fun c34 => ?_)
    · refine gq_iconst (v := nI 0) hX dX5_isAhead_41 rfl (by decide) ?_
      exact gq_zret hX hQ dX5_isAhead_42 rfl rfl ⟨congrArg (fun z => some (Value.int z)) (by clear hQ hX; first | (simp [aheadI, *]; done) | (simp_all [aheadI]; done) | (simp_all [aheadI]; intro h; exact absurd h (i32_le.mpr (by assumption)))), rfl⟩
    · refine gq_iconst (v := nI 1) hX dX5_isAhead_37 rfl (by decide) ?_
      refine gq_goto (tgt := 42) hX dX5_isAhead_38 rfl ?_
      exact gq_zret hX hQ dX5_isAhead_42 rfl rfl ⟨congrArg (fun z => some (Value.int z)) (by clear hQ hX; first | (simp [aheadI, *]; done) | (simp_all [aheadI]; done) | (simp_all [aheadI]; intro h; exact absurd h (i32_le.mpr (by assumption)))), rfl⟩

set_option maxRecDepth 100000 in
set_option maxHeartbeats 4000000 in
theorem mr_rank {E : Ev} {b : Nat → Nat} {T : St} {M : Hp} (hb : Lay E 9 b) {S : St} {nc nt no : Nat} (hwf : Wf S nc nt no) (hsm : SmC S nc) (r : Int32) : Ct E mX5_committeeAtRank [.ref (b 0), .int r] (MdW E b T (wOf S nc nt no) M) (eqR (some (.int (shoV (rankO S nc r)))) (MdW E b (setS T 0 (shoT (rankO S nc r))) (wOf S nc nt no) M)) 0 0 := by
  refine Ct.of gmX5_committeeAtRank (ls := [.ref (b 0), .int r, hole, hole, hole]) rfl rfl (Nat.le_of_ble_eq_true rfl) ?_
  intro X hX Q hQ
  have hwf2 := hwf
  obtain ⟨hnc, hncl, hnt, hntl, hno, hnol⟩ := hwf2
  have hw0 : wOf S nc nt no 0 = nI nc := hnc
  have hw1 : wOf S nc nt no 1 = nI nt := hnt
  have hw2 : wOf S nc nt no 2 = nI no := hno
  refine gq_aload_n hX dX5_committeeAtRank_0 rfl rfl rfl ?_
  refine gq_iconst (v := nI 0) hX dX5_committeeAtRank_1 rfl (by decide) ?_
  refine gq_putf hX dX5_committeeAtRank_2 rfl fX5_42 rfl rfl rfl (mqR0 hb) (Nat.le_of_ble_eq_true rfl) (hb.2 0 (by decide)) (mqW0_0 hb) ?_
  refine gq_iconst (v := nI 0) hX dX5_committeeAtRank_5 rfl (by decide) ?_
  refine gq_istore_n hX dX5_committeeAtRank_6 rfl rfl (Nat.le_of_ble_eq_true rfl) rfl ?_
  have loop : ∀ n j : Nat, j + n = nc → ∀ z1 z2 : Value, firstI (fun j => decide (rankI S nc j = r)) n j = rankO S nc r → Gq E X mX5_committeeAtRank Q 7 [.ref (b 0), .int r, .int (nI j), z1, z2] [] (MdW E b (setS T 0 (nI 0)) (wOf S nc nt no) M) 0 0 := by
    intro n
    induction n with
    | zero =>
      intro j hj z1 z2 hf
      refine gq_iload_n hX dX5_committeeAtRank_7 rfl rfl rfl ?_
      refine gq_aload_n hX dX5_committeeAtRank_8 rfl rfl rfl ?_
      refine gq_getf hX dX5_committeeAtRank_9 rfl fX5_7 (mqR0 hb) rfl ?_
      refine gq_iconst (v := nI 0) hX dX5_committeeAtRank_12 rfl (by decide) ?_
      refine gq_ialdN hX dX5_committeeAtRank_13 rfl (mqR1 hb) rfl (by omega) (Nat.le_of_ble_eq_true rfl) ?_
      refine gq_icmp_geT (tgt := 70) hX dX5_committeeAtRank_14 rfl (cT hw0 (by omega) (by omega)) ?_
      have ej : nc = j := by omega
      subst ej
      refine gq_aload_n hX dX5_committeeAtRank_70 rfl rfl rfl ?_
      refine gq_iconst (v := nI 1) hX dX5_committeeAtRank_71 rfl (by decide) ?_
      refine gq_callVe hX dX5_committeeAtRank_72 rfl vX5_79 (mt_fails hb _) rfl (mqR0 hb) rfl rfl (Nat.le_of_ble_eq_true rfl) ⟨(Nat.le_of_ble_eq_true rfl), (Nat.le_of_ble_eq_true rfl)⟩ (Nat.zero_add _) (Nat.zero_add _) ?_
      have hf2 : rankO S nc r = none := by rw [← hf]; rfl
      exact gq_iret hX hQ dX5_committeeAtRank_75 rfl ⟨by rw [hf2]; rfl, by rw [hf2, setS_2]; rfl⟩
    | succ n ih =>
      intro j hj z1 z2 hf
      refine gq_iload_n hX dX5_committeeAtRank_7 rfl rfl rfl ?_
      refine gq_aload_n hX dX5_committeeAtRank_8 rfl rfl rfl ?_
      refine gq_getf hX dX5_committeeAtRank_9 rfl fX5_7 (mqR0 hb) rfl ?_
      refine gq_iconst (v := nI 0) hX dX5_committeeAtRank_12 rfl (by decide) ?_
      refine gq_ialdN hX dX5_committeeAtRank_13 rfl (mqR1 hb) rfl (by omega) (Nat.le_of_ble_eq_true rfl) ?_
      refine gq_icmp_geF (tgt := 70) hX dX5_committeeAtRank_14 rfl rfl (cF hw0 (by omega) (by omega)) ?_
      refine gq_iconst (v := nI 0) hX dX5_committeeAtRank_17 rfl (by decide) ?_
      refine gq_istore_n hX dX5_committeeAtRank_18 rfl rfl (Nat.le_of_ble_eq_true rfl) rfl ?_
      refine gq_iconst (v := nI 0) hX dX5_committeeAtRank_19 rfl (by decide) ?_
      refine gq_istore hX dX5_committeeAtRank_20 rfl (Nat.le_of_ble_eq_true rfl) rfl ?_
      have loop2 : ∀ n2 i : Nat, i + n2 = nc → Gq E X mX5_committeeAtRank Q 22 [.ref (b 0), .int r, .int (nI j), .int (it (fun i s => if aheadI S i j = 0 then s else s + nI 1) (nI 0) i), .int (nI i)] [] (MdW E b (setS T 0 (nI 0)) (wOf S nc nt no) M) 0 0 := by
        intro n2
        induction n2 with
        | zero =>
          intro i hi2
          refine gq_iload hX dX5_committeeAtRank_22 rfl rfl ?_
          refine gq_aload_n hX dX5_committeeAtRank_24 rfl rfl rfl ?_
          refine gq_getf hX dX5_committeeAtRank_25 rfl fX5_7 (mqR0 hb) rfl ?_
          refine gq_iconst (v := nI 0) hX dX5_committeeAtRank_28 rfl (by decide) ?_
          refine gq_ialdN hX dX5_committeeAtRank_29 rfl (mqR1 hb) rfl (by omega) (Nat.le_of_ble_eq_true rfl) ?_
          refine gq_icmp_geT (tgt := 57) hX dX5_committeeAtRank_30 rfl (cT hw0 (by omega) (by omega)) ?_
          have ej : nc = i := by omega
          subst ej
          refine gq_iload_n hX dX5_committeeAtRank_57 rfl rfl rfl ?_
          refine gq_iload_n hX dX5_committeeAtRank_58 rfl rfl rfl ?_
          refine gq_icmp_ne (tgt := 64) hX dX5_committeeAtRank_59 rfl rfl (fun c59 => ?_) (fun c59 => ?_)
          · refine gq_iinc hX dX5_committeeAtRank_64 rfl rfl (inc1 _) (Nat.le_of_ble_eq_true rfl) rfl ?_
            refine gq_goto (tgt := 7) hX dX5_committeeAtRank_67 rfl ?_
            have hf2 : firstI (fun j => decide (rankI S nc j = r)) n (j + 1) = rankO S nc r := by
              rw [← hf, firstI, if_neg (by simpa using (show ¬ rankI S nc j = r from c59))]
            exact ih (j + 1) (by omega) _ _ hf2
          · refine gq_iload_n hX dX5_committeeAtRank_62 rfl rfl rfl ?_
            have hf2 : rankO S nc r = some j := by
              rw [← hf, firstI, if_pos (by simpa using (show rankI S nc j = r from c59))]
            exact gq_iret hX hQ dX5_committeeAtRank_63 rfl ⟨by rw [hf2]; rfl, by rw [hf2]; rfl⟩
        | succ n2 ih2 =>
          intro i hi2
          refine gq_iload hX dX5_committeeAtRank_22 rfl rfl ?_
          refine gq_aload_n hX dX5_committeeAtRank_24 rfl rfl rfl ?_
          refine gq_getf hX dX5_committeeAtRank_25 rfl fX5_7 (mqR0 hb) rfl ?_
          refine gq_iconst (v := nI 0) hX dX5_committeeAtRank_28 rfl (by decide) ?_
          refine gq_ialdN hX dX5_committeeAtRank_29 rfl (mqR1 hb) rfl (by omega) (Nat.le_of_ble_eq_true rfl) ?_
          refine gq_icmp_geF (tgt := 57) hX dX5_committeeAtRank_30 rfl rfl (cF hw0 (by omega) (by omega)) ?_
          refine gq_iload_n hX dX5_committeeAtRank_33 rfl rfl rfl ?_
          refine gq_aload_n hX dX5_committeeAtRank_34 rfl rfl rfl ?_
          refine gq_iload hX dX5_committeeAtRank_35 rfl rfl ?_
          refine gq_iload_n hX dX5_committeeAtRank_37 rfl rfl rfl ?_
          refine gq_callVe hX dX5_committeeAtRank_38 rfl vX5_213 (mt_isAhead hb hwf hsm (by omega) (by omega)) rfl (mqR0 hb) rfl rfl (Nat.le_of_ble_eq_true rfl) ⟨(Nat.le_of_ble_eq_true rfl), (Nat.le_of_ble_eq_true rfl)⟩ (Nat.zero_add _) (Nat.zero_add _) ?_
          refine gq_if_eq (tgt := 48) hX dX5_committeeAtRank_41 rfl rfl (fun c9 => ?_) (fun c9 => ?_)
          · refine gq_iconst (v := nI 0) hX dX5_committeeAtRank_48 rfl (by decide) ?_
            refine gq_iadd hX dX5_committeeAtRank_49 rfl ?_
            refine gq_istore_n hX dX5_committeeAtRank_50 rfl rfl (Nat.le_of_ble_eq_true rfl) rfl ?_
            refine gq_iinc hX dX5_committeeAtRank_51 rfl rfl (inc1 _) (Nat.le_of_ble_eq_true rfl) rfl ?_
            refine gq_goto (tgt := 22) hX dX5_committeeAtRank_54 rfl ?_
            exact gq_ls (by rw [show it (fun i s => if aheadI S i j = 0 then s else s + nI 1) (nI 0) (i + 1) = it (fun i s => if aheadI S i j = 0 then s else s + nI 1) (nI 0) i from if_pos c9, show it (fun i s => if aheadI S i j = 0 then s else s + nI 1) (nI 0) i + nI 0 = it (fun i s => if aheadI S i j = 0 then s else s + nI 1) (nI 0) i from Int32.add_zero _]; rfl) rfl rfl (ih2 (i + 1) (by omega))
          · refine gq_iconst (v := nI 1) hX dX5_committeeAtRank_44 rfl (by decide) ?_
            refine gq_goto (tgt := 49) hX dX5_committeeAtRank_45 rfl ?_
            refine gq_iadd hX dX5_committeeAtRank_49 rfl ?_
            refine gq_istore_n hX dX5_committeeAtRank_50 rfl rfl (Nat.le_of_ble_eq_true rfl) rfl ?_
            refine gq_iinc hX dX5_committeeAtRank_51 rfl rfl (inc1 _) (Nat.le_of_ble_eq_true rfl) rfl ?_
            refine gq_goto (tgt := 22) hX dX5_committeeAtRank_54 rfl ?_
            exact gq_ls (by rw [show it (fun i s => if aheadI S i j = 0 then s else s + nI 1) (nI 0) (i + 1) = it (fun i s => if aheadI S i j = 0 then s else s + nI 1) (nI 0) i + nI 1 from if_neg c9]; rfl) rfl rfl (ih2 (i + 1) (by omega))
      exact loop2 nc 0 (by omega)
  exact loop nc 0 (by omega) _ _ rfl

set_option maxRecDepth 100000 in
set_option maxHeartbeats 4000000 in
theorem mt_arrAll {E : Ev} {b : Nat → Nat} {T : St} {M : Hp} (hb : Lay E 9 b) {S : St} {nc nt no : Nat} (hwf : Wf S nc nt no) : Ct E mX5_arrearsAll [.ref (b 0)] (MdW E b T (wOf S nc nt no) M) (eqR (some (.int (arrSum S nc))) (MdW E b T (wOf S nc nt no) M)) 0 0 := by
  refine Ct.of gmX5_arrearsAll (ls := [.ref (b 0), hole, hole]) rfl rfl (Nat.le_of_ble_eq_true rfl) ?_
  intro X hX Q hQ
  have hwf2 := hwf
  obtain ⟨hnc, hncl, hnt, hntl, hno, hnol⟩ := hwf2
  have hw0 : wOf S nc nt no 0 = nI nc := hnc
  have hw1 : wOf S nc nt no 1 = nI nt := hnt
  have hw2 : wOf S nc nt no 2 = nI no := hno
  refine gq_iconst (v := nI 0) hX dX5_arrearsAll_0 rfl (by decide) ?_
  refine gq_istore_n hX dX5_arrearsAll_1 rfl rfl (Nat.le_of_ble_eq_true rfl) rfl ?_
  refine gq_iconst (v := nI 0) hX dX5_arrearsAll_2 rfl (by decide) ?_
  refine gq_istore_n hX dX5_arrearsAll_3 rfl rfl (Nat.le_of_ble_eq_true rfl) rfl ?_
  have loop : ∀ n j : Nat, j + n = nc → Gq E X mX5_arrearsAll Q 4 [.ref (b 0), .int (it (fun j s => s + S.2 2 j) (nI 0) j), .int (nI j)] [] (MdW E b T (wOf S nc nt no) M) 0 0 := by
    intro n
    induction n with
    | zero =>
      intro j hj
      refine gq_iload_n hX dX5_arrearsAll_4 rfl rfl rfl ?_
      refine gq_aload_n hX dX5_arrearsAll_5 rfl rfl rfl ?_
      refine gq_getf hX dX5_arrearsAll_6 rfl fX5_7 (mqR0 hb) rfl ?_
      refine gq_iconst (v := nI 0) hX dX5_arrearsAll_9 rfl (by decide) ?_
      refine gq_ialdN hX dX5_arrearsAll_10 rfl (mqR1 hb) rfl (by omega) (Nat.le_of_ble_eq_true rfl) ?_
      refine gq_icmp_geT (tgt := 29) hX dX5_arrearsAll_11 rfl (cT hw0 (by omega) (by omega)) ?_
      have ej : nc = j := by omega
      subst ej
      refine gq_iload_n hX dX5_arrearsAll_29 rfl rfl rfl ?_
      exact gq_iret hX hQ dX5_arrearsAll_30 rfl ⟨rfl, rfl⟩
    | succ n ih =>
      intro j hj
      refine gq_iload_n hX dX5_arrearsAll_4 rfl rfl rfl ?_
      refine gq_aload_n hX dX5_arrearsAll_5 rfl rfl rfl ?_
      refine gq_getf hX dX5_arrearsAll_6 rfl fX5_7 (mqR0 hb) rfl ?_
      refine gq_iconst (v := nI 0) hX dX5_arrearsAll_9 rfl (by decide) ?_
      refine gq_ialdN hX dX5_arrearsAll_10 rfl (mqR1 hb) rfl (by omega) (Nat.le_of_ble_eq_true rfl) ?_
      refine gq_icmp_geF (tgt := 29) hX dX5_arrearsAll_11 rfl rfl (cF hw0 (by omega) (by omega)) ?_
      refine gq_iload_n hX dX5_arrearsAll_14 rfl rfl rfl ?_
      refine gq_aload_n hX dX5_arrearsAll_15 rfl rfl rfl ?_
      refine gq_iload_n hX dX5_arrearsAll_16 rfl rfl rfl ?_
      refine gq_iconst (v := nI 1) hX dX5_arrearsAll_17 rfl (by decide) ?_
      refine gq_callVe hX dX5_arrearsAll_18 rfl vX5_65 (mt_of hb (c := j) (x := 1) (by omega) (by decide)) rfl (mqR0 hb) rfl rfl (Nat.le_of_ble_eq_true rfl) ⟨(Nat.le_of_ble_eq_true rfl), (Nat.le_of_ble_eq_true rfl)⟩ (Nat.zero_add _) (Nat.zero_add _) ?_
      rw [wC1 hncl (by omega)]
      refine gq_iadd hX dX5_arrearsAll_21 rfl ?_
      refine gq_istore_n hX dX5_arrearsAll_22 rfl rfl (Nat.le_of_ble_eq_true rfl) rfl ?_
      refine gq_iinc hX dX5_arrearsAll_23 rfl rfl (inc1 _) (Nat.le_of_ble_eq_true rfl) rfl ?_
      refine gq_goto (tgt := 4) hX dX5_arrearsAll_26 rfl ?_
      exact gq_ls rfl rfl rfl (ih (j + 1) (by omega))
  exact loop nc 0 (by omega)

/-- who rents -/
def RenOk (S : St) (nc nt : Nat) : Prop := ∀ t, t < nt → S.2 5 t = -1 ∨ ∃ a, a < nc ∧ S.2 5 t = nI a ∧ ¬ S.2 3 a = 0
def renC (S : St) (nt : Nat) : Int32 := it (fun j s => if S.2 5 j = -1 then s else s + nI 1) (nI 0) nt
set_option maxRecDepth 100000 in
set_option maxHeartbeats 4000000 in
theorem mt_rented {E : Ev} {b : Nat → Nat} {T : St} {M : Hp} (hb : Lay E 9 b) {S : St} {nc nt no : Nat} (hwf : Wf S nc nt no) (hro : RenOk S nc nt) : Ct E mX5_rented [.ref (b 0)] (MdW E b T (wOf S nc nt no) M) (eqR (some (.int (renC S nt))) (MdW E b T (wOf S nc nt no) M)) 0 0 := by
  refine Ct.of gmX5_rented (ls := [.ref (b 0), hole, hole]) rfl rfl (Nat.le_of_ble_eq_true rfl) ?_
  intro X hX Q hQ
  have hwf2 := hwf
  obtain ⟨hnc, hncl, hnt, hntl, hno, hnol⟩ := hwf2
  have hw0 : wOf S nc nt no 0 = nI nc := hnc
  have hw1 : wOf S nc nt no 1 = nI nt := hnt
  have hw2 : wOf S nc nt no 2 = nI no := hno
  refine gq_iconst (v := nI 0) hX dX5_rented_0 rfl (by decide) ?_
  refine gq_istore_n hX dX5_rented_1 rfl rfl (Nat.le_of_ble_eq_true rfl) rfl ?_
  refine gq_iconst (v := nI 0) hX dX5_rented_2 rfl (by decide) ?_
  refine gq_istore_n hX dX5_rented_3 rfl rfl (Nat.le_of_ble_eq_true rfl) rfl ?_
  have loop : ∀ n j : Nat, j + n = nt → Gq E X mX5_rented Q 4 [.ref (b 0), .int (it (fun j s => if S.2 5 j = -1 then s else s + nI 1) (nI 0) j), .int (nI j)] [] (MdW E b T (wOf S nc nt no) M) 0 0 := by
    intro n
    induction n with
    | zero =>
      intro j hj
      refine gq_iload_n hX dX5_rented_4 rfl rfl rfl ?_
      refine gq_aload_n hX dX5_rented_5 rfl rfl rfl ?_
      refine gq_getf hX dX5_rented_6 rfl fX5_7 (mqR0 hb) rfl ?_
      refine gq_iconst (v := nI 1) hX dX5_rented_9 rfl (by decide) ?_
      refine gq_ialdN hX dX5_rented_10 rfl (mqR1 hb) rfl (by omega) (Nat.le_of_ble_eq_true rfl) ?_
      refine gq_icmp_geT (tgt := 37) hX dX5_rented_11 rfl (cT hw1 (by omega) (by omega)) ?_
      have ej : nt = j := by omega
      subst ej
      refine gq_iload_n hX dX5_rented_37 rfl rfl rfl ?_
      exact gq_iret hX hQ dX5_rented_38 rfl ⟨rfl, rfl⟩
    | succ n ih =>
      intro j hj
      refine gq_iload_n hX dX5_rented_4 rfl rfl rfl ?_
      refine gq_aload_n hX dX5_rented_5 rfl rfl rfl ?_
      refine gq_getf hX dX5_rented_6 rfl fX5_7 (mqR0 hb) rfl ?_
      refine gq_iconst (v := nI 1) hX dX5_rented_9 rfl (by decide) ?_
      refine gq_ialdN hX dX5_rented_10 rfl (mqR1 hb) rfl (by omega) (Nat.le_of_ble_eq_true rfl) ?_
      refine gq_icmp_geF (tgt := 37) hX dX5_rented_11 rfl rfl (cF hw1 (by omega) (by omega)) ?_
      refine gq_iload_n hX dX5_rented_14 rfl rfl rfl ?_
      refine gq_aload_n hX dX5_rented_15 rfl rfl rfl ?_
      refine gq_iload_n hX dX5_rented_16 rfl rfl rfl ?_
      refine gq_iconst (v := nI 1) hX dX5_rented_17 rfl (by decide) ?_
      refine gq_callVe hX dX5_rented_18 rfl vX5_68 (mt_tail hb (c := j) (x := 1) (by omega) (by decide)) rfl (mqR0 hb) rfl rfl (Nat.le_of_ble_eq_true rfl) ⟨(Nat.le_of_ble_eq_true rfl), (Nat.le_of_ble_eq_true rfl)⟩ (Nat.zero_add _) (Nat.zero_add _) ?_
      rw [wT1 hntl (by omega)]
      have hsl : S.2 5 j + nI 1 ≤ 0 ↔ S.2 5 j = -1 := sec_le (nc := nc) ((hro j (by omega)).imp id (fun ⟨a, h1, h2, _⟩ => ⟨a, h1, h2⟩)) (by omega)
      show Gq E X mX5_rented Q 21 _ [.int (S.2 5 j + nI 1), _] _ 0 0
      refine gq_if_le (tgt := 28) hX dX5_rented_21 rfl rfl (fun c9 => ?_) (fun c9 => ?_)
      · refine gq_iconst (v := nI 0) hX dX5_rented_28 rfl (by decide) ?_
        refine gq_iadd hX dX5_rented_29 rfl ?_
        refine gq_istore_n hX dX5_rented_30 rfl rfl (Nat.le_of_ble_eq_true rfl) rfl ?_
        refine gq_iinc hX dX5_rented_31 rfl rfl (inc1 _) (Nat.le_of_ble_eq_true rfl) rfl ?_
        refine gq_goto (tgt := 4) hX dX5_rented_34 rfl ?_
        exact gq_ls (by rw [show it (fun j s => if S.2 5 j = -1 then s else s + nI 1) (nI 0) (j + 1) = it (fun j s => if S.2 5 j = -1 then s else s + nI 1) (nI 0) j from if_pos (hsl.mp c9), show it (fun j s => if S.2 5 j = -1 then s else s + nI 1) (nI 0) j + nI 0 = it (fun j s => if S.2 5 j = -1 then s else s + nI 1) (nI 0) j from Int32.add_zero _]; rfl) rfl rfl (ih (j + 1) (by omega))
      · refine gq_iconst (v := nI 1) hX dX5_rented_24 rfl (by decide) ?_
        refine gq_goto (tgt := 29) hX dX5_rented_25 rfl ?_
        refine gq_iadd hX dX5_rented_29 rfl ?_
        refine gq_istore_n hX dX5_rented_30 rfl rfl (Nat.le_of_ble_eq_true rfl) rfl ?_
        refine gq_iinc hX dX5_rented_31 rfl rfl (inc1 _) (Nat.le_of_ble_eq_true rfl) rfl ?_
        refine gq_goto (tgt := 4) hX dX5_rented_34 rfl ?_
        exact gq_ls (by rw [show it (fun j s => if S.2 5 j = -1 then s else s + nI 1) (nI 0) (j + 1) = it (fun j s => if S.2 5 j = -1 then s else s + nI 1) (nI 0) j + nI 1 from if_neg (fun e => c9 (hsl.mpr e))]; rfl) rfl rfl (ih (j + 1) (by omega))
  exact loop nt 0 (by omega)

set_option maxRecDepth 100000 in
set_option maxHeartbeats 4000000 in
theorem mr_consistent {E : Ev} {b : Nat → Nat} {T : St} {M : Hp} (hb : Lay E 9 b) {S : St} {nc nt no : Nat} (hwf : Wf S nc nt no) (hn : Nar S) (hro : RenOk S nc nt) (hch : S.1 6 = S.1 5 + arrSum S nc) : Ct E mX5_isConsistent [.ref (b 0)] (MdW E b T (wOf S nc nt no) M) (eqR (some (.int (nI 1))) (MdW E b (setS T 0 (nI 0)) (wOf S nc nt no) M)) 0 0 := by
  refine Ct.of gmX5_isConsistent (ls := [.ref (b 0), hole]) rfl rfl (Nat.le_of_ble_eq_true rfl) ?_
  intro X hX Q hQ
  have hwf2 := hwf
  obtain ⟨hnc, hncl, hnt, hntl, hno, hnol⟩ := hwf2
  have hw0 : wOf S nc nt no 0 = nI nc := hnc
  have hw1 : wOf S nc nt no 1 = nI nt := hnt
  have hw2 : wOf S nc nt no 2 = nI no := hno
  refine gq_aload_n hX dX5_isConsistent_0 rfl rfl rfl ?_
  refine gq_iconst (v := nI 0) hX dX5_isConsistent_1 rfl (by decide) ?_
  refine gq_putf hX dX5_isConsistent_2 rfl fX5_42 rfl rfl rfl (mqR0 hb) (Nat.le_of_ble_eq_true rfl) (hb.2 0 (by decide)) (mqW0_0 hb) ?_
  refine gq_iconst (v := nI 0) hX dX5_isConsistent_5 rfl (by decide) ?_
  refine gq_istore_n hX dX5_isConsistent_6 rfl rfl (Nat.le_of_ble_eq_true rfl) rfl ?_
  have loop : ∀ n j : Nat, j + n = nt → Gq E X mX5_isConsistent Q 7 [.ref (b 0), .int (nI j)] [] (MdW E b (setS T 0 (nI 0)) (wOf S nc nt no) M) 0 0 := by
    intro n
    induction n with
    | zero =>
      intro j hj
      refine gq_iload_n hX dX5_isConsistent_7 rfl rfl rfl ?_
      refine gq_aload_n hX dX5_isConsistent_8 rfl rfl rfl ?_
      refine gq_getf hX dX5_isConsistent_9 rfl fX5_7 (mqR0 hb) rfl ?_
      refine gq_iconst (v := nI 1) hX dX5_isConsistent_12 rfl (by decide) ?_
      refine gq_ialdN hX dX5_isConsistent_13 rfl (mqR1 hb) rfl (by omega) (Nat.le_of_ble_eq_true rfl) ?_
      refine gq_icmp_geT (tgt := 49) hX dX5_isConsistent_14 rfl (cT hw1 (by omega) (by omega)) ?_
      have ej : nt = j := by omega
      subst ej
      refine gq_aload_n hX dX5_isConsistent_49 rfl rfl rfl ?_
      refine gq_getf hX dX5_isConsistent_50 rfl fX5_7 (mqR0 hb) rfl ?_
      refine gq_bipush (v := nI 8) hX dX5_isConsistent_53 rfl (by decide) ?_
      refine gq_ialdN hX dX5_isConsistent_55 rfl (mqR1 hb) rfl (by omega) (Nat.le_of_ble_eq_true rfl) ?_
      rw [wS8]
      refine gq_aload_n hX dX5_isConsistent_56 rfl rfl rfl ?_
      refine gq_getf hX dX5_isConsistent_57 rfl fX5_7 (mqR0 hb) rfl ?_
      refine gq_bipush (v := nI 7) hX dX5_isConsistent_60 rfl (by decide) ?_
      refine gq_ialdN hX dX5_isConsistent_62 rfl (mqR1 hb) rfl (by omega) (Nat.le_of_ble_eq_true rfl) ?_
      rw [wS7]
      refine gq_aload_n hX dX5_isConsistent_63 rfl rfl rfl ?_
      refine gq_callVe hX dX5_isConsistent_64 rfl vX5_217 (mt_arrAll hb hwf) rfl (mqR0 hb) rfl rfl (Nat.le_of_ble_eq_true rfl) ⟨(Nat.le_of_ble_eq_true rfl), (Nat.le_of_ble_eq_true rfl)⟩ (Nat.zero_add _) (Nat.zero_add _) ?_
      refine gq_iadd hX dX5_isConsistent_67 rfl ?_
      refine gq_icmp_neF (tgt := 75) hX dX5_isConsistent_68 rfl rfl hch ?_
      refine gq_iconst (v := nI 1) hX dX5_isConsistent_71 rfl (by decide) ?_
      refine gq_goto (tgt := 76) hX dX5_isConsistent_72 rfl ?_
      exact gq_zret hX hQ dX5_isConsistent_76 rfl rfl ⟨rfl, rfl⟩
    | succ n ih =>
      intro j hj
      refine gq_iload_n hX dX5_isConsistent_7 rfl rfl rfl ?_
      refine gq_aload_n hX dX5_isConsistent_8 rfl rfl rfl ?_
      refine gq_getf hX dX5_isConsistent_9 rfl fX5_7 (mqR0 hb) rfl ?_
      refine gq_iconst (v := nI 1) hX dX5_isConsistent_12 rfl (by decide) ?_
      refine gq_ialdN hX dX5_isConsistent_13 rfl (mqR1 hb) rfl (by omega) (Nat.le_of_ble_eq_true rfl) ?_
      refine gq_icmp_geF (tgt := 49) hX dX5_isConsistent_14 rfl rfl (cF hw1 (by omega) (by omega)) ?_
      refine gq_aload_n hX dX5_isConsistent_17 rfl rfl rfl ?_
      refine gq_iload_n hX dX5_isConsistent_18 rfl rfl rfl ?_
      refine gq_iconst (v := nI 1) hX dX5_isConsistent_19 rfl (by decide) ?_
      refine gq_callVe hX dX5_isConsistent_20 rfl vX5_68 (mt_tail hb (c := j) (x := 1) (by omega) (by decide)) rfl (mqR0 hb) rfl rfl (Nat.le_of_ble_eq_true rfl) ⟨(Nat.le_of_ble_eq_true rfl), (Nat.le_of_ble_eq_true rfl)⟩ (Nat.zero_add _) (Nat.zero_add _) ?_
      rw [wT1 hntl (by omega)]
      have hsl : S.2 5 j + nI 1 ≤ 0 ↔ S.2 5 j = -1 := sec_le (nc := nc) ((hro j (by omega)).imp id (fun ⟨a, h1, h2, _⟩ => ⟨a, h1, h2⟩)) (by omega)
      show Gq E X mX5_isConsistent Q 23 _ [.int (S.2 5 j + nI 1)] _ 0 0
      refine gq_if_le (tgt := 43) hX dX5_isConsistent_23 rfl rfl (fun c9 => ?_) (fun c9 => ?_)
      · refine gq_iinc hX dX5_isConsistent_43 rfl rfl (inc1 _) (Nat.le_of_ble_eq_true rfl) rfl ?_
        refine gq_goto (tgt := 7) hX dX5_isConsistent_46 rfl ?_
        exact ih (j + 1) (by omega)
      · obtain h9 | ⟨a, ha, h9, hf⟩ := hro j (by omega)
        · exact absurd (hsl.mpr h9) c9
        refine gq_aload_n hX dX5_isConsistent_26 rfl rfl rfl ?_
        refine gq_aload_n hX dX5_isConsistent_27 rfl rfl rfl ?_
        refine gq_iload_n hX dX5_isConsistent_28 rfl rfl rfl ?_
        refine gq_iconst (v := nI 1) hX dX5_isConsistent_29 rfl (by decide) ?_
        refine gq_callVe hX dX5_isConsistent_30 rfl vX5_68 (mt_tail hb (c := j) (x := 1) (by omega) (by decide)) rfl (mqR0 hb) rfl rfl (Nat.le_of_ble_eq_true rfl) ⟨(Nat.le_of_ble_eq_true rfl), (Nat.le_of_ble_eq_true rfl)⟩ (Nat.zero_add _) (Nat.zero_add _) ?_
        rw [wT1 hntl (by omega)]
        refine gq_iconst (v := nI 1) hX dX5_isConsistent_33 rfl (by decide) ?_
        refine gq_isub hX dX5_isConsistent_34 rfl ?_
        rw [Int32.add_sub_cancel, h9]
        refine gq_callVe hX dX5_isConsistent_35 rfl vX5_104 (mt_flies hb hwf hn ha) rfl (mqR0 hb) rfl rfl (Nat.le_of_ble_eq_true rfl) ⟨(Nat.le_of_ble_eq_true rfl), (Nat.le_of_ble_eq_true rfl)⟩ (Nat.zero_add _) (Nat.zero_add _) ?_
        refine gq_if_neT (tgt := 43) hX dX5_isConsistent_38 rfl hf ?_
        refine gq_iinc hX dX5_isConsistent_43 rfl rfl (inc1 _) (Nat.le_of_ble_eq_true rfl) rfl ?_
        refine gq_goto (tgt := 7) hX dX5_isConsistent_46 rfl ?_
        exact ih (j + 1) (by omega)
  exact loop nt 0 (by omega)

