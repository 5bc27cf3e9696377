set_option maxRecDepth 100000 in
set_option maxHeartbeats 4000000 in
theorem cq_Com_1 {E : Ev} {b : Nat → Nat} {K : Kt} {M : Hp} (hb : Lay E 162 b) (hW : Wd E b K M) {nc nt no : Nat} (hwf : Wf (K.2.1 0) nc nt no) (c : Int32) (hF : hasI nc c = 0) : CtX E mX4_requireCommittee [.ref (b 0), .int c] M NoR (PXe "java/lang/IndexOutOfBoundsException" M) 1 6 := by
  refine CtX.of gmX4_requireCommittee (ls := [.ref (b 0), .int c]) rfl rfl (Nat.le_of_ble_eq_true rfl) ?_
  intro X hX Q hQ hQ2
  have hwf2 := hwf
  obtain ⟨hnc, hncl, hnt, hntl, hno, hnol⟩ := hwf2
  refine gq_aload_n hX dX4_requireCommittee_0 rfl rfl rfl ?_
  refine gq_getf hX dX4_requireCommittee_1 rfl fX4_10 hW.c0 rfl ?_
  refine gq_iload_n hX dX4_requireCommittee_4 rfl rfl rfl ?_
  refine gq_callVe hX dX4_requireCommittee_5 rfl vX4_393 (Ct.rdS hb hW (i := 0) (by decide) rfl (ct_hasCommittee (hb.bS (i := 0) (by decide)) hwf _)) rfl (hW.s0 (i := 0) (by decide)) rfl rfl (Nat.le_of_ble_eq_true rfl) ⟨(Nat.le_of_ble_eq_true rfl), (Nat.le_of_ble_eq_true rfl)⟩ (Nat.zero_add _) (Nat.zero_add _) ?_
  refine gq_if_neF (tgt := 21) hX dX4_requireCommittee_8 rfl rfl hF ?_
  exact gq_throw hX hQ2 rfl th94 rfl (List.mem_of_getElem? (i := 0) rfl) dX4_requireCommittee_11 dX4_requireCommittee_14 dX4_requireCommittee_15 dX4_requireCommittee_17 dX4_requireCommittee_20 (Nat.le_of_ble_eq_true rfl) (Nat.le_of_ble_eq_true rfl) (Nat.le_of_ble_eq_true rfl) (Nat.le_of_ble_eq_true rfl) ⟨rfl, rfl⟩

set_option maxRecDepth 100000 in
set_option maxHeartbeats 4000000 in
theorem cq_Com_ok {E : Ev} {b : Nat → Nat} {K : Kt} {M : Hp} (hb : Lay E 162 b) (hW : Wd E b K M) {nc nt no : Nat} (hwf : Wf (K.2.1 0) nc nt no) {j : Nat} (hj : j < nc) : Ct E mX4_requireCommittee [.ref (b 0), .int (nI j)] M (eqR (none) M) 0 0 := by
  refine Ct.of gmX4_requireCommittee (ls := [.ref (b 0), .int (nI j)]) rfl rfl (Nat.le_of_ble_eq_true rfl) ?_
  intro X hX Q hQ
  have hwf2 := hwf
  obtain ⟨hnc, hncl, hnt, hntl, hno, hnol⟩ := hwf2
  refine gq_aload_n hX dX4_requireCommittee_0 rfl rfl rfl ?_
  refine gq_getf hX dX4_requireCommittee_1 rfl fX4_10 hW.c0 rfl ?_
  refine gq_iload_n hX dX4_requireCommittee_4 rfl rfl rfl ?_
  refine gq_callVe hX dX4_requireCommittee_5 rfl vX4_393 (Ct.rdS hb hW (i := 0) (by decide) rfl (ct_hasCommittee (hb.bS (i := 0) (by decide)) hwf _)) rfl (hW.s0 (i := 0) (by decide)) rfl rfl (Nat.le_of_ble_eq_true rfl) ⟨(Nat.le_of_ble_eq_true rfl), (Nat.le_of_ble_eq_true rfl)⟩ (Nat.zero_add _) (Nat.zero_add _) ?_
  refine gq_if_neT (tgt := 21) hX dX4_requireCommittee_8 rfl (by rw [hasI_yes hj (by omega)]; decide) ?_
  exact gq_vret hX hQ dX4_requireCommittee_21 rfl ⟨rfl, rfl⟩

set_option maxRecDepth 100000 in
set_option maxHeartbeats 4000000 in
theorem cq_Tail_1 {E : Ev} {b : Nat → Nat} {K : Kt} {M : Hp} (hb : Lay E 162 b) (hW : Wd E b K M) {nc nt no : Nat} (hwf : Wf (K.2.1 0) nc nt no) (c : Int32) (hF : hasI nt c = 0) : CtX E mX4_requireTail [.ref (b 0), .int c] M NoR (PXe "java/lang/IndexOutOfBoundsException" M) 1 6 := by
  refine CtX.of gmX4_requireTail (ls := [.ref (b 0), .int c]) rfl rfl (Nat.le_of_ble_eq_true rfl) ?_
  intro X hX Q hQ hQ2
  have hwf2 := hwf
  obtain ⟨hnc, hncl, hnt, hntl, hno, hnol⟩ := hwf2
  refine gq_aload_n hX dX4_requireTail_0 rfl rfl rfl ?_
  refine gq_getf hX dX4_requireTail_1 rfl fX4_10 hW.c0 rfl ?_
  refine gq_iload_n hX dX4_requireTail_4 rfl rfl rfl ?_
  refine gq_callVe hX dX4_requireTail_5 rfl vX4_396 (Ct.rdS hb hW (i := 0) (by decide) rfl (ct_hasTail (hb.bS (i := 0) (by decide)) hwf _)) rfl (hW.s0 (i := 0) (by decide)) rfl rfl (Nat.le_of_ble_eq_true rfl) ⟨(Nat.le_of_ble_eq_true rfl), (Nat.le_of_ble_eq_true rfl)⟩ (Nat.zero_add _) (Nat.zero_add _) ?_
  refine gq_if_neF (tgt := 22) hX dX4_requireTail_8 rfl rfl hF ?_
  exact gq_throwW hX hQ2 rfl th94 rfl (List.mem_of_getElem? (i := 9) rfl) dX4_requireTail_11 dX4_requireTail_14 dX4_requireTail_15 dX4_requireTail_18 dX4_requireTail_21 (Nat.le_of_ble_eq_true rfl) (Nat.le_of_ble_eq_true rfl) (Nat.le_of_ble_eq_true rfl) (Nat.le_of_ble_eq_true rfl) ⟨rfl, rfl⟩

set_option maxRecDepth 100000 in
set_option maxHeartbeats 4000000 in
theorem cq_Tail_ok {E : Ev} {b : Nat → Nat} {K : Kt} {M : Hp} (hb : Lay E 162 b) (hW : Wd E b K M) {nc nt no : Nat} (hwf : Wf (K.2.1 0) nc nt no) {j : Nat} (hj : j < nt) : Ct E mX4_requireTail [.ref (b 0), .int (nI j)] M (eqR (none) M) 0 0 := by
  refine Ct.of gmX4_requireTail (ls := [.ref (b 0), .int (nI j)]) rfl rfl (Nat.le_of_ble_eq_true rfl) ?_
  intro X hX Q hQ
  have hwf2 := hwf
  obtain ⟨hnc, hncl, hnt, hntl, hno, hnol⟩ := hwf2
  refine gq_aload_n hX dX4_requireTail_0 rfl rfl rfl ?_
  refine gq_getf hX dX4_requireTail_1 rfl fX4_10 hW.c0 rfl ?_
  refine gq_iload_n hX dX4_requireTail_4 rfl rfl rfl ?_
  refine gq_callVe hX dX4_requireTail_5 rfl vX4_396 (Ct.rdS hb hW (i := 0) (by decide) rfl (ct_hasTail (hb.bS (i := 0) (by decide)) hwf _)) rfl (hW.s0 (i := 0) (by decide)) rfl rfl (Nat.le_of_ble_eq_true rfl) ⟨(Nat.le_of_ble_eq_true rfl), (Nat.le_of_ble_eq_true rfl)⟩ (Nat.zero_add _) (Nat.zero_add _) ?_
  refine gq_if_neT (tgt := 22) hX dX4_requireTail_8 rfl (by rw [hasI_yes hj (by omega)]; decide) ?_
  exact gq_vret hX hQ dX4_requireTail_22 rfl ⟨rfl, rfl⟩

set_option maxRecDepth 100000 in
set_option maxHeartbeats 4000000 in
theorem cq_Mot_1 {E : Ev} {b : Nat → Nat} {K : Kt} {M : Hp} (hb : Lay E 162 b) (hW : Wd E b K M) {nc nt no : Nat} (hwf : Wf (K.2.1 0) nc nt no) {id : Int32} (ho : slotO (K.2.1 0) no id = none) : CtX E mX4_requireMotion [.ref (b 0), .int id] M NoR (PXe "java/util/NoSuchElementException" M) 1 6 := by
  refine CtX.of gmX4_requireMotion (ls := [.ref (b 0), .int id, hole]) rfl rfl (Nat.le_of_ble_eq_true rfl) ?_
  intro X hX Q hQ hQ2
  have hwf2 := hwf
  obtain ⟨hnc, hncl, hnt, hntl, hno, hnol⟩ := hwf2
  have hct := ct_slotOf (M := M) (hb.bS (i := 0) (by decide)) hwf id
  rw [ho] at hct
  refine gq_aload_n hX dX4_requireMotion_0 rfl rfl rfl ?_
  refine gq_getf hX dX4_requireMotion_1 rfl fX4_10 hW.c0 rfl ?_
  refine gq_getf hX dX4_requireMotion_4 rfl fX4_209 (hW.s0 (i := 0) (by decide)) rfl ?_
  refine gq_iload_n hX dX4_requireMotion_7 rfl rfl rfl ?_
  refine gq_callVe hX dX4_requireMotion_8 rfl vX4_401 (Ct.rdS hb hW (i := 0) (by decide) rfl (hct)) rfl (hW.s6 (i := 0) (by decide)) rfl rfl (Nat.le_of_ble_eq_true rfl) ⟨(Nat.le_of_ble_eq_true rfl), (Nat.le_of_ble_eq_true rfl)⟩ (Nat.zero_add _) (Nat.zero_add _) ?_
  refine gq_istore_n hX dX4_requireMotion_11 rfl rfl (Nat.le_of_ble_eq_true rfl) rfl ?_
  refine gq_iload_n hX dX4_requireMotion_12 rfl rfl rfl ?_
  refine gq_iconst (v := -1) hX dX4_requireMotion_13 rfl (by decide) ?_
  refine gq_icmp_neF (tgt := 27) hX dX4_requireMotion_14 rfl rfl rfl ?_
  exact gq_throw hX hQ2 rfl th153 rfl (List.mem_of_getElem? (i := 14) rfl) dX4_requireMotion_17 dX4_requireMotion_20 dX4_requireMotion_21 dX4_requireMotion_23 dX4_requireMotion_26 (Nat.le_of_ble_eq_true rfl) (Nat.le_of_ble_eq_true rfl) (Nat.le_of_ble_eq_true rfl) (Nat.le_of_ble_eq_true rfl) ⟨rfl, rfl⟩

set_option maxRecDepth 100000 in
set_option maxHeartbeats 4000000 in
theorem cq_Mot_ok {E : Ev} {b : Nat → Nat} {K : Kt} {M : Hp} (hb : Lay E 162 b) (hW : Wd E b K M) {nc nt no : Nat} (hwf : Wf (K.2.1 0) nc nt no) {id : Int32} {k : Nat} (ho : slotO (K.2.1 0) no id = some k) : Ct E mX4_requireMotion [.ref (b 0), .int id] M (eqR (some (.int (nI k))) M) 0 0 := by
  refine Ct.of gmX4_requireMotion (ls := [.ref (b 0), .int id, hole]) rfl rfl (Nat.le_of_ble_eq_true rfl) ?_
  intro X hX Q hQ
  have hwf2 := hwf
  obtain ⟨hnc, hncl, hnt, hntl, hno, hnol⟩ := hwf2
  have hct := ct_slotOf (M := M) (hb.bS (i := 0) (by decide)) hwf id
  rw [ho] at hct
  obtain ⟨hk, hid⟩ := slotO_lt ho
  refine gq_aload_n hX dX4_requireMotion_0 rfl rfl rfl ?_
  refine gq_getf hX dX4_requireMotion_1 rfl fX4_10 hW.c0 rfl ?_
  refine gq_getf hX dX4_requireMotion_4 rfl fX4_209 (hW.s0 (i := 0) (by decide)) rfl ?_
  refine gq_iload_n hX dX4_requireMotion_7 rfl rfl rfl ?_
  refine gq_callVe hX dX4_requireMotion_8 rfl vX4_401 (Ct.rdS hb hW (i := 0) (by decide) rfl (hct)) rfl (hW.s6 (i := 0) (by decide)) rfl rfl (Nat.le_of_ble_eq_true rfl) ⟨(Nat.le_of_ble_eq_true rfl), (Nat.le_of_ble_eq_true rfl)⟩ (Nat.zero_add _) (Nat.zero_add _) ?_
  refine gq_istore_n hX dX4_requireMotion_11 rfl rfl (Nat.le_of_ble_eq_true rfl) rfl ?_
  refine gq_iload_n hX dX4_requireMotion_12 rfl rfl rfl ?_
  refine gq_iconst (v := -1) hX dX4_requireMotion_13 rfl (by decide) ?_
  refine gq_icmp_neT (tgt := 27) hX dX4_requireMotion_14 rfl (nI_m1 (by omega)) ?_
  refine gq_iload_n hX dX4_requireMotion_27 rfl rfl rfl ?_
  exact gq_iret hX hQ dX4_requireMotion_28 rfl ⟨rfl, rfl⟩

set_option maxRecDepth 100000 in
set_option maxHeartbeats 4000000 in
theorem cq_For_1 {E : Ev} {b : Nat → Nat} {K : Kt} {M : Hp} (hb : Lay E 162 b) (hW : Wd E b K M) {nc nt no : Nat} (hwf : Wf (K.2.1 0) nc nt no) (c h : Int32) (hF : hasI nc c = 0) : CtX E mX4_requireForecast [.ref (b 0), .int c, .int h] M NoR (PXe "java/lang/IndexOutOfBoundsException" M) 1 6 := by
  refine CtX.of gmX4_requireForecast (ls := [.ref (b 0), .int c, .int h]) rfl rfl (Nat.le_of_ble_eq_true rfl) ?_
  intro X hX Q hQ hQ2
  refine gq_aload_n hX dX4_requireForecast_0 rfl rfl rfl ?_
  refine gq_iload_n hX dX4_requireForecast_1 rfl rfl rfl ?_
  exact gq_callVXe (nc1 := 0) (ns1 := 0) hX dX4_requireForecast_2 vX4_120 (cq_Com_1 hb hW hwf _ hF) rfl hW.c0 rfl rfl (Nat.le_of_ble_eq_true rfl) ⟨(Nat.le_of_ble_eq_true rfl), (Nat.le_of_ble_eq_true rfl)⟩ rfl rfl (gx_out hX hQ2 rfl ⟨rfl, rfl⟩)

theorem btw_0 {h lo hi : Int32} (hF : btw h lo hi = 0) : h < lo ∨ (¬ h < lo ∧ hi < h) := by
  unfold btw at hF
  by_cases h1 : h < lo
  · exact Or.inl h1
  · rw [if_neg h1] at hF
    by_cases h2 : hi < h
    · exact Or.inr ⟨h1, h2⟩
    · rw [if_neg h2] at hF
      exact absurd hF (by decide)
theorem btw_1 {h lo hi : Int32} (hF : ¬ btw h lo hi = 0) : ¬ h < lo ∧ ¬ hi < h := by
  unfold btw at hF
  by_cases h1 : h < lo
  · rw [if_pos h1] at hF
    exact absurd nI_0 hF
  · rw [if_neg h1] at hF
    by_cases h2 : hi < h
    · rw [if_pos h2] at hF
      exact absurd nI_0 hF
    · exact ⟨h1, h2⟩

set_option maxRecDepth 100000 in
set_option maxHeartbeats 4000000 in
theorem cq_For_2 {E : Ev} {b : Nat → Nat} {K : Kt} {M : Hp} (hb : Lay E 162 b) (hW : Wd E b K M) {nc nt no : Nat} (hwf : Wf (K.2.1 0) nc nt no) {j : Nat} (hj : j < nc) (h : Int32) (hF : btw h (nI 0) (nI 24) = 0) : CtX E mX4_requireForecast [.ref (b 0), .int (nI j), .int h] M NoR (PXe "java/lang/IllegalArgumentException" M) 1 6 := by
  refine CtX.of gmX4_requireForecast (ls := [.ref (b 0), .int (nI j), .int h]) rfl rfl (Nat.le_of_ble_eq_true rfl) ?_
  intro X hX Q hQ hQ2
  refine gq_aload_n hX dX4_requireForecast_0 rfl rfl rfl ?_
  refine gq_iload_n hX dX4_requireForecast_1 rfl rfl rfl ?_
  refine gq_callVe hX dX4_requireForecast_2 rfl vX4_120 (cq_Com_ok hb hW hwf hj) rfl hW.c0 rfl rfl (Nat.le_of_ble_eq_true rfl) ⟨(Nat.le_of_ble_eq_true rfl), (Nat.le_of_ble_eq_true rfl)⟩ (Nat.zero_add _) (Nat.zero_add _) ?_
  refine gq_iload_n hX dX4_requireForecast_5 rfl rfl rfl ?_
  rcases btw_0 hF with h1 | ⟨h1, h2⟩
  · refine gq_if_ltT (tgt := 15) hX dX4_requireForecast_6 rfl (show h < nI 0 from h1) ?_
    exact gq_throwW hX hQ2 rfl th61 rfl (List.mem_of_getElem? (i := 1) rfl) dX4_requireForecast_15 dX4_requireForecast_18 dX4_requireForecast_19 dX4_requireForecast_22 dX4_requireForecast_25 (Nat.le_of_ble_eq_true rfl) (Nat.le_of_ble_eq_true rfl) (Nat.le_of_ble_eq_true rfl) (Nat.le_of_ble_eq_true rfl) ⟨rfl, rfl⟩
  · refine gq_if_ltF (tgt := 15) hX dX4_requireForecast_6 rfl rfl (show ¬ h < nI 0 from h1) ?_
    refine gq_iload_n hX dX4_requireForecast_9 rfl rfl rfl ?_
    refine gq_bipush (v := nI 24) hX dX4_requireForecast_10 rfl (by decide) ?_
    refine gq_icmp_leF (tgt := 26) hX dX4_requireForecast_12 rfl rfl (i32_le.mpr h2) ?_
    exact gq_throwW hX hQ2 rfl th61 rfl (List.mem_of_getElem? (i := 1) rfl) dX4_requireForecast_15 dX4_requireForecast_18 dX4_requireForecast_19 dX4_requireForecast_22 dX4_requireForecast_25 (Nat.le_of_ble_eq_true rfl) (Nat.le_of_ble_eq_true rfl) (Nat.le_of_ble_eq_true rfl) (Nat.le_of_ble_eq_true rfl) ⟨rfl, rfl⟩

set_option maxRecDepth 100000 in
set_option maxHeartbeats 4000000 in
theorem cq_For_ok {E : Ev} {b : Nat → Nat} {K : Kt} {M : Hp} (hb : Lay E 162 b) (hW : Wd E b K M) {nc nt no : Nat} (hwf : Wf (K.2.1 0) nc nt no) {j : Nat} (hj : j < nc) (h : Int32) (hF : ¬ btw h (nI 0) (nI 24) = 0) : Ct E mX4_requireForecast [.ref (b 0), .int (nI j), .int h] M (eqR (none) M) 0 0 := by
  refine Ct.of gmX4_requireForecast (ls := [.ref (b 0), .int (nI j), .int h]) rfl rfl (Nat.le_of_ble_eq_true rfl) ?_
  intro X hX Q hQ
  refine gq_aload_n hX dX4_requireForecast_0 rfl rfl rfl ?_
  refine gq_iload_n hX dX4_requireForecast_1 rfl rfl rfl ?_
  refine gq_callVe hX dX4_requireForecast_2 rfl vX4_120 (cq_Com_ok hb hW hwf hj) rfl hW.c0 rfl rfl (Nat.le_of_ble_eq_true rfl) ⟨(Nat.le_of_ble_eq_true rfl), (Nat.le_of_ble_eq_true rfl)⟩ (Nat.zero_add _) (Nat.zero_add _) ?_
  refine gq_iload_n hX dX4_requireForecast_5 rfl rfl rfl ?_
  refine gq_if_ltF (tgt := 15) hX dX4_requireForecast_6 rfl rfl (show ¬ h < nI 0 from (btw_1 hF).1) ?_
  refine gq_iload_n hX dX4_requireForecast_9 rfl rfl rfl ?_
  refine gq_bipush (v := nI 24) hX dX4_requireForecast_10 rfl (by decide) ?_
  refine gq_icmp_leT (tgt := 26) hX dX4_requireForecast_12 rfl (i32_lt.mp (btw_1 hF).2) ?_
  exact gq_vret hX hQ dX4_requireForecast_26 rfl ⟨rfl, rfl⟩

set_option maxRecDepth 100000 in
set_option maxHeartbeats 4000000 in
theorem cr_members_1 {E : Ev} {b : Nat → Nat} {K : Kt} {M : Hp} (hb : Lay E 162 b) (hW : Wd E b K M) {nc nt no : Nat} (hwf : Wf (K.2.1 0) nc nt no) (c : Int32) (hF : hasI nc c = 0) : CtX E mX4_members [.ref (b 0), .int c] M NoR (PXe "java/lang/IndexOutOfBoundsException" M) 1 6 := by
  refine CtX.of gmX4_members (ls := [.ref (b 0), .int c]) rfl rfl (Nat.le_of_ble_eq_true rfl) ?_
  intro X hX Q hQ hQ2
  refine gq_aload_n hX dX4_members_0 rfl rfl rfl ?_
  refine gq_iload_n hX dX4_members_1 rfl rfl rfl ?_
  exact gq_callVXe (nc1 := 0) (ns1 := 0) hX dX4_members_2 vX4_120 (cq_Com_1 hb hW hwf _ hF) rfl hW.c0 rfl rfl (Nat.le_of_ble_eq_true rfl) ⟨(Nat.le_of_ble_eq_true rfl), (Nat.le_of_ble_eq_true rfl)⟩ rfl rfl (gx_out hX hQ2 rfl ⟨rfl, rfl⟩)

set_option maxRecDepth 100000 in
set_option maxHeartbeats 4000000 in
theorem cr_members_ok {E : Ev} {b : Nat → Nat} {K : Kt} {M : Hp} (hb : Lay E 162 b) (hW : Wd E b K M) {nc nt no : Nat} (hwf : Wf (K.2.1 0) nc nt no) {j : Nat} (hj : j < nc) : Ct E mX4_members [.ref (b 0), .int (nI j)] M (eqR (some (.int ((K.2.1 0).2 1 j))) M) 0 0 := by
  refine Ct.of gmX4_members (ls := [.ref (b 0), .int (nI j)]) rfl rfl (Nat.le_of_ble_eq_true rfl) ?_
  intro X hX Q hQ
  have hwf2 := hwf
  obtain ⟨hnc, hncl, hnt, hntl, hno, hnol⟩ := hwf2
  refine gq_aload_n hX dX4_members_0 rfl rfl rfl ?_
  refine gq_iload_n hX dX4_members_1 rfl rfl rfl ?_
  refine gq_callVe hX dX4_members_2 rfl vX4_120 (cq_Com_ok hb hW hwf hj) rfl hW.c0 rfl rfl (Nat.le_of_ble_eq_true rfl) ⟨(Nat.le_of_ble_eq_true rfl), (Nat.le_of_ble_eq_true rfl)⟩ (Nat.zero_add _) (Nat.zero_add _) ?_
  refine gq_aload_n hX dX4_members_5 rfl rfl rfl ?_
  refine gq_getf hX dX4_members_6 rfl fX4_10 hW.c0 rfl ?_
  refine gq_getf hX dX4_members_9 rfl fX4_124 (hW.s0 (i := 0) (by decide)) rfl ?_
  refine gq_iload_n hX dX4_members_12 rfl rfl rfl ?_
  refine gq_ialdN hX dX4_members_13 rfl (hW.s1 (i := 0) (by decide)) rfl (by omega) (Nat.le_of_ble_eq_true rfl) ?_
  exact gq_iret hX hQ dX4_members_14 rfl ⟨rfl, rfl⟩

set_option maxRecDepth 100000 in
set_option maxHeartbeats 4000000 in
theorem cr_arrears_1 {E : Ev} {b : Nat → Nat} {K : Kt} {M : Hp} (hb : Lay E 162 b) (hW : Wd E b K M) {nc nt no : Nat} (hwf : Wf (K.2.1 0) nc nt no) (c : Int32) (hF : hasI nc c = 0) : CtX E mX4_arrears [.ref (b 0), .int c] M NoR (PXe "java/lang/IndexOutOfBoundsException" M) 1 6 := by
  refine CtX.of gmX4_arrears (ls := [.ref (b 0), .int c]) rfl rfl (Nat.le_of_ble_eq_true rfl) ?_
  intro X hX Q hQ hQ2
  refine gq_aload_n hX dX4_arrears_0 rfl rfl rfl ?_
  refine gq_iload_n hX dX4_arrears_1 rfl rfl rfl ?_
  exact gq_callVXe (nc1 := 0) (ns1 := 0) hX dX4_arrears_2 vX4_120 (cq_Com_1 hb hW hwf _ hF) rfl hW.c0 rfl rfl (Nat.le_of_ble_eq_true rfl) ⟨(Nat.le_of_ble_eq_true rfl), (Nat.le_of_ble_eq_true rfl)⟩ rfl rfl (gx_out hX hQ2 rfl ⟨rfl, rfl⟩)

set_option maxRecDepth 100000 in
set_option maxHeartbeats 4000000 in
theorem cr_arrears_ok {E : Ev} {b : Nat → Nat} {K : Kt} {M : Hp} (hb : Lay E 162 b) (hW : Wd E b K M) {nc nt no : Nat} (hwf : Wf (K.2.1 0) nc nt no) {j : Nat} (hj : j < nc) : Ct E mX4_arrears [.ref (b 0), .int (nI j)] M (eqR (some (.int ((K.2.1 0).2 2 j))) M) 0 0 := by
  refine Ct.of gmX4_arrears (ls := [.ref (b 0), .int (nI j)]) rfl rfl (Nat.le_of_ble_eq_true rfl) ?_
  intro X hX Q hQ
  have hwf2 := hwf
  obtain ⟨hnc, hncl, hnt, hntl, hno, hnol⟩ := hwf2
  refine gq_aload_n hX dX4_arrears_0 rfl rfl rfl ?_
  refine gq_iload_n hX dX4_arrears_1 rfl rfl rfl ?_
  refine gq_callVe hX dX4_arrears_2 rfl vX4_120 (cq_Com_ok hb hW hwf hj) rfl hW.c0 rfl rfl (Nat.le_of_ble_eq_true rfl) ⟨(Nat.le_of_ble_eq_true rfl), (Nat.le_of_ble_eq_true rfl)⟩ (Nat.zero_add _) (Nat.zero_add _) ?_
  refine gq_aload_n hX dX4_arrears_5 rfl rfl rfl ?_
  refine gq_getf hX dX4_arrears_6 rfl fX4_10 hW.c0 rfl ?_
  refine gq_getf hX dX4_arrears_9 rfl fX4_128 (hW.s0 (i := 0) (by decide)) rfl ?_
  refine gq_iload_n hX dX4_arrears_12 rfl rfl rfl ?_
  refine gq_ialdN hX dX4_arrears_13 rfl (hW.s2 (i := 0) (by decide)) rfl (by omega) (Nat.le_of_ble_eq_true rfl) ?_
  exact gq_iret hX hQ dX4_arrears_14 rfl ⟨rfl, rfl⟩

set_option maxRecDepth 100000 in
set_option maxHeartbeats 4000000 in
theorem cr_isFlying_1 {E : Ev} {b : Nat → Nat} {K : Kt} {M : Hp} (hb : Lay E 162 b) (hW : Wd E b K M) {nc nt no : Nat} (hwf : Wf (K.2.1 0) nc nt no) (c : Int32) (hF : hasI nc c = 0) : CtX E mX4_isFlying [.ref (b 0), .int c] M NoR (PXe "java/lang/IndexOutOfBoundsException" M) 1 6 := by
  refine CtX.of gmX4_isFlying (ls := [.ref (b 0), .int c]) rfl rfl (Nat.le_of_ble_eq_true rfl) ?_
  intro X hX Q hQ hQ2
  refine gq_aload_n hX dX4_isFlying_0 rfl rfl rfl ?_
  refine gq_iload_n hX dX4_isFlying_1 rfl rfl rfl ?_
  exact gq_callVXe (nc1 := 0) (ns1 := 0) hX dX4_isFlying_2 vX4_120 (cq_Com_1 hb hW hwf _ hF) rfl hW.c0 rfl rfl (Nat.le_of_ble_eq_true rfl) ⟨(Nat.le_of_ble_eq_true rfl), (Nat.le_of_ble_eq_true rfl)⟩ rfl rfl (gx_out hX hQ2 rfl ⟨rfl, rfl⟩)

set_option maxRecDepth 100000 in
set_option maxHeartbeats 4000000 in
theorem cr_isFlying_ok {E : Ev} {b : Nat → Nat} {K : Kt} {M : Hp} (hb : Lay E 162 b) (hW : Wd E b K M) {nc nt no : Nat} (hwf : Wf (K.2.1 0) nc nt no) (hn : Nar (K.2.1 0)) {j : Nat} (hj : j < nc) : Ct E mX4_isFlying [.ref (b 0), .int (nI j)] M (eqR (some (.int ((K.2.1 0).2 3 j))) M) 0 0 := by
  refine Ct.of gmX4_isFlying (ls := [.ref (b 0), .int (nI j)]) rfl rfl (Nat.le_of_ble_eq_true rfl) ?_
  intro X hX Q hQ
  have hwf2 := hwf
  obtain ⟨hnc, hncl, hnt, hntl, hno, hnol⟩ := hwf2
  refine gq_aload_n hX dX4_isFlying_0 rfl rfl rfl ?_
  refine gq_iload_n hX dX4_isFlying_1 rfl rfl rfl ?_
  refine gq_callVe hX dX4_isFlying_2 rfl vX4_120 (cq_Com_ok hb hW hwf hj) rfl hW.c0 rfl rfl (Nat.le_of_ble_eq_true rfl) ⟨(Nat.le_of_ble_eq_true rfl), (Nat.le_of_ble_eq_true rfl)⟩ (Nat.zero_add _) (Nat.zero_add _) ?_
  refine gq_aload_n hX dX4_isFlying_5 rfl rfl rfl ?_
  refine gq_getf hX dX4_isFlying_6 rfl fX4_10 hW.c0 rfl ?_
  refine gq_getf hX dX4_isFlying_9 rfl fX4_131 (hW.s0 (i := 0) (by decide)) rfl ?_
  refine gq_iload_n hX dX4_isFlying_12 rfl rfl rfl ?_
  refine gq_zaldN hX dX4_isFlying_13 rfl (hW.s3 (i := 0) (by decide)) rfl (by omega) (Nat.le_of_ble_eq_true rfl) ?_
  exact gq_zret hX hQ dX4_isFlying_14 rfl (by rcases bool_01 (hn.1 j) with h | h <;> rw [h] <;> rfl) ⟨rfl, rfl⟩

set_option maxRecDepth 100000 in
set_option maxHeartbeats 4000000 in
theorem cr_tailLength_1 {E : Ev} {b : Nat → Nat} {K : Kt} {M : Hp} (hb : Lay E 162 b) (hW : Wd E b K M) {nc nt no : Nat} (hwf : Wf (K.2.1 0) nc nt no) (c : Int32) (hF : hasI nc c = 0) : CtX E mX4_tailLength [.ref (b 0), .int c] M NoR (PXe "java/lang/IndexOutOfBoundsException" M) 1 6 := by
  refine CtX.of gmX4_tailLength (ls := [.ref (b 0), .int c]) rfl rfl (Nat.le_of_ble_eq_true rfl) ?_
  intro X hX Q hQ hQ2
  refine gq_aload_n hX dX4_tailLength_0 rfl rfl rfl ?_
  refine gq_iload_n hX dX4_tailLength_1 rfl rfl rfl ?_
  exact gq_callVXe (nc1 := 0) (ns1 := 0) hX dX4_tailLength_2 vX4_120 (cq_Com_1 hb hW hwf _ hF) rfl hW.c0 rfl rfl (Nat.le_of_ble_eq_true rfl) ⟨(Nat.le_of_ble_eq_true rfl), (Nat.le_of_ble_eq_true rfl)⟩ rfl rfl (gx_out hX hQ2 rfl ⟨rfl, rfl⟩)

set_option maxRecDepth 100000 in
set_option maxHeartbeats 4000000 in
theorem cr_tailLength_ok {E : Ev} {b : Nat → Nat} {K : Kt} {M : Hp} (hb : Lay E 162 b) (hW : Wd E b K M) {nc nt no : Nat} (hwf : Wf (K.2.1 0) nc nt no) {j : Nat} (hj : j < nc) : Ct E mX4_tailLength [.ref (b 0), .int (nI j)] M (eqR (some (.int (lenB (K.2.1 0) nt (nI j)))) M) 0 0 := by
  refine Ct.of gmX4_tailLength (ls := [.ref (b 0), .int (nI j)]) rfl rfl (Nat.le_of_ble_eq_true rfl) ?_
  intro X hX Q hQ
  have hwf2 := hwf
  obtain ⟨hnc, hncl, hnt, hntl, hno, hnol⟩ := hwf2
  refine gq_aload_n hX dX4_tailLength_0 rfl rfl rfl ?_
  refine gq_iload_n hX dX4_tailLength_1 rfl rfl rfl ?_
  refine gq_callVe hX dX4_tailLength_2 rfl vX4_120 (cq_Com_ok hb hW hwf hj) rfl hW.c0 rfl rfl (Nat.le_of_ble_eq_true rfl) ⟨(Nat.le_of_ble_eq_true rfl), (Nat.le_of_ble_eq_true rfl)⟩ (Nat.zero_add _) (Nat.zero_add _) ?_
  refine gq_aload_n hX dX4_tailLength_5 rfl rfl rfl ?_
  refine gq_getf hX dX4_tailLength_6 rfl fX4_10 hW.c0 rfl ?_
  refine gq_iload_n hX dX4_tailLength_9 rfl rfl rfl ?_
  refine gq_callVe hX dX4_tailLength_10 rfl vX4_135 (Ct.rdS hb hW (i := 0) (by decide) rfl (ct_lengthBehind (hb.bS (i := 0) (by decide)) hwf _)) rfl (hW.s0 (i := 0) (by decide)) rfl rfl (Nat.le_of_ble_eq_true rfl) ⟨(Nat.le_of_ble_eq_true rfl), (Nat.le_of_ble_eq_true rfl)⟩ (Nat.zero_add _) (Nat.zero_add _) ?_
  exact gq_iret hX hQ dX4_tailLength_13 rfl ⟨rfl, rfl⟩

set_option maxRecDepth 100000 in
set_option maxHeartbeats 4000000 in
theorem cr_tailsOf_1 {E : Ev} {b : Nat → Nat} {K : Kt} {M : Hp} (hb : Lay E 162 b) (hW : Wd E b K M) {nc nt no : Nat} (hwf : Wf (K.2.1 0) nc nt no) (c : Int32) (hF : hasI nc c = 0) : CtX E mX4_tailsOf [.ref (b 0), .int c] M NoR (PXe "java/lang/IndexOutOfBoundsException" M) 1 6 := by
  refine CtX.of gmX4_tailsOf (ls := [.ref (b 0), .int c]) rfl rfl (Nat.le_of_ble_eq_true rfl) ?_
  intro X hX Q hQ hQ2
  refine gq_aload_n hX dX4_tailsOf_0 rfl rfl rfl ?_
  refine gq_iload_n hX dX4_tailsOf_1 rfl rfl rfl ?_
  exact gq_callVXe (nc1 := 0) (ns1 := 0) hX dX4_tailsOf_2 vX4_120 (cq_Com_1 hb hW hwf _ hF) rfl hW.c0 rfl rfl (Nat.le_of_ble_eq_true rfl) ⟨(Nat.le_of_ble_eq_true rfl), (Nat.le_of_ble_eq_true rfl)⟩ rfl rfl (gx_out hX hQ2 rfl ⟨rfl, rfl⟩)

set_option maxRecDepth 100000 in
set_option maxHeartbeats 4000000 in
theorem cr_tailsOf_ok {E : Ev} {b : Nat → Nat} {K : Kt} {M : Hp} (hb : Lay E 162 b) (hW : Wd E b K M) {nc nt no : Nat} (hwf : Wf (K.2.1 0) nc nt no) {j : Nat} (hj : j < nc) : Ct E mX4_tailsOf [.ref (b 0), .int (nI j)] M (eqR (some (.int (taiB (K.2.1 0) nt (nI j)))) M) 0 0 := by
  refine Ct.of gmX4_tailsOf (ls := [.ref (b 0), .int (nI j)]) rfl rfl (Nat.le_of_ble_eq_true rfl) ?_
  intro X hX Q hQ
  have hwf2 := hwf
  obtain ⟨hnc, hncl, hnt, hntl, hno, hnol⟩ := hwf2
  refine gq_aload_n hX dX4_tailsOf_0 rfl rfl rfl ?_
  refine gq_iload_n hX dX4_tailsOf_1 rfl rfl rfl ?_
  refine gq_callVe hX dX4_tailsOf_2 rfl vX4_120 (cq_Com_ok hb hW hwf hj) rfl hW.c0 rfl rfl (Nat.le_of_ble_eq_true rfl) ⟨(Nat.le_of_ble_eq_true rfl), (Nat.le_of_ble_eq_true rfl)⟩ (Nat.zero_add _) (Nat.zero_add _) ?_
  refine gq_aload_n hX dX4_tailsOf_5 rfl rfl rfl ?_
  refine gq_getf hX dX4_tailsOf_6 rfl fX4_10 hW.c0 rfl ?_
  refine gq_iload_n hX dX4_tailsOf_9 rfl rfl rfl ?_
  refine gq_callVe hX dX4_tailsOf_10 rfl vX4_138 (Ct.rdS hb hW (i := 0) (by decide) rfl (ct_tailsBehind (hb.bS (i := 0) (by decide)) hwf _)) rfl (hW.s0 (i := 0) (by decide)) rfl rfl (Nat.le_of_ble_eq_true rfl) ⟨(Nat.le_of_ble_eq_true rfl), (Nat.le_of_ble_eq_true rfl)⟩ (Nat.zero_add _) (Nat.zero_add _) ?_
  exact gq_iret hX hQ dX4_tailsOf_13 rfl ⟨rfl, rfl⟩

set_option maxRecDepth 100000 in
set_option maxHeartbeats 4000000 in
theorem cr_length_1 {E : Ev} {b : Nat → Nat} {K : Kt} {M : Hp} (hb : Lay E 162 b) (hW : Wd E b K M) {nc nt no : Nat} (hwf : Wf (K.2.1 0) nc nt no) (c : Int32) (hF : hasI nt c = 0) : CtX E mX4_length [.ref (b 0), .int c] M NoR (PXe "java/lang/IndexOutOfBoundsException" M) 1 6 := by
  refine CtX.of gmX4_length (ls := [.ref (b 0), .int c]) rfl rfl (Nat.le_of_ble_eq_true rfl) ?_
  intro X hX Q hQ hQ2
  refine gq_aload_n hX dX4_length_0 rfl rfl rfl ?_
  refine gq_iload_n hX dX4_length_1 rfl rfl rfl ?_
  exact gq_callVXe (nc1 := 0) (ns1 := 0) hX dX4_length_2 vX4_144 (cq_Tail_1 hb hW hwf _ hF) rfl hW.c0 rfl rfl (Nat.le_of_ble_eq_true rfl) ⟨(Nat.le_of_ble_eq_true rfl), (Nat.le_of_ble_eq_true rfl)⟩ rfl rfl (gx_out hX hQ2 rfl ⟨rfl, rfl⟩)

set_option maxRecDepth 100000 in
set_option maxHeartbeats 4000000 in
theorem cr_isFree_1 {E : Ev} {b : Nat → Nat} {K : Kt} {M : Hp} (hb : Lay E 162 b) (hW : Wd E b K M) {nc nt no : Nat} (hwf : Wf (K.2.1 0) nc nt no) (c : Int32) (hF : hasI nt c = 0) : CtX E mX4_isFree [.ref (b 0), .int c] M NoR (PXe "java/lang/IndexOutOfBoundsException" M) 1 6 := by
  refine CtX.of gmX4_isFree (ls := [.ref (b 0), .int c]) rfl rfl (Nat.le_of_ble_eq_true rfl) ?_
  intro X hX Q hQ hQ2
  refine gq_aload_n hX dX4_isFree_0 rfl rfl rfl ?_
  refine gq_iload_n hX dX4_isFree_1 rfl rfl rfl ?_
  exact gq_callVXe (nc1 := 0) (ns1 := 0) hX dX4_isFree_2 vX4_144 (cq_Tail_1 hb hW hwf _ hF) rfl hW.c0 rfl rfl (Nat.le_of_ble_eq_true rfl) ⟨(Nat.le_of_ble_eq_true rfl), (Nat.le_of_ble_eq_true rfl)⟩ rfl rfl (gx_out hX hQ2 rfl ⟨rfl, rfl⟩)

set_option maxRecDepth 100000 in
set_option maxHeartbeats 4000000 in
theorem cr_renterOf_1 {E : Ev} {b : Nat → Nat} {K : Kt} {M : Hp} (hb : Lay E 162 b) (hW : Wd E b K M) {nc nt no : Nat} (hwf : Wf (K.2.1 0) nc nt no) (c : Int32) (hF : hasI nt c = 0) : CtX E mX4_renterOf [.ref (b 0), .int c] M NoR (PXe "java/lang/IndexOutOfBoundsException" M) 1 6 := by
  refine CtX.of gmX4_renterOf (ls := [.ref (b 0), .int c]) rfl rfl (Nat.le_of_ble_eq_true rfl) ?_
  intro X hX Q hQ hQ2
  refine gq_aload_n hX dX4_renterOf_0 rfl rfl rfl ?_
  refine gq_iload_n hX dX4_renterOf_1 rfl rfl rfl ?_
  exact gq_callVXe (nc1 := 0) (ns1 := 0) hX dX4_renterOf_2 vX4_144 (cq_Tail_1 hb hW hwf _ hF) rfl hW.c0 rfl rfl (Nat.le_of_ble_eq_true rfl) ⟨(Nat.le_of_ble_eq_true rfl), (Nat.le_of_ble_eq_true rfl)⟩ rfl rfl (gx_out hX hQ2 rfl ⟨rfl, rfl⟩)

set_option maxRecDepth 100000 in
set_option maxHeartbeats 4000000 in
theorem cr_length_ok {E : Ev} {b : Nat → Nat} {K : Kt} {M : Hp} (hb : Lay E 162 b) (hW : Wd E b K M) {nc nt no : Nat} (hwf : Wf (K.2.1 0) nc nt no) {j : Nat} (hj : j < nt) : Ct E mX4_length [.ref (b 0), .int (nI j)] M (eqR (some (.int ((K.2.1 0).2 4 j))) M) 0 0 := by
  refine Ct.of gmX4_length (ls := [.ref (b 0), .int (nI j)]) rfl rfl (Nat.le_of_ble_eq_true rfl) ?_
  intro X hX Q hQ
  have hwf2 := hwf
  obtain ⟨hnc, hncl, hnt, hntl, hno, hnol⟩ := hwf2
  refine gq_aload_n hX dX4_length_0 rfl rfl rfl ?_
  refine gq_iload_n hX dX4_length_1 rfl rfl rfl ?_
  refine gq_callVe hX dX4_length_2 rfl vX4_144 (cq_Tail_ok hb hW hwf hj) rfl hW.c0 rfl rfl (Nat.le_of_ble_eq_true rfl) ⟨(Nat.le_of_ble_eq_true rfl), (Nat.le_of_ble_eq_true rfl)⟩ (Nat.zero_add _) (Nat.zero_add _) ?_
  refine gq_aload_n hX dX4_length_5 rfl rfl rfl ?_
  refine gq_getf hX dX4_length_6 rfl fX4_10 hW.c0 rfl ?_
  refine gq_getf hX dX4_length_9 rfl fX4_147 (hW.s0 (i := 0) (by decide)) rfl ?_
  refine gq_iload_n hX dX4_length_12 rfl rfl rfl ?_
  refine gq_ialdN hX dX4_length_13 rfl (hW.s4 (i := 0) (by decide)) rfl (by omega) (Nat.le_of_ble_eq_true rfl) ?_
  exact gq_iret hX hQ dX4_length_14 rfl ⟨rfl, rfl⟩

set_option maxRecDepth 100000 in
set_option maxHeartbeats 4000000 in
theorem cr_isFree_ok {E : Ev} {b : Nat → Nat} {K : Kt} {M : Hp} (hb : Lay E 162 b) (hW : Wd E b K M) {nc nt no : Nat} (hwf : Wf (K.2.1 0) nc nt no) {j : Nat} (hj : j < nt) : Ct E mX4_isFree [.ref (b 0), .int (nI j)] M (eqR (some (.int (if (K.2.1 0).2 5 j = -1 then nI 1 else nI 0))) M) 0 0 := by
  refine Ct.of gmX4_isFree (ls := [.ref (b 0), .int (nI j)]) rfl rfl (Nat.le_of_ble_eq_true rfl) ?_
  intro X hX Q hQ
  have hwf2 := hwf
  obtain ⟨hnc, hncl, hnt, hntl, hno, hnol⟩ := hwf2
  refine gq_aload_n hX dX4_isFree_0 rfl rfl rfl ?_
  refine gq_iload_n hX dX4_isFree_1 rfl rfl rfl ?_
  refine gq_callVe hX dX4_isFree_2 rfl vX4_144 (cq_Tail_ok hb hW hwf hj) rfl hW.c0 rfl rfl (Nat.le_of_ble_eq_true rfl) ⟨(Nat.le_of_ble_eq_true rfl), (Nat.le_of_ble_eq_true rfl)⟩ (Nat.zero_add _) (Nat.zero_add _) ?_
  refine gq_aload_n hX dX4_isFree_5 rfl rfl rfl ?_
  refine gq_getf hX dX4_isFree_6 rfl fX4_10 hW.c0 rfl ?_
  refine gq_getf hX dX4_isFree_9 rfl fX4_150 (hW.s0 (i := 0) (by decide)) rfl ?_
  refine gq_iload_n hX dX4_isFree_12 rfl rfl rfl ?_
  refine gq_ialdN hX dX4_isFree_13 rfl (hW.s5 (i := 0) (by decide)) rfl (by omega) (Nat.le_of_ble_eq_true rfl) ?_
  refine gq_iconst (v := -1) hX dX4_isFree_14 rfl (by decide) ?_
  refine gq_icmp_ne (tgt := 22) hX dX4_isFree_15 rfl rfl (fun c9 => ?_) (fun c9 => ?_)
  · refine gq_iconst (v := nI 0) hX dX4_isFree_22 rfl (by decide) ?_
    exact gq_zret hX hQ dX4_isFree_23 rfl rfl ⟨by rw [if_neg c9], rfl⟩
  · refine gq_iconst (v := nI 1) hX dX4_isFree_18 rfl (by decide) ?_
    refine gq_goto (tgt := 23) hX dX4_isFree_19 rfl ?_
    exact gq_zret hX hQ dX4_isFree_23 rfl rfl ⟨by rw [if_pos (show (K.2.1 0).2 5 j = -1 from c9)], rfl⟩

set_option maxRecDepth 100000 in
set_option maxHeartbeats 4000000 in
theorem cr_renterOf_2 {E : Ev} {b : Nat → Nat} {K : Kt} {M : Hp} (hb : Lay E 162 b) (hW : Wd E b K M) {nc nt no : Nat} (hwf : Wf (K.2.1 0) nc nt no) {j : Nat} (hj : j < nt) (h5 : (K.2.1 0).2 5 j = -1) : CtX E mX4_renterOf [.ref (b 0), .int (nI j)] M NoR (PXe "java/util/NoSuchElementException" M) 1 6 := by
  refine CtX.of gmX4_renterOf (ls := [.ref (b 0), .int (nI j)]) rfl rfl (Nat.le_of_ble_eq_true rfl) ?_
  intro X hX Q hQ hQ2
  have hwf2 := hwf
  obtain ⟨hnc, hncl, hnt, hntl, hno, hnol⟩ := hwf2
  refine gq_aload_n hX dX4_renterOf_0 rfl rfl rfl ?_
  refine gq_iload_n hX dX4_renterOf_1 rfl rfl rfl ?_
  refine gq_callVe hX dX4_renterOf_2 rfl vX4_144 (cq_Tail_ok hb hW hwf hj) rfl hW.c0 rfl rfl (Nat.le_of_ble_eq_true rfl) ⟨(Nat.le_of_ble_eq_true rfl), (Nat.le_of_ble_eq_true rfl)⟩ (Nat.zero_add _) (Nat.zero_add _) ?_
  refine gq_aload_n hX dX4_renterOf_5 rfl rfl rfl ?_
  refine gq_getf hX dX4_renterOf_6 rfl fX4_10 hW.c0 rfl ?_
  refine gq_getf hX dX4_renterOf_9 rfl fX4_150 (hW.s0 (i := 0) (by decide)) rfl ?_
  refine gq_iload_n hX dX4_renterOf_12 rfl rfl rfl ?_
  refine gq_ialdN hX dX4_renterOf_13 rfl (hW.s5 (i := 0) (by decide)) rfl (by omega) (Nat.le_of_ble_eq_true rfl) ?_
  refine gq_iconst (v := -1) hX dX4_renterOf_14 rfl (by decide) ?_
  refine gq_icmp_neF (tgt := 28) hX dX4_renterOf_15 rfl rfl h5 ?_
  exact gq_throw hX hQ2 rfl th153 rfl (List.mem_of_getElem? (i := 10) rfl) dX4_renterOf_18 dX4_renterOf_21 dX4_renterOf_22 dX4_renterOf_24 dX4_renterOf_27 (Nat.le_of_ble_eq_true rfl) (Nat.le_of_ble_eq_true rfl) (Nat.le_of_ble_eq_true rfl) (Nat.le_of_ble_eq_true rfl) ⟨rfl, rfl⟩

set_option maxRecDepth 100000 in
set_option maxHeartbeats 4000000 in
theorem cr_renterOf_ok {E : Ev} {b : Nat → Nat} {K : Kt} {M : Hp} (hb : Lay E 162 b) (hW : Wd E b K M) {nc nt no : Nat} (hwf : Wf (K.2.1 0) nc nt no) {j : Nat} (hj : j < nt) (h5 : ¬ (K.2.1 0).2 5 j = -1) : Ct E mX4_renterOf [.ref (b 0), .int (nI j)] M (eqR (some (.int ((K.2.1 0).2 5 j))) M) 0 0 := by
  refine Ct.of gmX4_renterOf (ls := [.ref (b 0), .int (nI j)]) rfl rfl (Nat.le_of_ble_eq_true rfl) ?_
  intro X hX Q hQ
  have hwf2 := hwf
  obtain ⟨hnc, hncl, hnt, hntl, hno, hnol⟩ := hwf2
  refine gq_aload_n hX dX4_renterOf_0 rfl rfl rfl ?_
  refine gq_iload_n hX dX4_renterOf_1 rfl rfl rfl ?_
  refine gq_callVe hX dX4_renterOf_2 rfl vX4_144 (cq_Tail_ok hb hW hwf hj) rfl hW.c0 rfl rfl (Nat.le_of_ble_eq_true rfl) ⟨(Nat.le_of_ble_eq_true rfl), (Nat.le_of_ble_eq_true rfl)⟩ (Nat.zero_add _) (Nat.zero_add _) ?_
  refine gq_aload_n hX dX4_renterOf_5 rfl rfl rfl ?_
  refine gq_getf hX dX4_renterOf_6 rfl fX4_10 hW.c0 rfl ?_
  refine gq_getf hX dX4_renterOf_9 rfl fX4_150 (hW.s0 (i := 0) (by decide)) rfl ?_
  refine gq_iload_n hX dX4_renterOf_12 rfl rfl rfl ?_
  refine gq_ialdN hX dX4_renterOf_13 rfl (hW.s5 (i := 0) (by decide)) rfl (by omega) (Nat.le_of_ble_eq_true rfl) ?_
  refine gq_iconst (v := -1) hX dX4_renterOf_14 rfl (by decide) ?_
  refine gq_icmp_neT (tgt := 28) hX dX4_renterOf_15 rfl h5 ?_
  refine gq_aload_n hX dX4_renterOf_28 rfl rfl rfl ?_
  refine gq_getf hX dX4_renterOf_29 rfl fX4_10 hW.c0 rfl ?_
  refine gq_getf hX dX4_renterOf_32 rfl fX4_150 (hW.s0 (i := 0) (by decide)) rfl ?_
  refine gq_iload_n hX dX4_renterOf_35 rfl rfl rfl ?_
  refine gq_ialdN hX dX4_renterOf_36 rfl (hW.s5 (i := 0) (by decide)) rfl (by omega) (Nat.le_of_ble_eq_true rfl) ?_
  exact gq_iret hX hQ dX4_renterOf_37 rfl ⟨rfl, rfl⟩

set_option maxRecDepth 100000 in
set_option maxHeartbeats 4000000 in
theorem cr_shortest_1 {E : Ev} {b : Nat → Nat} {K : Kt} {M : Hp} (hb : Lay E 162 b) (hW : Wd E b K M) {nc nt no : Nat} (hwf : Wf (K.2.1 0) nc nt no) (ho : shO (K.2.1 0) nt = none) : CtX E mX4_shortestFreeTail [.ref (b 0)] M NoR (PXe "java/util/NoSuchElementException" M) 1 6 := by
  refine CtX.of gmX4_shortestFreeTail (ls := [.ref (b 0), hole]) rfl rfl (Nat.le_of_ble_eq_true rfl) ?_
  intro X hX Q hQ hQ2
  have hwf2 := hwf
  obtain ⟨hnc, hncl, hnt, hntl, hno, hnol⟩ := hwf2
  have hct := ct_shortestFree (M := M) (hb.bS (i := 0) (by decide)) hwf 
  rw [ho] at hct
  refine gq_aload_n hX dX4_shortestFreeTail_0 rfl rfl rfl ?_
  refine gq_getf hX dX4_shortestFreeTail_1 rfl fX4_10 hW.c0 rfl ?_
  refine gq_callVe hX dX4_shortestFreeTail_4 rfl vX4_158 (Ct.rdS hb hW (i := 0) (by decide) rfl (hct)) rfl (hW.s0 (i := 0) (by decide)) rfl rfl (Nat.le_of_ble_eq_true rfl) ⟨(Nat.le_of_ble_eq_true rfl), (Nat.le_of_ble_eq_true rfl)⟩ (Nat.zero_add _) (Nat.zero_add _) ?_
  refine gq_istore_n hX dX4_shortestFreeTail_7 rfl rfl (Nat.le_of_ble_eq_true rfl) rfl ?_
  refine gq_iload_n hX dX4_shortestFreeTail_8 rfl rfl rfl ?_
  refine gq_iconst (v := -1) hX dX4_shortestFreeTail_9 rfl (by decide) ?_
  refine gq_icmp_neF (tgt := 23) hX dX4_shortestFreeTail_10 rfl rfl rfl ?_
  exact gq_throw hX hQ2 rfl th153 rfl (List.mem_of_getElem? (i := 11) rfl) dX4_shortestFreeTail_13 dX4_shortestFreeTail_16 dX4_shortestFreeTail_17 dX4_shortestFreeTail_19 dX4_shortestFreeTail_22 (Nat.le_of_ble_eq_true rfl) (Nat.le_of_ble_eq_true rfl) (Nat.le_of_ble_eq_true rfl) (Nat.le_of_ble_eq_true rfl) ⟨rfl, rfl⟩

set_option maxRecDepth 100000 in
set_option maxHeartbeats 4000000 in
theorem cr_shortest_ok {E : Ev} {b : Nat → Nat} {K : Kt} {M : Hp} (hb : Lay E 162 b) (hW : Wd E b K M) {nc nt no : Nat} (hwf : Wf (K.2.1 0) nc nt no) {k : Nat} (ho : shO (K.2.1 0) nt = some k) (hk : k < 100) : Ct E mX4_shortestFreeTail [.ref (b 0)] M (eqR (some (.int (nI k))) M) 0 0 := by
  refine Ct.of gmX4_shortestFreeTail (ls := [.ref (b 0), hole]) rfl rfl (Nat.le_of_ble_eq_true rfl) ?_
  intro X hX Q hQ
  have hwf2 := hwf
  obtain ⟨hnc, hncl, hnt, hntl, hno, hnol⟩ := hwf2
  have hct := ct_shortestFree (M := M) (hb.bS (i := 0) (by decide)) hwf 
  rw [ho] at hct
  refine gq_aload_n hX dX4_shortestFreeTail_0 rfl rfl rfl ?_
  refine gq_getf hX dX4_shortestFreeTail_1 rfl fX4_10 hW.c0 rfl ?_
  refine gq_callVe hX dX4_shortestFreeTail_4 rfl vX4_158 (Ct.rdS hb hW (i := 0) (by decide) rfl (hct)) rfl (hW.s0 (i := 0) (by decide)) rfl rfl (Nat.le_of_ble_eq_true rfl) ⟨(Nat.le_of_ble_eq_true rfl), (Nat.le_of_ble_eq_true rfl)⟩ (Nat.zero_add _) (Nat.zero_add _) ?_
  refine gq_istore_n hX dX4_shortestFreeTail_7 rfl rfl (Nat.le_of_ble_eq_true rfl) rfl ?_
  refine gq_iload_n hX dX4_shortestFreeTail_8 rfl rfl rfl ?_
  refine gq_iconst (v := -1) hX dX4_shortestFreeTail_9 rfl (by decide) ?_
  refine gq_icmp_neT (tgt := 23) hX dX4_shortestFreeTail_10 rfl (nI_m1 (by omega)) ?_
  refine gq_iload_n hX dX4_shortestFreeTail_23 rfl rfl rfl ?_
  exact gq_iret hX hQ dX4_shortestFreeTail_24 rfl ⟨rfl, rfl⟩

set_option maxRecDepth 100000 in
set_option maxHeartbeats 4000000 in
theorem cr_rank_1 {E : Ev} {b : Nat → Nat} {K : Kt} {M : Hp} (hb : Lay E 162 b) (hW : Wd E b K M) {nc nt no : Nat} (hwf : Wf (K.2.1 0) nc nt no) (r : Int32) (ho : rankO (K.2.1 0) nc r = none) : CtX E mX4_committeeAtRank [.ref (b 0), .int r] M NoR (PXe "java/util/NoSuchElementException" M) 1 6 := by
  refine CtX.of gmX4_committeeAtRank (ls := [.ref (b 0), .int r, hole]) rfl rfl (Nat.le_of_ble_eq_true rfl) ?_
  intro X hX Q hQ hQ2
  have hwf2 := hwf
  obtain ⟨hnc, hncl, hnt, hntl, hno, hnol⟩ := hwf2
  have hct := ct_committeeRanked (M := M) (hb.bS (i := 0) (by decide)) hwf r
  rw [ho] at hct
  refine gq_aload_n hX dX4_committeeAtRank_0 rfl rfl rfl ?_
  refine gq_getf hX dX4_committeeAtRank_1 rfl fX4_10 hW.c0 rfl ?_
  refine gq_iload_n hX dX4_committeeAtRank_4 rfl rfl rfl ?_
  refine gq_callVe hX dX4_committeeAtRank_5 rfl vX4_275 (Ct.rdS hb hW (i := 0) (by decide) rfl (hct)) rfl (hW.s0 (i := 0) (by decide)) rfl rfl (Nat.le_of_ble_eq_true rfl) ⟨(Nat.le_of_ble_eq_true rfl), (Nat.le_of_ble_eq_true rfl)⟩ (Nat.zero_add _) (Nat.zero_add _) ?_
  refine gq_istore_n hX dX4_committeeAtRank_8 rfl rfl (Nat.le_of_ble_eq_true rfl) rfl ?_
  refine gq_iload_n hX dX4_committeeAtRank_9 rfl rfl rfl ?_
  refine gq_iconst (v := -1) hX dX4_committeeAtRank_10 rfl (by decide) ?_
  refine gq_icmp_neF (tgt := 25) hX dX4_committeeAtRank_11 rfl rfl rfl ?_
  exact gq_throwW hX hQ2 rfl th153 rfl (List.mem_of_getElem? (i := 23) rfl) dX4_committeeAtRank_14 dX4_committeeAtRank_17 dX4_committeeAtRank_18 dX4_committeeAtRank_21 dX4_committeeAtRank_24 (Nat.le_of_ble_eq_true rfl) (Nat.le_of_ble_eq_true rfl) (Nat.le_of_ble_eq_true rfl) (Nat.le_of_ble_eq_true rfl) ⟨rfl, rfl⟩

set_option maxRecDepth 100000 in
set_option maxHeartbeats 4000000 in
theorem cr_rank_ok {E : Ev} {b : Nat → Nat} {K : Kt} {M : Hp} (hb : Lay E 162 b) (hW : Wd E b K M) {nc nt no : Nat} (hwf : Wf (K.2.1 0) nc nt no) (r : Int32) {k : Nat} (ho : rankO (K.2.1 0) nc r = some k) (hk : k < 100) : Ct E mX4_committeeAtRank [.ref (b 0), .int r] M (eqR (some (.int (nI k))) M) 0 0 := by
  refine Ct.of gmX4_committeeAtRank (ls := [.ref (b 0), .int r, hole]) rfl rfl (Nat.le_of_ble_eq_true rfl) ?_
  intro X hX Q hQ
  have hwf2 := hwf
  obtain ⟨hnc, hncl, hnt, hntl, hno, hnol⟩ := hwf2
  have hct := ct_committeeRanked (M := M) (hb.bS (i := 0) (by decide)) hwf r
  rw [ho] at hct
  refine gq_aload_n hX dX4_committeeAtRank_0 rfl rfl rfl ?_
  refine gq_getf hX dX4_committeeAtRank_1 rfl fX4_10 hW.c0 rfl ?_
  refine gq_iload_n hX dX4_committeeAtRank_4 rfl rfl rfl ?_
  refine gq_callVe hX dX4_committeeAtRank_5 rfl vX4_275 (Ct.rdS hb hW (i := 0) (by decide) rfl (hct)) rfl (hW.s0 (i := 0) (by decide)) rfl rfl (Nat.le_of_ble_eq_true rfl) ⟨(Nat.le_of_ble_eq_true rfl), (Nat.le_of_ble_eq_true rfl)⟩ (Nat.zero_add _) (Nat.zero_add _) ?_
  refine gq_istore_n hX dX4_committeeAtRank_8 rfl rfl (Nat.le_of_ble_eq_true rfl) rfl ?_
  refine gq_iload_n hX dX4_committeeAtRank_9 rfl rfl rfl ?_
  refine gq_iconst (v := -1) hX dX4_committeeAtRank_10 rfl (by decide) ?_
  refine gq_icmp_neT (tgt := 25) hX dX4_committeeAtRank_11 rfl (nI_m1 (by omega)) ?_
  refine gq_iload_n hX dX4_committeeAtRank_25 rfl rfl rfl ?_
  exact gq_iret hX hQ dX4_committeeAtRank_26 rfl ⟨rfl, rfl⟩

theorem hasI_0 {n : Nat} {c : Int32} (hF : hasI n c = 0) : c < 0 ∨ (¬ c < 0 ∧ nI n ≤ c) := by
  unfold hasI at hF
  by_cases h1 : c < 0
  · exact Or.inl h1
  · rw [if_neg h1] at hF
    by_cases h2 : nI n ≤ c
    · exact Or.inr ⟨h1, h2⟩
    · rw [if_neg h2] at hF
      exact absurd hF (by decide)

set_option maxRecDepth 100000 in
set_option maxHeartbeats 4000000 in
theorem cr_motionAt_1 {E : Ev} {b : Nat → Nat} {K : Kt} {M : Hp} (hb : Lay E 162 b) (hW : Wd E b K M) {nc nt no : Nat} (hwf : Wf (K.2.1 0) nc nt no) (c : Int32) (hF : hasI no c = 0) : CtX E mX4_motionAt [.ref (b 0), .int c] M NoR (PXe "java/lang/IndexOutOfBoundsException" M) 1 6 := by
  refine CtX.of gmX4_motionAt (ls := [.ref (b 0), .int c]) rfl rfl (Nat.le_of_ble_eq_true rfl) ?_
  intro X hX Q hQ hQ2
  have hwf2 := hwf
  obtain ⟨hnc, hncl, hnt, hntl, hno, hnol⟩ := hwf2
  refine gq_iload_n hX dX4_motionAt_0 rfl rfl rfl ?_
  rcases hasI_0 hF with h1 | ⟨h1, h2⟩
  · refine gq_if_ltT (tgt := 18) hX dX4_motionAt_1 rfl h1 ?_
    exact gq_throw hX hQ2 rfl th94 rfl (List.mem_of_getElem? (i := 19) rfl) dX4_motionAt_18 dX4_motionAt_21 dX4_motionAt_22 dX4_motionAt_24 dX4_motionAt_27 (Nat.le_of_ble_eq_true rfl) (Nat.le_of_ble_eq_true rfl) (Nat.le_of_ble_eq_true rfl) (Nat.le_of_ble_eq_true rfl) ⟨rfl, rfl⟩
  · refine gq_if_ltF (tgt := 18) hX dX4_motionAt_1 rfl rfl h1 ?_
    refine gq_iload_n hX dX4_motionAt_4 rfl rfl rfl ?_
    refine gq_aload_n hX dX4_motionAt_5 rfl rfl rfl ?_
    refine gq_getf hX dX4_motionAt_6 rfl fX4_10 hW.c0 rfl ?_
    refine gq_getf hX dX4_motionAt_9 rfl fX4_209 (hW.s0 (i := 0) (by decide)) rfl ?_
    refine gq_getf hX dX4_motionAt_12 rfl fX4_213 (hW.s6 (i := 0) (by decide)) rfl ?_
    refine gq_icmp_ltF (tgt := 28) hX dX4_motionAt_15 rfl rfl (by rw [hno]; exact i32_lt.mpr h2) ?_
    exact gq_throw hX hQ2 rfl th94 rfl (List.mem_of_getElem? (i := 19) rfl) dX4_motionAt_18 dX4_motionAt_21 dX4_motionAt_22 dX4_motionAt_24 dX4_motionAt_27 (Nat.le_of_ble_eq_true rfl) (Nat.le_of_ble_eq_true rfl) (Nat.le_of_ble_eq_true rfl) (Nat.le_of_ble_eq_true rfl) ⟨rfl, rfl⟩

set_option maxRecDepth 100000 in
set_option maxHeartbeats 4000000 in
theorem cr_motionAt_ok {E : Ev} {b : Nat → Nat} {K : Kt} {M : Hp} (hb : Lay E 162 b) (hW : Wd E b K M) {nc nt no : Nat} (hwf : Wf (K.2.1 0) nc nt no) {j : Nat} (hj : j < no) : Ct E mX4_motionAt [.ref (b 0), .int (nI j)] M (eqR (some (.int ((K.2.1 0).2 7 j))) M) 0 0 := by
  refine Ct.of gmX4_motionAt (ls := [.ref (b 0), .int (nI j)]) rfl rfl (Nat.le_of_ble_eq_true rfl) ?_
  intro X hX Q hQ
  have hwf2 := hwf
  obtain ⟨hnc, hncl, hnt, hntl, hno, hnol⟩ := hwf2
  refine gq_iload_n hX dX4_motionAt_0 rfl rfl rfl ?_
  refine gq_if_ltF (tgt := 18) hX dX4_motionAt_1 rfl rfl (nI_pos (by omega)) ?_
  refine gq_iload_n hX dX4_motionAt_4 rfl rfl rfl ?_
  refine gq_aload_n hX dX4_motionAt_5 rfl rfl rfl ?_
  refine gq_getf hX dX4_motionAt_6 rfl fX4_10 hW.c0 rfl ?_
  refine gq_getf hX dX4_motionAt_9 rfl fX4_209 (hW.s0 (i := 0) (by decide)) rfl ?_
  refine gq_getf hX dX4_motionAt_12 rfl fX4_213 (hW.s6 (i := 0) (by decide)) rfl ?_
  refine gq_icmp_ltT (tgt := 28) hX dX4_motionAt_15 rfl (by rw [hno]; exact nI_lt hj (by omega)) ?_
  refine gq_aload_n hX dX4_motionAt_28 rfl rfl rfl ?_
  refine gq_getf hX dX4_motionAt_29 rfl fX4_10 hW.c0 rfl ?_
  refine gq_getf hX dX4_motionAt_32 rfl fX4_209 (hW.s0 (i := 0) (by decide)) rfl ?_
  refine gq_getf hX dX4_motionAt_35 rfl fX4_220 (hW.s6 (i := 0) (by decide)) rfl ?_
  refine gq_iload_n hX dX4_motionAt_38 rfl rfl rfl ?_
  refine gq_ialdN hX dX4_motionAt_39 rfl (hW.s7 (i := 0) (by decide)) rfl (by omega) (Nat.le_of_ble_eq_true rfl) ?_
  exact gq_iret hX hQ dX4_motionAt_40 rfl ⟨rfl, rfl⟩

set_option maxRecDepth 100000 in
set_option maxHeartbeats 4000000 in
theorem cr_moverOf_1 {E : Ev} {b : Nat → Nat} {K : Kt} {M : Hp} (hb : Lay E 162 b) (hW : Wd E b K M) {nc nt no : Nat} (hwf : Wf (K.2.1 0) nc nt no) {id : Int32} (ho : slotO (K.2.1 0) no id = none) : CtX E mX4_moverOf [.ref (b 0), .int id] M NoR (PXe "java/util/NoSuchElementException" M) 1 6 := by
  refine CtX.of gmX4_moverOf (ls := [.ref (b 0), .int id, hole]) rfl rfl (Nat.le_of_ble_eq_true rfl) ?_
  intro X hX Q hQ hQ2
  refine gq_aload_n hX dX4_moverOf_0 rfl rfl rfl ?_
  refine gq_iload_n hX dX4_moverOf_1 rfl rfl rfl ?_
  exact gq_callVXe (nc1 := 0) (ns1 := 0) hX dX4_moverOf_2 vX4_223 (cq_Mot_1 hb hW hwf ho) rfl hW.c0 rfl rfl (Nat.le_of_ble_eq_true rfl) ⟨(Nat.le_of_ble_eq_true rfl), (Nat.le_of_ble_eq_true rfl)⟩ rfl rfl (gx_out hX hQ2 rfl ⟨rfl, rfl⟩)

set_option maxRecDepth 100000 in
set_option maxHeartbeats 4000000 in
theorem cr_isSeconded_1 {E : Ev} {b : Nat → Nat} {K : Kt} {M : Hp} (hb : Lay E 162 b) (hW : Wd E b K M) {nc nt no : Nat} (hwf : Wf (K.2.1 0) nc nt no) {id : Int32} (ho : slotO (K.2.1 0) no id = none) : CtX E mX4_isSeconded [.ref (b 0), .int id] M NoR (PXe "java/util/NoSuchElementException" M) 1 6 := by
  refine CtX.of gmX4_isSeconded (ls := [.ref (b 0), .int id, hole]) rfl rfl (Nat.le_of_ble_eq_true rfl) ?_
  intro X hX Q hQ hQ2
  refine gq_aload_n hX dX4_isSeconded_0 rfl rfl rfl ?_
  refine gq_iload_n hX dX4_isSeconded_1 rfl rfl rfl ?_
  exact gq_callVXe (nc1 := 0) (ns1 := 0) hX dX4_isSeconded_2 vX4_223 (cq_Mot_1 hb hW hwf ho) rfl hW.c0 rfl rfl (Nat.le_of_ble_eq_true rfl) ⟨(Nat.le_of_ble_eq_true rfl), (Nat.le_of_ble_eq_true rfl)⟩ rfl rfl (gx_out hX hQ2 rfl ⟨rfl, rfl⟩)

set_option maxRecDepth 100000 in
set_option maxHeartbeats 4000000 in
theorem cr_seconderOf_1 {E : Ev} {b : Nat → Nat} {K : Kt} {M : Hp} (hb : Lay E 162 b) (hW : Wd E b K M) {nc nt no : Nat} (hwf : Wf (K.2.1 0) nc nt no) {id : Int32} (ho : slotO (K.2.1 0) no id = none) : CtX E mX4_seconderOf [.ref (b 0), .int id] M NoR (PXe "java/util/NoSuchElementException" M) 1 6 := by
  refine CtX.of gmX4_seconderOf (ls := [.ref (b 0), .int id, hole]) rfl rfl (Nat.le_of_ble_eq_true rfl) ?_
  intro X hX Q hQ hQ2
  refine gq_aload_n hX dX4_seconderOf_0 rfl rfl rfl ?_
  refine gq_iload_n hX dX4_seconderOf_1 rfl rfl rfl ?_
  exact gq_callVXe (nc1 := 0) (ns1 := 0) hX dX4_seconderOf_2 vX4_223 (cq_Mot_1 hb hW hwf ho) rfl hW.c0 rfl rfl (Nat.le_of_ble_eq_true rfl) ⟨(Nat.le_of_ble_eq_true rfl), (Nat.le_of_ble_eq_true rfl)⟩ rfl rfl (gx_out hX hQ2 rfl ⟨rfl, rfl⟩)

set_option maxRecDepth 100000 in
set_option maxHeartbeats 4000000 in
theorem cr_isTabled_1 {E : Ev} {b : Nat → Nat} {K : Kt} {M : Hp} (hb : Lay E 162 b) (hW : Wd E b K M) {nc nt no : Nat} (hwf : Wf (K.2.1 0) nc nt no) {id : Int32} (ho : slotO (K.2.1 0) no id = none) : CtX E mX4_isTabled [.ref (b 0), .int id] M NoR (PXe "java/util/NoSuchElementException" M) 1 6 := by
  refine CtX.of gmX4_isTabled (ls := [.ref (b 0), .int id, hole]) rfl rfl (Nat.le_of_ble_eq_true rfl) ?_
  intro X hX Q hQ hQ2
  refine gq_aload_n hX dX4_isTabled_0 rfl rfl rfl ?_
  refine gq_iload_n hX dX4_isTabled_1 rfl rfl rfl ?_
  exact gq_callVXe (nc1 := 0) (ns1 := 0) hX dX4_isTabled_2 vX4_223 (cq_Mot_1 hb hW hwf ho) rfl hW.c0 rfl rfl (Nat.le_of_ble_eq_true rfl) ⟨(Nat.le_of_ble_eq_true rfl), (Nat.le_of_ble_eq_true rfl)⟩ rfl rfl (gx_out hX hQ2 rfl ⟨rfl, rfl⟩)

set_option maxRecDepth 100000 in
set_option maxHeartbeats 4000000 in
theorem cr_votesFor_1 {E : Ev} {b : Nat → Nat} {K : Kt} {M : Hp} (hb : Lay E 162 b) (hW : Wd E b K M) {nc nt no : Nat} (hwf : Wf (K.2.1 0) nc nt no) {id : Int32} (ho : slotO (K.2.1 0) no id = none) : CtX E mX4_votesFor [.ref (b 0), .int id] M NoR (PXe "java/util/NoSuchElementException" M) 1 6 := by
  refine CtX.of gmX4_votesFor (ls := [.ref (b 0), .int id, hole]) rfl rfl (Nat.le_of_ble_eq_true rfl) ?_
  intro X hX Q hQ hQ2
  refine gq_aload_n hX dX4_votesFor_0 rfl rfl rfl ?_
  refine gq_iload_n hX dX4_votesFor_1 rfl rfl rfl ?_
  exact gq_callVXe (nc1 := 0) (ns1 := 0) hX dX4_votesFor_2 vX4_223 (cq_Mot_1 hb hW hwf ho) rfl hW.c0 rfl rfl (Nat.le_of_ble_eq_true rfl) ⟨(Nat.le_of_ble_eq_true rfl), (Nat.le_of_ble_eq_true rfl)⟩ rfl rfl (gx_out hX hQ2 rfl ⟨rfl, rfl⟩)

set_option maxRecDepth 100000 in
set_option maxHeartbeats 4000000 in
theorem cr_votesForByMember_1 {E : Ev} {b : Nat → Nat} {K : Kt} {M : Hp} (hb : Lay E 162 b) (hW : Wd E b K M) {nc nt no : Nat} (hwf : Wf (K.2.1 0) nc nt no) {id : Int32} (ho : slotO (K.2.1 0) no id = none) : CtX E mX4_votesForByMember [.ref (b 0), .int id] M NoR (PXe "java/util/NoSuchElementException" M) 1 6 := by
  refine CtX.of gmX4_votesForByMember (ls := [.ref (b 0), .int id, hole]) rfl rfl (Nat.le_of_ble_eq_true rfl) ?_
  intro X hX Q hQ hQ2
  refine gq_aload_n hX dX4_votesForByMember_0 rfl rfl rfl ?_
  refine gq_iload_n hX dX4_votesForByMember_1 rfl rfl rfl ?_
  exact gq_callVXe (nc1 := 0) (ns1 := 0) hX dX4_votesForByMember_2 vX4_223 (cq_Mot_1 hb hW hwf ho) rfl hW.c0 rfl rfl (Nat.le_of_ble_eq_true rfl) ⟨(Nat.le_of_ble_eq_true rfl), (Nat.le_of_ble_eq_true rfl)⟩ rfl rfl (gx_out hX hQ2 rfl ⟨rfl, rfl⟩)

set_option maxRecDepth 100000 in
set_option maxHeartbeats 4000000 in
theorem cr_votesAgainst_1 {E : Ev} {b : Nat → Nat} {K : Kt} {M : Hp} (hb : Lay E 162 b) (hW : Wd E b K M) {nc nt no : Nat} (hwf : Wf (K.2.1 0) nc nt no) {id : Int32} (ho : slotO (K.2.1 0) no id = none) : CtX E mX4_votesAgainst [.ref (b 0), .int id] M NoR (PXe "java/util/NoSuchElementException" M) 1 6 := by
  refine CtX.of gmX4_votesAgainst (ls := [.ref (b 0), .int id, hole]) rfl rfl (Nat.le_of_ble_eq_true rfl) ?_
  intro X hX Q hQ hQ2
  refine gq_aload_n hX dX4_votesAgainst_0 rfl rfl rfl ?_
  refine gq_iload_n hX dX4_votesAgainst_1 rfl rfl rfl ?_
  exact gq_callVXe (nc1 := 0) (ns1 := 0) hX dX4_votesAgainst_2 vX4_223 (cq_Mot_1 hb hW hwf ho) rfl hW.c0 rfl rfl (Nat.le_of_ble_eq_true rfl) ⟨(Nat.le_of_ble_eq_true rfl), (Nat.le_of_ble_eq_true rfl)⟩ rfl rfl (gx_out hX hQ2 rfl ⟨rfl, rfl⟩)

set_option maxRecDepth 100000 in
set_option maxHeartbeats 4000000 in
theorem cr_describeMotion_1 {E : Ev} {b : Nat → Nat} {K : Kt} {M : Hp} (hb : Lay E 162 b) (hW : Wd E b K M) {nc nt no : Nat} (hwf : Wf (K.2.1 0) nc nt no) {id : Int32} (ho : slotO (K.2.1 0) no id = none) : CtX E mX4_describeMotion [.ref (b 0), .int id] M NoR (PXe "java/util/NoSuchElementException" M) 1 6 := by
  refine CtX.of gmX4_describeMotion (ls := [.ref (b 0), .int id, hole, hole]) rfl rfl (Nat.le_of_ble_eq_true rfl) ?_
  intro X hX Q hQ hQ2
  refine gq_aload_n hX dX4_describeMotion_0 rfl rfl rfl ?_
  refine gq_iload_n hX dX4_describeMotion_1 rfl rfl rfl ?_
  exact gq_callVXe (nc1 := 0) (ns1 := 0) hX dX4_describeMotion_2 vX4_223 (cq_Mot_1 hb hW hwf ho) rfl hW.c0 rfl rfl (Nat.le_of_ble_eq_true rfl) ⟨(Nat.le_of_ble_eq_true rfl), (Nat.le_of_ble_eq_true rfl)⟩ rfl rfl (gx_out hX hQ2 rfl ⟨rfl, rfl⟩)

set_option maxRecDepth 100000 in
set_option maxHeartbeats 4000000 in
theorem cr_moverOf_ok {E : Ev} {b : Nat → Nat} {K : Kt} {M : Hp} (hb : Lay E 162 b) (hW : Wd E b K M) {nc nt no : Nat} (hwf : Wf (K.2.1 0) nc nt no) {id : Int32} {k : Nat} (ho : slotO (K.2.1 0) no id = some k) : Ct E mX4_moverOf [.ref (b 0), .int id] M (eqR (some (.int ((K.2.1 0).2 9 k))) M) 0 0 := by
  refine Ct.of gmX4_moverOf (ls := [.ref (b 0), .int id, hole]) rfl rfl (Nat.le_of_ble_eq_true rfl) ?_
  intro X hX Q hQ
  have hwf2 := hwf
  obtain ⟨hnc, hncl, hnt, hntl, hno, hnol⟩ := hwf2
  obtain ⟨hk, hid⟩ := slotO_lt ho
  refine gq_aload_n hX dX4_moverOf_0 rfl rfl rfl ?_
  refine gq_iload_n hX dX4_moverOf_1 rfl rfl rfl ?_
  refine gq_callVe hX dX4_moverOf_2 rfl vX4_223 (cq_Mot_ok hb hW hwf ho) rfl hW.c0 rfl rfl (Nat.le_of_ble_eq_true rfl) ⟨(Nat.le_of_ble_eq_true rfl), (Nat.le_of_ble_eq_true rfl)⟩ (Nat.zero_add _) (Nat.zero_add _) ?_
  refine gq_istore_n hX dX4_moverOf_5 rfl rfl (Nat.le_of_ble_eq_true rfl) rfl ?_
  refine gq_aload_n hX dX4_moverOf_6 rfl rfl rfl ?_
  refine gq_getf hX dX4_moverOf_7 rfl fX4_10 hW.c0 rfl ?_
  refine gq_getf hX dX4_moverOf_10 rfl fX4_209 (hW.s0 (i := 0) (by decide)) rfl ?_
  refine gq_getf hX dX4_moverOf_13 rfl fX4_226 (hW.s6 (i := 0) (by decide)) rfl ?_
  refine gq_iload_n hX dX4_moverOf_16 rfl rfl rfl ?_
  refine gq_ialdN hX dX4_moverOf_17 rfl (hW.s9 (i := 0) (by decide)) rfl (by omega) (Nat.le_of_ble_eq_true rfl) ?_
  exact gq_iret hX hQ dX4_moverOf_18 rfl ⟨rfl, rfl⟩

set_option maxRecDepth 100000 in
set_option maxHeartbeats 4000000 in
theorem cr_isSeconded_ok {E : Ev} {b : Nat → Nat} {K : Kt} {M : Hp} (hb : Lay E 162 b) (hW : Wd E b K M) {nc nt no : Nat} (hwf : Wf (K.2.1 0) nc nt no) {id : Int32} {k : Nat} (ho : slotO (K.2.1 0) no id = some k) : Ct E mX4_isSeconded [.ref (b 0), .int id] M (eqR (some (.int (if (K.2.1 0).2 11 k = -1 then nI 0 else nI 1))) M) 0 0 := by
  refine Ct.of gmX4_isSeconded (ls := [.ref (b 0), .int id, hole]) rfl rfl (Nat.le_of_ble_eq_true rfl) ?_
  intro X hX Q hQ
  have hwf2 := hwf
  obtain ⟨hnc, hncl, hnt, hntl, hno, hnol⟩ := hwf2
  obtain ⟨hk, hid⟩ := slotO_lt ho
  refine gq_aload_n hX dX4_isSeconded_0 rfl rfl rfl ?_
  refine gq_iload_n hX dX4_isSeconded_1 rfl rfl rfl ?_
  refine gq_callVe hX dX4_isSeconded_2 rfl vX4_223 (cq_Mot_ok hb hW hwf ho) rfl hW.c0 rfl rfl (Nat.le_of_ble_eq_true rfl) ⟨(Nat.le_of_ble_eq_true rfl), (Nat.le_of_ble_eq_true rfl)⟩ (Nat.zero_add _) (Nat.zero_add _) ?_
  refine gq_istore_n hX dX4_isSeconded_5 rfl rfl (Nat.le_of_ble_eq_true rfl) rfl ?_
  refine gq_aload_n hX dX4_isSeconded_6 rfl rfl rfl ?_
  refine gq_getf hX dX4_isSeconded_7 rfl fX4_10 hW.c0 rfl ?_
  refine gq_getf hX dX4_isSeconded_10 rfl fX4_209 (hW.s0 (i := 0) (by decide)) rfl ?_
  refine gq_getf hX dX4_isSeconded_13 rfl fX4_229 (hW.s6 (i := 0) (by decide)) rfl ?_
  refine gq_iload_n hX dX4_isSeconded_16 rfl rfl rfl ?_
  refine gq_ialdN hX dX4_isSeconded_17 rfl (hW.s11 (i := 0) (by decide)) rfl (by omega) (Nat.le_of_ble_eq_true rfl) ?_
  refine gq_iconst (v := -1) hX dX4_isSeconded_18 rfl (by decide) ?_
  refine gq_icmp_eq (tgt := 26) hX dX4_isSeconded_19 rfl rfl (fun c9 => ?_) (fun c9 => ?_)
  · refine gq_iconst (v := nI 0) hX dX4_isSeconded_26 rfl (by decide) ?_
    exact gq_zret hX hQ dX4_isSeconded_27 rfl rfl ⟨by rw [if_pos (show (K.2.1 0).2 11 k = -1 from c9)], rfl⟩
  · refine gq_iconst (v := nI 1) hX dX4_isSeconded_22 rfl (by decide) ?_
    refine gq_goto (tgt := 27) hX dX4_isSeconded_23 rfl ?_
    exact gq_zret hX hQ dX4_isSeconded_27 rfl rfl ⟨by rw [if_neg c9], rfl⟩

set_option maxRecDepth 100000 in
set_option maxHeartbeats 4000000 in
theorem cr_seconderOf_2 {E : Ev} {b : Nat → Nat} {K : Kt} {M : Hp} (hb : Lay E 162 b) (hW : Wd E b K M) {nc nt no : Nat} (hwf : Wf (K.2.1 0) nc nt no) {id : Int32} {k : Nat} (ho : slotO (K.2.1 0) no id = some k) (h5 : (K.2.1 0).2 11 k = -1) : CtX E mX4_seconderOf [.ref (b 0), .int id] M NoR (PXe "java/lang/IllegalStateException" M) 1 6 := by
  refine CtX.of gmX4_seconderOf (ls := [.ref (b 0), .int id, hole]) rfl rfl (Nat.le_of_ble_eq_true rfl) ?_
  intro X hX Q hQ hQ2
  have hwf2 := hwf
  obtain ⟨hnc, hncl, hnt, hntl, hno, hnol⟩ := hwf2
  obtain ⟨hk, hid⟩ := slotO_lt ho
  refine gq_aload_n hX dX4_seconderOf_0 rfl rfl rfl ?_
  refine gq_iload_n hX dX4_seconderOf_1 rfl rfl rfl ?_
  refine gq_callVe hX dX4_seconderOf_2 rfl vX4_223 (cq_Mot_ok hb hW hwf ho) rfl hW.c0 rfl rfl (Nat.le_of_ble_eq_true rfl) ⟨(Nat.le_of_ble_eq_true rfl), (Nat.le_of_ble_eq_true rfl)⟩ (Nat.zero_add _) (Nat.zero_add _) ?_
  refine gq_istore_n hX dX4_seconderOf_5 rfl rfl (Nat.le_of_ble_eq_true rfl) rfl ?_
  refine gq_aload_n hX dX4_seconderOf_6 rfl rfl rfl ?_
  refine gq_getf hX dX4_seconderOf_7 rfl fX4_10 hW.c0 rfl ?_
  refine gq_getf hX dX4_seconderOf_10 rfl fX4_209 (hW.s0 (i := 0) (by decide)) rfl ?_
  refine gq_getf hX dX4_seconderOf_13 rfl fX4_229 (hW.s6 (i := 0) (by decide)) rfl ?_
  refine gq_iload_n hX dX4_seconderOf_16 rfl rfl rfl ?_
  refine gq_ialdN hX dX4_seconderOf_17 rfl (hW.s11 (i := 0) (by decide)) rfl (by omega) (Nat.le_of_ble_eq_true rfl) ?_
  refine gq_iconst (v := -1) hX dX4_seconderOf_18 rfl (by decide) ?_
  refine gq_icmp_neF (tgt := 32) hX dX4_seconderOf_19 rfl rfl h5 ?_
  exact gq_throw hX hQ2 rfl th68 rfl (List.mem_of_getElem? (i := 20) rfl) dX4_seconderOf_22 dX4_seconderOf_25 dX4_seconderOf_26 dX4_seconderOf_28 dX4_seconderOf_31 (Nat.le_of_ble_eq_true rfl) (Nat.le_of_ble_eq_true rfl) (Nat.le_of_ble_eq_true rfl) (Nat.le_of_ble_eq_true rfl) ⟨rfl, rfl⟩

set_option maxRecDepth 100000 in
set_option maxHeartbeats 4000000 in
theorem cr_seconderOf_ok {E : Ev} {b : Nat → Nat} {K : Kt} {M : Hp} (hb : Lay E 162 b) (hW : Wd E b K M) {nc nt no : Nat} (hwf : Wf (K.2.1 0) nc nt no) {id : Int32} {k : Nat} (ho : slotO (K.2.1 0) no id = some k) (h5 : ¬ (K.2.1 0).2 11 k = -1) : Ct E mX4_seconderOf [.ref (b 0), .int id] M (eqR (some (.int ((K.2.1 0).2 11 k))) M) 0 0 := by
  refine Ct.of gmX4_seconderOf (ls := [.ref (b 0), .int id, hole]) rfl rfl (Nat.le_of_ble_eq_true rfl) ?_
  intro X hX Q hQ
  have hwf2 := hwf
  obtain ⟨hnc, hncl, hnt, hntl, hno, hnol⟩ := hwf2
  obtain ⟨hk, hid⟩ := slotO_lt ho
  refine gq_aload_n hX dX4_seconderOf_0 rfl rfl rfl ?_
  refine gq_iload_n hX dX4_seconderOf_1 rfl rfl rfl ?_
  refine gq_callVe hX dX4_seconderOf_2 rfl vX4_223 (cq_Mot_ok hb hW hwf ho) rfl hW.c0 rfl rfl (Nat.le_of_ble_eq_true rfl) ⟨(Nat.le_of_ble_eq_true rfl), (Nat.le_of_ble_eq_true rfl)⟩ (Nat.zero_add _) (Nat.zero_add _) ?_
  refine gq_istore_n hX dX4_seconderOf_5 rfl rfl (Nat.le_of_ble_eq_true rfl) rfl ?_
  refine gq_aload_n hX dX4_seconderOf_6 rfl rfl rfl ?_
  refine gq_getf hX dX4_seconderOf_7 rfl fX4_10 hW.c0 rfl ?_
  refine gq_getf hX dX4_seconderOf_10 rfl fX4_209 (hW.s0 (i := 0) (by decide)) rfl ?_
  refine gq_getf hX dX4_seconderOf_13 rfl fX4_229 (hW.s6 (i := 0) (by decide)) rfl ?_
  refine gq_iload_n hX dX4_seconderOf_16 rfl rfl rfl ?_
  refine gq_ialdN hX dX4_seconderOf_17 rfl (hW.s11 (i := 0) (by decide)) rfl (by omega) (Nat.le_of_ble_eq_true rfl) ?_
  refine gq_iconst (v := -1) hX dX4_seconderOf_18 rfl (by decide) ?_
  refine gq_icmp_neT (tgt := 32) hX dX4_seconderOf_19 rfl h5 ?_
  refine gq_aload_n hX dX4_seconderOf_32 rfl rfl rfl ?_
  refine gq_getf hX dX4_seconderOf_33 rfl fX4_10 hW.c0 rfl ?_
  refine gq_getf hX dX4_seconderOf_36 rfl fX4_209 (hW.s0 (i := 0) (by decide)) rfl ?_
  refine gq_getf hX dX4_seconderOf_39 rfl fX4_229 (hW.s6 (i := 0) (by decide)) rfl ?_
  refine gq_iload_n hX dX4_seconderOf_42 rfl rfl rfl ?_
  refine gq_ialdN hX dX4_seconderOf_43 rfl (hW.s11 (i := 0) (by decide)) rfl (by omega) (Nat.le_of_ble_eq_true rfl) ?_
  exact gq_iret hX hQ dX4_seconderOf_44 rfl ⟨rfl, rfl⟩

set_option maxRecDepth 100000 in
set_option maxHeartbeats 4000000 in
theorem cr_isTabled_ok {E : Ev} {b : Nat → Nat} {K : Kt} {M : Hp} (hb : Lay E 162 b) (hW : Wd E b K M) {nc nt no : Nat} (hwf : Wf (K.2.1 0) nc nt no) {id : Int32} {k : Nat} (ho : slotO (K.2.1 0) no id = some k) (hn : Nar (K.2.1 0)) : Ct E mX4_isTabled [.ref (b 0), .int id] M (eqR (some (.int ((K.2.1 0).2 12 k))) M) 0 0 := by
  refine Ct.of gmX4_isTabled (ls := [.ref (b 0), .int id, hole]) rfl rfl (Nat.le_of_ble_eq_true rfl) ?_
  intro X hX Q hQ
  have hwf2 := hwf
  obtain ⟨hnc, hncl, hnt, hntl, hno, hnol⟩ := hwf2
  obtain ⟨hk, hid⟩ := slotO_lt ho
  refine gq_aload_n hX dX4_isTabled_0 rfl rfl rfl ?_
  refine gq_iload_n hX dX4_isTabled_1 rfl rfl rfl ?_
  refine gq_callVe hX dX4_isTabled_2 rfl vX4_223 (cq_Mot_ok hb hW hwf ho) rfl hW.c0 rfl rfl (Nat.le_of_ble_eq_true rfl) ⟨(Nat.le_of_ble_eq_true rfl), (Nat.le_of_ble_eq_true rfl)⟩ (Nat.zero_add _) (Nat.zero_add _) ?_
  refine gq_istore_n hX dX4_isTabled_5 rfl rfl (Nat.le_of_ble_eq_true rfl) rfl ?_
  refine gq_aload_n hX dX4_isTabled_6 rfl rfl rfl ?_
  refine gq_getf hX dX4_isTabled_7 rfl fX4_10 hW.c0 rfl ?_
  refine gq_getf hX dX4_isTabled_10 rfl fX4_209 (hW.s0 (i := 0) (by decide)) rfl ?_
  refine gq_getf hX dX4_isTabled_13 rfl fX4_234 (hW.s6 (i := 0) (by decide)) rfl ?_
  refine gq_iload_n hX dX4_isTabled_16 rfl rfl rfl ?_
  refine gq_zaldN hX dX4_isTabled_17 rfl (hW.s12 (i := 0) (by decide)) rfl (by omega) (Nat.le_of_ble_eq_true rfl) ?_
  exact gq_zret hX hQ dX4_isTabled_18 rfl (by rcases bool_01 (hn.2.2 k) with h | h <;> rw [h] <;> rfl) ⟨rfl, rfl⟩

set_option maxRecDepth 100000 in
set_option maxHeartbeats 4000000 in
theorem cr_votesFor_ok {E : Ev} {b : Nat → Nat} {K : Kt} {M : Hp} (hb : Lay E 162 b) (hW : Wd E b K M) {nc nt no : Nat} (hwf : Wf (K.2.1 0) nc nt no) {id : Int32} {k : Nat} (ho : slotO (K.2.1 0) no id = some k) {a : Nat} (hmv : (K.2.1 0).2 9 k = nI a) (ha : a < nc) : Ct E mX4_votesFor [.ref (b 0), .int id] M (eqR (some (.int (sumV (K.2.1 0) nc k a (nI 1)))) M) 0 0 := by
  refine Ct.of gmX4_votesFor (ls := [.ref (b 0), .int id, hole]) rfl rfl (Nat.le_of_ble_eq_true rfl) ?_
  intro X hX Q hQ
  have hwf2 := hwf
  obtain ⟨hnc, hncl, hnt, hntl, hno, hnol⟩ := hwf2
  obtain ⟨hk, hid⟩ := slotO_lt ho
  refine gq_aload_n hX dX4_votesFor_0 rfl rfl rfl ?_
  refine gq_iload_n hX dX4_votesFor_1 rfl rfl rfl ?_
  refine gq_callVe hX dX4_votesFor_2 rfl vX4_223 (cq_Mot_ok hb hW hwf ho) rfl hW.c0 rfl rfl (Nat.le_of_ble_eq_true rfl) ⟨(Nat.le_of_ble_eq_true rfl), (Nat.le_of_ble_eq_true rfl)⟩ (Nat.zero_add _) (Nat.zero_add _) ?_
  refine gq_istore_n hX dX4_votesFor_5 rfl rfl (Nat.le_of_ble_eq_true rfl) rfl ?_
  refine gq_aload_n hX dX4_votesFor_6 rfl rfl rfl ?_
  refine gq_getf hX dX4_votesFor_7 rfl fX4_10 hW.c0 rfl ?_
  refine gq_iload_n hX dX4_votesFor_10 rfl rfl rfl ?_
  refine gq_callVe hX dX4_votesFor_11 rfl vX4_237 (Ct.rdS hb hW (i := 0) (by decide) rfl (ct_sumFor (hb.bS (i := 0) (by decide)) hwf hk hmv ha)) rfl (hW.s0 (i := 0) (by decide)) rfl rfl (Nat.le_of_ble_eq_true rfl) ⟨(Nat.le_of_ble_eq_true rfl), (Nat.le_of_ble_eq_true rfl)⟩ (Nat.zero_add _) (Nat.zero_add _) ?_
  exact gq_iret hX hQ dX4_votesFor_14 rfl ⟨rfl, rfl⟩

set_option maxRecDepth 100000 in
set_option maxHeartbeats 4000000 in
theorem cr_votesForByMember_ok {E : Ev} {b : Nat → Nat} {K : Kt} {M : Hp} (hb : Lay E 162 b) (hW : Wd E b K M) {nc nt no : Nat} (hwf : Wf (K.2.1 0) nc nt no) {id : Int32} {k : Nat} (ho : slotO (K.2.1 0) no id = some k) {a : Nat} (hmv : (K.2.1 0).2 9 k = nI a) (ha : a < nc) : Ct E mX4_votesForByMember [.ref (b 0), .int id] M (eqR (some (.int (sumM (K.2.1 0) nc k a))) M) 0 0 := by
  refine Ct.of gmX4_votesForByMember (ls := [.ref (b 0), .int id, hole]) rfl rfl (Nat.le_of_ble_eq_true rfl) ?_
  intro X hX Q hQ
  have hwf2 := hwf
  obtain ⟨hnc, hncl, hnt, hntl, hno, hnol⟩ := hwf2
  obtain ⟨hk, hid⟩ := slotO_lt ho
  refine gq_aload_n hX dX4_votesForByMember_0 rfl rfl rfl ?_
  refine gq_iload_n hX dX4_votesForByMember_1 rfl rfl rfl ?_
  refine gq_callVe hX dX4_votesForByMember_2 rfl vX4_223 (cq_Mot_ok hb hW hwf ho) rfl hW.c0 rfl rfl (Nat.le_of_ble_eq_true rfl) ⟨(Nat.le_of_ble_eq_true rfl), (Nat.le_of_ble_eq_true rfl)⟩ (Nat.zero_add _) (Nat.zero_add _) ?_
  refine gq_istore_n hX dX4_votesForByMember_5 rfl rfl (Nat.le_of_ble_eq_true rfl) rfl ?_
  refine gq_aload_n hX dX4_votesForByMember_6 rfl rfl rfl ?_
  refine gq_getf hX dX4_votesForByMember_7 rfl fX4_10 hW.c0 rfl ?_
  refine gq_iload_n hX dX4_votesForByMember_10 rfl rfl rfl ?_
  refine gq_callVe hX dX4_votesForByMember_11 rfl vX4_240 (Ct.rdS hb hW (i := 0) (by decide) rfl (ct_sumForByMember (hb.bS (i := 0) (by decide)) hwf hk hmv ha)) rfl (hW.s0 (i := 0) (by decide)) rfl rfl (Nat.le_of_ble_eq_true rfl) ⟨(Nat.le_of_ble_eq_true rfl), (Nat.le_of_ble_eq_true rfl)⟩ (Nat.zero_add _) (Nat.zero_add _) ?_
  exact gq_iret hX hQ dX4_votesForByMember_14 rfl ⟨rfl, rfl⟩

set_option maxRecDepth 100000 in
set_option maxHeartbeats 4000000 in
theorem cr_votesAgainst_ok {E : Ev} {b : Nat → Nat} {K : Kt} {M : Hp} (hb : Lay E 162 b) (hW : Wd E b K M) {nc nt no : Nat} (hwf : Wf (K.2.1 0) nc nt no) {id : Int32} {k : Nat} (ho : slotO (K.2.1 0) no id = some k) {a : Nat} (hmv : (K.2.1 0).2 9 k = nI a) (ha : a < nc) : Ct E mX4_votesAgainst [.ref (b 0), .int id] M (eqR (some (.int (sumV (K.2.1 0) nc k a (-1)))) M) 0 0 := by
  refine Ct.of gmX4_votesAgainst (ls := [.ref (b 0), .int id, hole]) rfl rfl (Nat.le_of_ble_eq_true rfl) ?_
  intro X hX Q hQ
  have hwf2 := hwf
  obtain ⟨hnc, hncl, hnt, hntl, hno, hnol⟩ := hwf2
  obtain ⟨hk, hid⟩ := slotO_lt ho
  refine gq_aload_n hX dX4_votesAgainst_0 rfl rfl rfl ?_
  refine gq_iload_n hX dX4_votesAgainst_1 rfl rfl rfl ?_
  refine gq_callVe hX dX4_votesAgainst_2 rfl vX4_223 (cq_Mot_ok hb hW hwf ho) rfl hW.c0 rfl rfl (Nat.le_of_ble_eq_true rfl) ⟨(Nat.le_of_ble_eq_true rfl), (Nat.le_of_ble_eq_true rfl)⟩ (Nat.zero_add _) (Nat.zero_add _) ?_
  refine gq_istore_n hX dX4_votesAgainst_5 rfl rfl (Nat.le_of_ble_eq_true rfl) rfl ?_
  refine gq_aload_n hX dX4_votesAgainst_6 rfl rfl rfl ?_
  refine gq_getf hX dX4_votesAgainst_7 rfl fX4_10 hW.c0 rfl ?_
  refine gq_iload_n hX dX4_votesAgainst_10 rfl rfl rfl ?_
  refine gq_callVe hX dX4_votesAgainst_11 rfl vX4_243 (Ct.rdS hb hW (i := 0) (by decide) rfl (ct_sumAgainst (hb.bS (i := 0) (by decide)) hwf hk hmv ha)) rfl (hW.s0 (i := 0) (by decide)) rfl rfl (Nat.le_of_ble_eq_true rfl) ⟨(Nat.le_of_ble_eq_true rfl), (Nat.le_of_ble_eq_true rfl)⟩ (Nat.zero_add _) (Nat.zero_add _) ?_
  exact gq_iret hX hQ dX4_votesAgainst_14 rfl ⟨rfl, rfl⟩

set_option maxRecDepth 100000 in
set_option maxHeartbeats 4000000 in
theorem cr_arrearsAfter_1 {E : Ev} {b : Nat → Nat} {K : Kt} {M : Hp} (hb : Lay E 162 b) (hW : Wd E b K M) {nc nt no : Nat} (hwf : Wf (K.2.1 0) nc nt no) (c h : Int32) (hF : hasI nc c = 0) : CtX E mX4_arrearsAfter [.ref (b 0), .int c, .int h] M NoR (PXe "java/lang/IndexOutOfBoundsException" M) 1 6 := by
  refine CtX.of gmX4_arrearsAfter (ls := [.ref (b 0), .int c, .int h]) rfl rfl (Nat.le_of_ble_eq_true rfl) ?_
  intro X hX Q hQ hQ2
  refine gq_aload_n hX dX4_arrearsAfter_0 rfl rfl rfl ?_
  refine gq_iload_n hX dX4_arrearsAfter_1 rfl rfl rfl ?_
  refine gq_iload_n hX dX4_arrearsAfter_2 rfl rfl rfl ?_
  exact gq_callVXe (nc1 := 0) (ns1 := 0) hX dX4_arrearsAfter_3 vX4_262 (cq_For_1 hb hW hwf _ _ hF) rfl hW.c0 rfl rfl (Nat.le_of_ble_eq_true rfl) ⟨(Nat.le_of_ble_eq_true rfl), (Nat.le_of_ble_eq_true rfl)⟩ rfl rfl (gx_out hX hQ2 rfl ⟨rfl, rfl⟩)

set_option maxRecDepth 100000 in
set_option maxHeartbeats 4000000 in
theorem cr_arrearsAfter_2 {E : Ev} {b : Nat → Nat} {K : Kt} {M : Hp} (hb : Lay E 162 b) (hW : Wd E b K M) {nc nt no : Nat} (hwf : Wf (K.2.1 0) nc nt no) {j : Nat} (hj : j < nc) (h : Int32) (hF : btw h (nI 0) (nI 24) = 0) : CtX E mX4_arrearsAfter [.ref (b 0), .int (nI j), .int h] M NoR (PXe "java/lang/IllegalArgumentException" M) 1 6 := by
  refine CtX.of gmX4_arrearsAfter (ls := [.ref (b 0), .int (nI j), .int h]) rfl rfl (Nat.le_of_ble_eq_true rfl) ?_
  intro X hX Q hQ hQ2
  refine gq_aload_n hX dX4_arrearsAfter_0 rfl rfl rfl ?_
  refine gq_iload_n hX dX4_arrearsAfter_1 rfl rfl rfl ?_
  refine gq_iload_n hX dX4_arrearsAfter_2 rfl rfl rfl ?_
  exact gq_callVXe (nc1 := 0) (ns1 := 0) hX dX4_arrearsAfter_3 vX4_262 (cq_For_2 hb hW hwf hj _ hF) rfl hW.c0 rfl rfl (Nat.le_of_ble_eq_true rfl) ⟨(Nat.le_of_ble_eq_true rfl), (Nat.le_of_ble_eq_true rfl)⟩ rfl rfl (gx_out hX hQ2 rfl ⟨rfl, rfl⟩)

set_option maxRecDepth 100000 in
set_option maxHeartbeats 4000000 in
theorem cr_arrearsAfterByRate_1 {E : Ev} {b : Nat → Nat} {K : Kt} {M : Hp} (hb : Lay E 162 b) (hW : Wd E b K M) {nc nt no : Nat} (hwf : Wf (K.2.1 0) nc nt no) (c h : Int32) (hF : hasI nc c = 0) : CtX E mX4_arrearsAfterByRate [.ref (b 0), .int c, .int h] M NoR (PXe "java/lang/IndexOutOfBoundsException" M) 1 6 := by
  refine CtX.of gmX4_arrearsAfterByRate (ls := [.ref (b 0), .int c, .int h]) rfl rfl (Nat.le_of_ble_eq_true rfl) ?_
  intro X hX Q hQ hQ2
  refine gq_aload_n hX dX4_arrearsAfterByRate_0 rfl rfl rfl ?_
  refine gq_iload_n hX dX4_arrearsAfterByRate_1 rfl rfl rfl ?_
  refine gq_iload_n hX dX4_arrearsAfterByRate_2 rfl rfl rfl ?_
  exact gq_callVXe (nc1 := 0) (ns1 := 0) hX dX4_arrearsAfterByRate_3 vX4_262 (cq_For_1 hb hW hwf _ _ hF) rfl hW.c0 rfl rfl (Nat.le_of_ble_eq_true rfl) ⟨(Nat.le_of_ble_eq_true rfl), (Nat.le_of_ble_eq_true rfl)⟩ rfl rfl (gx_out hX hQ2 rfl ⟨rfl, rfl⟩)

set_option maxRecDepth 100000 in
set_option maxHeartbeats 4000000 in
theorem cr_arrearsAfterByRate_2 {E : Ev} {b : Nat → Nat} {K : Kt} {M : Hp} (hb : Lay E 162 b) (hW : Wd E b K M) {nc nt no : Nat} (hwf : Wf (K.2.1 0) nc nt no) {j : Nat} (hj : j < nc) (h : Int32) (hF : btw h (nI 0) (nI 24) = 0) : CtX E mX4_arrearsAfterByRate [.ref (b 0), .int (nI j), .int h] M NoR (PXe "java/lang/IllegalArgumentException" M) 1 6 := by
  refine CtX.of gmX4_arrearsAfterByRate (ls := [.ref (b 0), .int (nI j), .int h]) rfl rfl (Nat.le_of_ble_eq_true rfl) ?_
  intro X hX Q hQ hQ2
  refine gq_aload_n hX dX4_arrearsAfterByRate_0 rfl rfl rfl ?_
  refine gq_iload_n hX dX4_arrearsAfterByRate_1 rfl rfl rfl ?_
  refine gq_iload_n hX dX4_arrearsAfterByRate_2 rfl rfl rfl ?_
  exact gq_callVXe (nc1 := 0) (ns1 := 0) hX dX4_arrearsAfterByRate_3 vX4_262 (cq_For_2 hb hW hwf hj _ hF) rfl hW.c0 rfl rfl (Nat.le_of_ble_eq_true rfl) ⟨(Nat.le_of_ble_eq_true rfl), (Nat.le_of_ble_eq_true rfl)⟩ rfl rfl (gx_out hX hQ2 rfl ⟨rfl, rfl⟩)

set_option maxRecDepth 100000 in
set_option maxHeartbeats 4000000 in
theorem cr_arrearsAfterByRate_ok {E : Ev} {b : Nat → Nat} {K : Kt} {M : Hp} (hb : Lay E 162 b) (hW : Wd E b K M) {nc nt no : Nat} (hwf : Wf (K.2.1 0) nc nt no) {j : Nat} (hj : j < nc) (h : Int32) (hF : ¬ btw h (nI 0) (nI 24) = 0) : Ct E mX4_arrearsAfterByRate [.ref (b 0), .int (nI j), .int h] M (eqR (some (.int (ratI (K.2.1 0) nt j h))) M) 0 0 := by
  refine Ct.of gmX4_arrearsAfterByRate (ls := [.ref (b 0), .int (nI j), .int h]) rfl rfl (Nat.le_of_ble_eq_true rfl) ?_
  intro X hX Q hQ
  refine gq_aload_n hX dX4_arrearsAfterByRate_0 rfl rfl rfl ?_
  refine gq_iload_n hX dX4_arrearsAfterByRate_1 rfl rfl rfl ?_
  refine gq_iload_n hX dX4_arrearsAfterByRate_2 rfl rfl rfl ?_
  refine gq_callVe hX dX4_arrearsAfterByRate_3 rfl vX4_262 (cq_For_ok hb hW hwf hj _ hF) rfl hW.c0 rfl rfl (Nat.le_of_ble_eq_true rfl) ⟨(Nat.le_of_ble_eq_true rfl), (Nat.le_of_ble_eq_true rfl)⟩ (Nat.zero_add _) (Nat.zero_add _) ?_
  refine gq_aload_n hX dX4_arrearsAfterByRate_6 rfl rfl rfl ?_
  refine gq_getf hX dX4_arrearsAfterByRate_7 rfl fX4_10 hW.c0 rfl ?_
  refine gq_iload_n hX dX4_arrearsAfterByRate_10 rfl rfl rfl ?_
  refine gq_iload_n hX dX4_arrearsAfterByRate_11 rfl rfl rfl ?_
  refine gq_callVe hX dX4_arrearsAfterByRate_12 rfl vX4_269 (Ct.rdS hb hW (i := 0) (by decide) rfl (ct_arrearsByRate (hb.bS (i := 0) (by decide)) hwf hj _)) rfl (hW.s0 (i := 0) (by decide)) rfl rfl (Nat.le_of_ble_eq_true rfl) ⟨(Nat.le_of_ble_eq_true rfl), (Nat.le_of_ble_eq_true rfl)⟩ (Nat.zero_add _) (Nat.zero_add _) ?_
  exact gq_iret hX hQ dX4_arrearsAfterByRate_15 rfl ⟨rfl, rfl⟩

theorem copS_wf {S T : St} {nc nt no : Nat} (h : Wf T nc nt no) : Wf (copS S T nc nt no) nc nt no := h
theorem itU_nar {ty : FieldType} {f g : Nat → Int32} {n : Nat} (hf : ∀ j, vp_nar ty (f j) = f j) (hg : ∀ j, vp_nar ty (g j) = g j) : ∀ j, vp_nar ty (itU f g n j) = itU f g n j := by
  intro j
  unfold itU
  split
  · exact hf j
  · exact hg j
theorem copS_nar {S T : St} {nc nt no : Nat} (h : Nar S) (h2 : Nar T) : Nar (copS S T nc nt no) := ⟨itU_nar h2.1 h.1, itU_nar h2.2.1 h.2.1, itU_nar h2.2.2 h.2.2⟩
/-- the spare state behind a forecast -/
def aftK (K : Kt) (nc nt no h : Nat) : Kt := kSs (kSs K 1 (copS (K.2.1 1) (K.2.1 0) nc nt no)) 1 (pasS (copS (K.2.1 1) (K.2.1 0) nc nt no) nt nc h).1

set_option maxRecDepth 100000 in
set_option maxHeartbeats 4000000 in
theorem cr_arrearsAfter_ok {E : Ev} {b : Nat → Nat} {K : Kt} {M : Hp} (hb : Lay E 162 b) (hW : Wd E b K M) {nc nt no : Nat} (hwf : Wf (K.2.1 0) nc nt no) (hn : Nar (K.2.1 0)) {j : Nat} (hj : j < nc) {h : Nat} (hh : h < 1000) (hF : ¬ btw (nI h) (nI 0) (nI 24) = 0) : Ct E mX4_arrearsAfter [.ref (b 0), .int (nI j), .int (nI h)] M (WR E b (some (.int ((pasS (copS (K.2.1 1) (K.2.1 0) nc nt no) nt nc h).1.2 2 j))) (aftK K nc nt no h)) 0 0 := by
  refine Ct.of gmX4_arrearsAfter (ls := [.ref (b 0), .int (nI j), .int (nI h)]) rfl rfl (Nat.le_of_ble_eq_true rfl) ?_
  intro X hX Q hQ
  have hwf2 := hwf
  obtain ⟨hnc, hncl, hnt, hntl, hno, hnol⟩ := hwf2
  refine gq_aload_n hX dX4_arrearsAfter_0 rfl rfl rfl ?_
  refine gq_iload_n hX dX4_arrearsAfter_1 rfl rfl rfl ?_
  refine gq_iload_n hX dX4_arrearsAfter_2 rfl rfl rfl ?_
  refine gq_callVe hX dX4_arrearsAfter_3 rfl vX4_262 (cq_For_ok hb hW hwf hj _ hF) rfl hW.c0 rfl rfl (Nat.le_of_ble_eq_true rfl) ⟨(Nat.le_of_ble_eq_true rfl), (Nat.le_of_ble_eq_true rfl)⟩ (Nat.zero_add _) (Nat.zero_add _) ?_
  refine gq_aload_n hX dX4_arrearsAfter_6 rfl rfl rfl ?_
  refine gq_getf hX dX4_arrearsAfter_7 rfl fX4_16 hW.c0 rfl ?_
  refine gq_aload_n hX dX4_arrearsAfter_10 rfl rfl rfl ?_
  refine gq_getf hX dX4_arrearsAfter_11 rfl fX4_10 hW.c0 rfl ?_
  refine gq_callVw hX dX4_arrearsAfter_14 rfl vX4_266 (Ct.cpW hb hW (i := 1) (j := 0) (by decide) (by decide) (by decide) hwf hn) rfl (hW.s0 (i := 1) (by decide)) rfl rfl (Nat.le_of_ble_eq_true rfl) ⟨(Nat.le_of_ble_eq_true rfl), (Nat.le_of_ble_eq_true rfl)⟩ (Nat.zero_add _) (Nat.zero_add _) ?_
  intro M2 hW2
  refine gq_aload_n hX dX4_arrearsAfter_17 rfl rfl rfl ?_
  refine gq_getf hX dX4_arrearsAfter_18 rfl fX4_16 hW2.c0 rfl ?_
  refine gq_iload_n hX dX4_arrearsAfter_21 rfl rfl rfl ?_
  refine gq_callVw hX dX4_arrearsAfter_22 rfl vX4_259 (Ct.stwS hb hW2 (i := 1) (by decide) rfl (ct_passHours (hb.bS (i := 1) (by decide)) (copS_wf hwf) hh)) rfl (hW2.s0 (i := 1) (by decide)) rfl rfl (Nat.le_of_ble_eq_true rfl) ⟨(Nat.le_of_ble_eq_true rfl), (Nat.le_of_ble_eq_true rfl)⟩ (Nat.zero_add _) (Nat.zero_add _) ?_
  intro M3 hW3
  refine gq_pop hX dX4_arrearsAfter_25 rfl rfl ?_
  refine gq_aload_n hX dX4_arrearsAfter_26 rfl rfl rfl ?_
  refine gq_getf hX dX4_arrearsAfter_27 rfl fX4_16 hW3.c0 rfl ?_
  refine gq_getf hX dX4_arrearsAfter_30 rfl fX4_128 (hW3.s0 (i := 1) (by decide)) rfl ?_
  refine gq_iload_n hX dX4_arrearsAfter_33 rfl rfl rfl ?_
  refine gq_ialdN hX dX4_arrearsAfter_34 rfl (hW3.s2 (i := 1) (by decide)) rfl (by omega) (Nat.le_of_ble_eq_true rfl) ?_
  exact gq_iret hX hQ dX4_arrearsAfter_35 rfl ⟨rfl, hW3⟩

set_option maxRecDepth 100000 in
set_option maxHeartbeats 4000000 in
theorem cr_committeeCount {E : Ev} {b : Nat → Nat} {K : Kt} {M : Hp} (hb : Lay E 162 b) (hW : Wd E b K M)  : Ct E mX4_committeeCount [.ref (b 0)] M (eqR (some (.int ((K.2.1 0).1 0))) M) 0 0 := by
  refine Ct.of gmX4_committeeCount (ls := [.ref (b 0)]) rfl rfl (Nat.le_of_ble_eq_true rfl) ?_
  intro X hX Q hQ
  refine gq_aload_n hX dX4_committeeCount_0 rfl rfl rfl ?_
  refine gq_getf hX dX4_committeeCount_1 rfl fX4_10 hW.c0 rfl ?_
  refine gq_getf hX dX4_committeeCount_4 rfl fX4_117 (hW.s0 (i := 0) (by decide)) rfl ?_
  exact gq_iret hX hQ dX4_committeeCount_7 rfl ⟨rfl, rfl⟩

set_option maxRecDepth 100000 in
set_option maxHeartbeats 4000000 in
theorem cr_tailCount {E : Ev} {b : Nat → Nat} {K : Kt} {M : Hp} (hb : Lay E 162 b) (hW : Wd E b K M)  : Ct E mX4_tailCount [.ref (b 0)] M (eqR (some (.int ((K.2.1 0).1 1))) M) 0 0 := by
  refine Ct.of gmX4_tailCount (ls := [.ref (b 0)]) rfl rfl (Nat.le_of_ble_eq_true rfl) ?_
  intro X hX Q hQ
  refine gq_aload_n hX dX4_tailCount_0 rfl rfl rfl ?_
  refine gq_getf hX dX4_tailCount_1 rfl fX4_10 hW.c0 rfl ?_
  refine gq_getf hX dX4_tailCount_4 rfl fX4_141 (hW.s0 (i := 0) (by decide)) rfl ?_
  exact gq_iret hX hQ dX4_tailCount_7 rfl ⟨rfl, rfl⟩

set_option maxRecDepth 100000 in
set_option maxHeartbeats 4000000 in
theorem cr_hour {E : Ev} {b : Nat → Nat} {K : Kt} {M : Hp} (hb : Lay E 162 b) (hW : Wd E b K M)  : Ct E mX4_hour [.ref (b 0)] M (eqR (some (.int ((K.2.1 0).1 2))) M) 0 0 := by
  refine Ct.of gmX4_hour (ls := [.ref (b 0)]) rfl rfl (Nat.le_of_ble_eq_true rfl) ?_
  intro X hX Q hQ
  refine gq_aload_n hX dX4_hour_0 rfl rfl rfl ?_
  refine gq_getf hX dX4_hour_1 rfl fX4_10 hW.c0 rfl ?_
  refine gq_getf hX dX4_hour_4 rfl fX4_272 (hW.s0 (i := 0) (by decide)) rfl ?_
  exact gq_iret hX hQ dX4_hour_7 rfl ⟨rfl, rfl⟩

set_option maxRecDepth 100000 in
set_option maxHeartbeats 4000000 in
theorem cr_carriedCount {E : Ev} {b : Nat → Nat} {K : Kt} {M : Hp} (hb : Lay E 162 b) (hW : Wd E b K M)  : Ct E mX4_carriedCount [.ref (b 0)] M (eqR (some (.int ((K.2.1 0).1 3))) M) 0 0 := by
  refine Ct.of gmX4_carriedCount (ls := [.ref (b 0)]) rfl rfl (Nat.le_of_ble_eq_true rfl) ?_
  intro X hX Q hQ
  refine gq_aload_n hX dX4_carriedCount_0 rfl rfl rfl ?_
  refine gq_getf hX dX4_carriedCount_1 rfl fX4_10 hW.c0 rfl ?_
  refine gq_getf hX dX4_carriedCount_4 rfl fX4_280 (hW.s0 (i := 0) (by decide)) rfl ?_
  exact gq_iret hX hQ dX4_carriedCount_7 rfl ⟨rfl, rfl⟩

set_option maxRecDepth 100000 in
set_option maxHeartbeats 4000000 in
theorem cr_lostCount {E : Ev} {b : Nat → Nat} {K : Kt} {M : Hp} (hb : Lay E 162 b) (hW : Wd E b K M)  : Ct E mX4_lostCount [.ref (b 0)] M (eqR (some (.int ((K.2.1 0).1 4))) M) 0 0 := by
  refine Ct.of gmX4_lostCount (ls := [.ref (b 0)]) rfl rfl (Nat.le_of_ble_eq_true rfl) ?_
  intro X hX Q hQ
  refine gq_aload_n hX dX4_lostCount_0 rfl rfl rfl ?_
  refine gq_getf hX dX4_lostCount_1 rfl fX4_10 hW.c0 rfl ?_
  refine gq_getf hX dX4_lostCount_4 rfl fX4_283 (hW.s0 (i := 0) (by decide)) rfl ?_
  exact gq_iret hX hQ dX4_lostCount_7 rfl ⟨rfl, rfl⟩

set_option maxRecDepth 100000 in
set_option maxHeartbeats 4000000 in
theorem cr_paidTotal {E : Ev} {b : Nat → Nat} {K : Kt} {M : Hp} (hb : Lay E 162 b) (hW : Wd E b K M)  : Ct E mX4_paidTotal [.ref (b 0)] M (eqR (some (.int ((K.2.1 0).1 5))) M) 0 0 := by
  refine Ct.of gmX4_paidTotal (ls := [.ref (b 0)]) rfl rfl (Nat.le_of_ble_eq_true rfl) ?_
  intro X hX Q hQ
  refine gq_aload_n hX dX4_paidTotal_0 rfl rfl rfl ?_
  refine gq_getf hX dX4_paidTotal_1 rfl fX4_10 hW.c0 rfl ?_
  refine gq_getf hX dX4_paidTotal_4 rfl fX4_286 (hW.s0 (i := 0) (by decide)) rfl ?_
  exact gq_iret hX hQ dX4_paidTotal_7 rfl ⟨rfl, rfl⟩

set_option maxRecDepth 100000 in
set_option maxHeartbeats 4000000 in
theorem cr_chargedTotal {E : Ev} {b : Nat → Nat} {K : Kt} {M : Hp} (hb : Lay E 162 b) (hW : Wd E b K M)  : Ct E mX4_chargedTotal [.ref (b 0)] M (eqR (some (.int ((K.2.1 0).1 6))) M) 0 0 := by
  refine Ct.of gmX4_chargedTotal (ls := [.ref (b 0)]) rfl rfl (Nat.le_of_ble_eq_true rfl) ?_
  intro X hX Q hQ
  refine gq_aload_n hX dX4_chargedTotal_0 rfl rfl rfl ?_
  refine gq_getf hX dX4_chargedTotal_1 rfl fX4_10 hW.c0 rfl ?_
  refine gq_getf hX dX4_chargedTotal_4 rfl fX4_289 (hW.s0 (i := 0) (by decide)) rfl ?_
  exact gq_iret hX hQ dX4_chargedTotal_7 rfl ⟨rfl, rfl⟩

set_option maxRecDepth 100000 in
set_option maxHeartbeats 4000000 in
theorem cr_openMotions {E : Ev} {b : Nat → Nat} {K : Kt} {M : Hp} (hb : Lay E 162 b) (hW : Wd E b K M)  : Ct E mX4_openMotions [.ref (b 0)] M (eqR (some (.int ((K.2.1 0).1 7))) M) 0 0 := by
  refine Ct.of gmX4_openMotions (ls := [.ref (b 0)]) rfl rfl (Nat.le_of_ble_eq_true rfl) ?_
  intro X hX Q hQ
  refine gq_aload_n hX dX4_openMotions_0 rfl rfl rfl ?_
  refine gq_getf hX dX4_openMotions_1 rfl fX4_10 hW.c0 rfl ?_
  refine gq_getf hX dX4_openMotions_4 rfl fX4_209 (hW.s0 (i := 0) (by decide)) rfl ?_
  refine gq_getf hX dX4_openMotions_7 rfl fX4_213 (hW.s6 (i := 0) (by decide)) rfl ?_
  exact gq_iret hX hQ dX4_openMotions_10 rfl ⟨rfl, rfl⟩

set_option maxRecDepth 100000 in
set_option maxHeartbeats 4000000 in
theorem cr_errorPosition_1 {E : Ev} {b : Nat → Nat} {K : Kt} {M : Hp} (hb : Lay E 162 b) (hW : Wd E b K M) (h : K.1 1 = -1) : CtX E mX4_errorPosition [.ref (b 0)] M NoR (PXe "java/util/NoSuchElementException" M) 1 6 := by
  refine CtX.of gmX4_errorPosition (ls := [.ref (b 0)]) rfl rfl (Nat.le_of_ble_eq_true rfl) ?_
  intro X hX Q hQ hQ2
  refine gq_aload_n hX dX4_errorPosition_0 rfl rfl rfl ?_
  refine gq_getf hX dX4_errorPosition_1 rfl fX4_40 hW.c0 rfl ?_
  refine gq_iconst (v := -1) hX dX4_errorPosition_4 rfl (by decide) ?_
  refine gq_icmp_neF (tgt := 19) hX dX4_errorPosition_5 rfl rfl h ?_
  exact gq_throwW hX hQ2 rfl th153 rfl (List.mem_of_getElem? (i := 28) rfl) dX4_errorPosition_8 dX4_errorPosition_11 dX4_errorPosition_12 dX4_errorPosition_15 dX4_errorPosition_18 (Nat.le_of_ble_eq_true rfl) (Nat.le_of_ble_eq_true rfl) (Nat.le_of_ble_eq_true rfl) (Nat.le_of_ble_eq_true rfl) ⟨rfl, rfl⟩

set_option maxRecDepth 100000 in
set_option maxHeartbeats 4000000 in
theorem cr_errorPosition_ok {E : Ev} {b : Nat → Nat} {K : Kt} {M : Hp} (hb : Lay E 162 b) (hW : Wd E b K M) (h : ¬ K.1 1 = -1) : Ct E mX4_errorPosition [.ref (b 0)] M (eqR (some (.int (K.1 1))) M) 0 0 := by
  refine Ct.of gmX4_errorPosition (ls := [.ref (b 0)]) rfl rfl (Nat.le_of_ble_eq_true rfl) ?_
  intro X hX Q hQ
  refine gq_aload_n hX dX4_errorPosition_0 rfl rfl rfl ?_
  refine gq_getf hX dX4_errorPosition_1 rfl fX4_40 hW.c0 rfl ?_
  refine gq_iconst (v := -1) hX dX4_errorPosition_4 rfl (by decide) ?_
  refine gq_icmp_neT (tgt := 19) hX dX4_errorPosition_5 rfl h ?_
  refine gq_aload_n hX dX4_errorPosition_19 rfl rfl rfl ?_
  refine gq_getf hX dX4_errorPosition_20 rfl fX4_40 hW.c0 rfl ?_
  exact gq_iret hX hQ dX4_errorPosition_23 rfl ⟨rfl, rfl⟩

set_option maxRecDepth 100000 in
set_option maxHeartbeats 4000000 in
theorem cr_failedCommand_1 {E : Ev} {b : Nat → Nat} {K : Kt} {M : Hp} (hb : Lay E 162 b) (hW : Wd E b K M) (h : K.1 2 = -1) : CtX E mX4_failedCommand [.ref (b 0)] M NoR (PXe "java/util/NoSuchElementException" M) 1 6 := by
  refine CtX.of gmX4_failedCommand (ls := [.ref (b 0)]) rfl rfl (Nat.le_of_ble_eq_true rfl) ?_
  intro X hX Q hQ hQ2
  refine gq_aload_n hX dX4_failedCommand_0 rfl rfl rfl ?_
  refine gq_getf hX dX4_failedCommand_1 rfl fX4_44 hW.c0 rfl ?_
  refine gq_iconst (v := -1) hX dX4_failedCommand_4 rfl (by decide) ?_
  refine gq_icmp_neF (tgt := 19) hX dX4_failedCommand_5 rfl rfl h ?_
  exact gq_throwW hX hQ2 rfl th153 rfl (List.mem_of_getElem? (i := 29) rfl) dX4_failedCommand_8 dX4_failedCommand_11 dX4_failedCommand_12 dX4_failedCommand_15 dX4_failedCommand_18 (Nat.le_of_ble_eq_true rfl) (Nat.le_of_ble_eq_true rfl) (Nat.le_of_ble_eq_true rfl) (Nat.le_of_ble_eq_true rfl) ⟨rfl, rfl⟩

set_option maxRecDepth 100000 in
set_option maxHeartbeats 4000000 in
theorem cr_failedCommand_ok {E : Ev} {b : Nat → Nat} {K : Kt} {M : Hp} (hb : Lay E 162 b) (hW : Wd E b K M) (h : ¬ K.1 2 = -1) : Ct E mX4_failedCommand [.ref (b 0)] M (eqR (some (.int (K.1 2))) M) 0 0 := by
  refine Ct.of gmX4_failedCommand (ls := [.ref (b 0)]) rfl rfl (Nat.le_of_ble_eq_true rfl) ?_
  intro X hX Q hQ
  refine gq_aload_n hX dX4_failedCommand_0 rfl rfl rfl ?_
  refine gq_getf hX dX4_failedCommand_1 rfl fX4_44 hW.c0 rfl ?_
  refine gq_iconst (v := -1) hX dX4_failedCommand_4 rfl (by decide) ?_
  refine gq_icmp_neT (tgt := 19) hX dX4_failedCommand_5 rfl h ?_
  refine gq_aload_n hX dX4_failedCommand_19 rfl rfl rfl ?_
  refine gq_getf hX dX4_failedCommand_20 rfl fX4_44 hW.c0 rfl ?_
  exact gq_iret hX hQ dX4_failedCommand_23 rfl ⟨rfl, rfl⟩

set_option maxRecDepth 100000 in
set_option maxHeartbeats 4000000 in
theorem cr_failedException_1 {E : Ev} {b : Nat → Nat} {K : Kt} {M : Hp} (hb : Lay E 162 b) (hW : Wd E b K M) (h : K.1 3 = -1) : CtX E mX4_failedException [.ref (b 0)] M NoR (PXe "java/util/NoSuchElementException" M) 1 6 := by
  refine CtX.of gmX4_failedException (ls := [.ref (b 0)]) rfl rfl (Nat.le_of_ble_eq_true rfl) ?_
  intro X hX Q hQ hQ2
  refine gq_aload_n hX dX4_failedException_0 rfl rfl rfl ?_
  refine gq_getf hX dX4_failedException_1 rfl fX4_47 hW.c0 rfl ?_
  refine gq_iconst (v := -1) hX dX4_failedException_4 rfl (by decide) ?_
  refine gq_icmp_neF (tgt := 19) hX dX4_failedException_5 rfl rfl h ?_
  exact gq_throwW hX hQ2 rfl th153 rfl (List.mem_of_getElem? (i := 29) rfl) dX4_failedException_8 dX4_failedException_11 dX4_failedException_12 dX4_failedException_15 dX4_failedException_18 (Nat.le_of_ble_eq_true rfl) (Nat.le_of_ble_eq_true rfl) (Nat.le_of_ble_eq_true rfl) (Nat.le_of_ble_eq_true rfl) ⟨rfl, rfl⟩

set_option maxRecDepth 100000 in
set_option maxHeartbeats 4000000 in
theorem cr_failedException_ok {E : Ev} {b : Nat → Nat} {K : Kt} {M : Hp} (hb : Lay E 162 b) (hW : Wd E b K M) (h : ¬ K.1 3 = -1) : Ct E mX4_failedException [.ref (b 0)] M (eqR (some (.int (K.1 3))) M) 0 0 := by
  refine Ct.of gmX4_failedException (ls := [.ref (b 0)]) rfl rfl (Nat.le_of_ble_eq_true rfl) ?_
  intro X hX Q hQ
  refine gq_aload_n hX dX4_failedException_0 rfl rfl rfl ?_
  refine gq_getf hX dX4_failedException_1 rfl fX4_47 hW.c0 rfl ?_
  refine gq_iconst (v := -1) hX dX4_failedException_4 rfl (by decide) ?_
  refine gq_icmp_neT (tgt := 19) hX dX4_failedException_5 rfl h ?_
  refine gq_aload_n hX dX4_failedException_19 rfl rfl rfl ?_
  refine gq_getf hX dX4_failedException_20 rfl fX4_47 hW.c0 rfl ?_
  exact gq_iret hX hQ dX4_failedException_23 rfl ⟨rfl, rfl⟩

set_option maxRecDepth 100000 in
set_option maxHeartbeats 4000000 in
theorem cr_mean_1 {E : Ev} {b : Nat → Nat} {K : Kt} {M : Hp} (hb : Lay E 162 b) (hW : Wd E b K M) {nc nt no : Nat} (hwf : Wf (K.2.1 0) nc nt no) (h0 : nc = 0) : CtX E mX4_meanArrears [.ref (b 0)] M NoR (PXe "java/lang/ArithmeticException" M) 1 6 := by
  refine CtX.of gmX4_meanArrears (ls := [.ref (b 0)]) rfl rfl (Nat.le_of_ble_eq_true rfl) ?_
  intro X hX Q hQ hQ2
  have hwf2 := hwf
  obtain ⟨hnc, hncl, hnt, hntl, hno, hnol⟩ := hwf2
  refine gq_aload_n hX dX4_meanArrears_0 rfl rfl rfl ?_
  refine gq_getf hX dX4_meanArrears_1 rfl fX4_10 hW.c0 rfl ?_
  refine gq_getf hX dX4_meanArrears_4 rfl fX4_117 (hW.s0 (i := 0) (by decide)) rfl ?_
  refine gq_if_neF (tgt := 21) hX dX4_meanArrears_7 rfl rfl (by rw [hnc, h0]; rfl) ?_
  exact gq_throwW hX hQ2 rfl th358 rfl (List.mem_of_getElem? (i := 31) rfl) dX4_meanArrears_10 dX4_meanArrears_13 dX4_meanArrears_14 dX4_meanArrears_17 dX4_meanArrears_20 (Nat.le_of_ble_eq_true rfl) (Nat.le_of_ble_eq_true rfl) (Nat.le_of_ble_eq_true rfl) (Nat.le_of_ble_eq_true rfl) ⟨rfl, rfl⟩

set_option maxRecDepth 100000 in
set_option maxHeartbeats 4000000 in
theorem cr_mean_ok {E : Ev} {b : Nat → Nat} {K : Kt} {M : Hp} (hb : Lay E 162 b) (hW : Wd E b K M) {nc nt no : Nat} (hwf : Wf (K.2.1 0) nc nt no) (h0 : 0 < nc) : Ct E mX4_meanArrears [.ref (b 0)] M (eqR (some (.double (FP.ddiv (FP.i2d (arrSum (K.2.1 0) nc)) (FP.i2d (nI nc))))) M) 0 0 := by
  refine Ct.of gmX4_meanArrears (ls := [.ref (b 0)]) rfl rfl (Nat.le_of_ble_eq_true rfl) ?_
  intro X hX Q hQ
  have hwf2 := hwf
  obtain ⟨hnc, hncl, hnt, hntl, hno, hnol⟩ := hwf2
  refine gq_aload_n hX dX4_meanArrears_0 rfl rfl rfl ?_
  refine gq_getf hX dX4_meanArrears_1 rfl fX4_10 hW.c0 rfl ?_
  refine gq_getf hX dX4_meanArrears_4 rfl fX4_117 (hW.s0 (i := 0) (by decide)) rfl ?_
  refine gq_if_neT (tgt := 21) hX dX4_meanArrears_7 rfl (by rw [hnc]; exact nI_nz0 h0 (by omega)) ?_
  refine gq_aload_n hX dX4_meanArrears_21 rfl rfl rfl ?_
  refine gq_getf hX dX4_meanArrears_22 rfl fX4_10 hW.c0 rfl ?_
  refine gq_callVe hX dX4_meanArrears_25 rfl vX4_363 (Ct.rdS hb hW (i := 0) (by decide) rfl (ct_sumOfArrears (hb.bS (i := 0) (by decide)) hwf)) rfl (hW.s0 (i := 0) (by decide)) rfl rfl (Nat.le_of_ble_eq_true rfl) ⟨(Nat.le_of_ble_eq_true rfl), (Nat.le_of_ble_eq_true rfl)⟩ (Nat.zero_add _) (Nat.zero_add _) ?_
  refine gq_i2d hX dX4_meanArrears_28 rfl ?_
  refine gq_aload_n hX dX4_meanArrears_29 rfl rfl rfl ?_
  refine gq_getf hX dX4_meanArrears_30 rfl fX4_10 hW.c0 rfl ?_
  refine gq_getf hX dX4_meanArrears_33 rfl fX4_117 (hW.s0 (i := 0) (by decide)) rfl ?_
  refine gq_i2d hX dX4_meanArrears_36 rfl ?_
  refine gq_ddiv hX dX4_meanArrears_37 rfl (by rw [hnc]; exact n64 (dq_num (nI_nz0 h0 (by omega)))) ?_
  exact gq_dret hX hQ dX4_meanArrears_38 rfl ⟨by rw [hnc], rfl⟩

set_option maxRecDepth 100000 in
set_option maxHeartbeats 4000000 in
theorem cr_share_1 {E : Ev} {b : Nat → Nat} {K : Kt} {M : Hp} (hb : Lay E 162 b) (hW : Wd E b K M) {nc nt no : Nat} (hwf : Wf (K.2.1 0) nc nt no) (h0 : nt = 0) : CtX E mX4_rentedShare [.ref (b 0)] M NoR (PXe "java/lang/ArithmeticException" M) 1 6 := by
  refine CtX.of gmX4_rentedShare (ls := [.ref (b 0)]) rfl rfl (Nat.le_of_ble_eq_true rfl) ?_
  intro X hX Q hQ hQ2
  have hwf2 := hwf
  obtain ⟨hnc, hncl, hnt, hntl, hno, hnol⟩ := hwf2
  refine gq_aload_n hX dX4_rentedShare_0 rfl rfl rfl ?_
  refine gq_getf hX dX4_rentedShare_1 rfl fX4_10 hW.c0 rfl ?_
  refine gq_getf hX dX4_rentedShare_4 rfl fX4_141 (hW.s0 (i := 0) (by decide)) rfl ?_
  refine gq_if_neF (tgt := 21) hX dX4_rentedShare_7 rfl rfl (by rw [hnt, h0]; rfl) ?_
  exact gq_throwW hX hQ2 rfl th358 rfl (List.mem_of_getElem? (i := 32) rfl) dX4_rentedShare_10 dX4_rentedShare_13 dX4_rentedShare_14 dX4_rentedShare_17 dX4_rentedShare_20 (Nat.le_of_ble_eq_true rfl) (Nat.le_of_ble_eq_true rfl) (Nat.le_of_ble_eq_true rfl) (Nat.le_of_ble_eq_true rfl) ⟨rfl, rfl⟩

set_option maxRecDepth 100000 in
set_option maxHeartbeats 4000000 in
theorem cr_share_ok {E : Ev} {b : Nat → Nat} {K : Kt} {M : Hp} (hb : Lay E 162 b) (hW : Wd E b K M) {nc nt no : Nat} (hwf : Wf (K.2.1 0) nc nt no) (h0 : 0 < nt) : Ct E mX4_rentedShare [.ref (b 0)] M (eqR (some (.float (FP.fdiv (FP.i2f ((K.2.1 0).1 1 - taiB (K.2.1 0) nt (-1))) (FP.i2f (nI nt))))) M) 0 0 := by
  refine Ct.of gmX4_rentedShare (ls := [.ref (b 0)]) rfl rfl (Nat.le_of_ble_eq_true rfl) ?_
  intro X hX Q hQ
  have hwf2 := hwf
  obtain ⟨hnc, hncl, hnt, hntl, hno, hnol⟩ := hwf2
  refine gq_aload_n hX dX4_rentedShare_0 rfl rfl rfl ?_
  refine gq_getf hX dX4_rentedShare_1 rfl fX4_10 hW.c0 rfl ?_
  refine gq_getf hX dX4_rentedShare_4 rfl fX4_141 (hW.s0 (i := 0) (by decide)) rfl ?_
  refine gq_if_neT (tgt := 21) hX dX4_rentedShare_7 rfl (by rw [hnt]; exact nI_nz0 h0 (by omega)) ?_
  refine gq_aload_n hX dX4_rentedShare_21 rfl rfl rfl ?_
  refine gq_getf hX dX4_rentedShare_22 rfl fX4_10 hW.c0 rfl ?_
  refine gq_callVe hX dX4_rentedShare_25 rfl vX4_368 (Ct.rdS hb hW (i := 0) (by decide) rfl (ct_rentedTails (hb.bS (i := 0) (by decide)) hwf)) rfl (hW.s0 (i := 0) (by decide)) rfl rfl (Nat.le_of_ble_eq_true rfl) ⟨(Nat.le_of_ble_eq_true rfl), (Nat.le_of_ble_eq_true rfl)⟩ (Nat.zero_add _) (Nat.zero_add _) ?_
  refine gq_i2f hX dX4_rentedShare_28 rfl ?_
  refine gq_aload_n hX dX4_rentedShare_29 rfl rfl rfl ?_
  refine gq_getf hX dX4_rentedShare_30 rfl fX4_10 hW.c0 rfl ?_
  refine gq_getf hX dX4_rentedShare_33 rfl fX4_141 (hW.s0 (i := 0) (by decide)) rfl ?_
  refine gq_i2f hX dX4_rentedShare_36 rfl ?_
  refine gq_fdiv hX dX4_rentedShare_37 rfl (by rw [hnt]; exact n32 (fq_num (nI_nz0 h0 (by omega)))) ?_
  exact gq_fret hX hQ dX4_rentedShare_38 rfl ⟨by rw [hnt], rfl⟩

