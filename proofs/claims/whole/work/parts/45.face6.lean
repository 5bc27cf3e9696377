set_option maxRecDepth 100000 in
set_option maxHeartbeats 4000000 in
theorem cn_0 {E : Ev} {b : Nat → Nat} {K : Kt} {M : Hp} (hb : Lay E 162 b) (hW : Wd E b K M) {nc nt no : Nat} (hwf : Wf (K.2.1 0) nc nt no) {q : Nat} (hq : q < 60) (hk : K.2.2.1 0 q = nI 0) {p0 p1 : Int32} (h0 : K.2.2.1 1 (2 * q) = p0) (h1 : K.2.2.1 1 (2 * q + 1) = p1) : Ct E mX0_faultOf [.ref (b 3), .int (nI q), .ref (bS b 0 0)] M (eqR (some (.int (xF ((K.2.1 0), nc, nt, no) 0 p0 p1))) M) 0 0 := by
  refine Ct.of gmX0_faultOf (ls := [.ref (b 3), .int (nI q), .ref (bS b 0 0), hole, hole]) rfl rfl (Nat.le_of_ble_eq_true rfl) ?_
  intro X hX Q hQ
  refine gq_aload_n hX dX0_faultOf_0 rfl rfl rfl ?_
  refine gq_getf hX dX0_faultOf_1 rfl fX0_22 hW.c3 rfl ?_
  refine gq_iconst (v := nI 2) hX dX0_faultOf_4 rfl (by decide) ?_
  refine gq_iload_n hX dX0_faultOf_5 rfl rfl rfl ?_
  refine gq_imul hX dX0_faultOf_6 rfl ?_
  rw [nI_m]
  refine gq_ialdN hX dX0_faultOf_7 rfl hW.c5 rfl (by omega) (Nat.le_of_ble_eq_true rfl) ?_
  rw [h0]
  refine gq_istore_n hX dX0_faultOf_8 rfl rfl (Nat.le_of_ble_eq_true rfl) rfl ?_
  refine gq_aload_n hX dX0_faultOf_9 rfl rfl rfl ?_
  refine gq_getf hX dX0_faultOf_10 rfl fX0_22 hW.c3 rfl ?_
  refine gq_iconst (v := nI 2) hX dX0_faultOf_13 rfl (by decide) ?_
  refine gq_iload_n hX dX0_faultOf_14 rfl rfl rfl ?_
  refine gq_imul hX dX0_faultOf_15 rfl ?_
  rw [nI_m]
  refine gq_iconst (v := nI 1) hX dX0_faultOf_16 rfl (by decide) ?_
  refine gq_iadd hX dX0_faultOf_17 rfl ?_
  rw [inM]
  refine gq_ialdN hX dX0_faultOf_18 rfl hW.c5 rfl (by omega) (Nat.le_of_ble_eq_true rfl) ?_
  rw [h1]
  refine gq_istore hX dX0_faultOf_19 rfl (Nat.le_of_ble_eq_true rfl) rfl ?_
  refine gq_aload_n hX dX0_faultOf_21 rfl rfl rfl ?_
  refine gq_getf hX dX0_faultOf_22 rfl fX0_18 hW.c3 rfl ?_
  refine gq_iload_n hX dX0_faultOf_25 rfl rfl rfl ?_
  refine gq_ialdN hX dX0_faultOf_26 rfl hW.c4 rfl (by omega) (Nat.le_of_ble_eq_true rfl) ?_
  rw [hk]
  refine gq_tableIn (tgt := 88) (off := 61) hX dX0_faultOf_27 (by decide) (by decide) (by decide +kernel) rfl ?_
  refine gq_aload_n hX dX0_faultOf_88 rfl rfl rfl ?_
  refine gq_iload_n hX dX0_faultOf_89 rfl rfl rfl ?_
  refine gq_callVe hX dX0_faultOf_90 rfl vX0_107 (Ct.rdS hb hW (i := 0) (by decide) rfl (ct_committeeFault (hb.bS (i := 0) (by decide)) _)) rfl (hW.s0 (i := 0) (by decide)) rfl rfl (Nat.le_of_ble_eq_true rfl) ⟨(Nat.le_of_ble_eq_true rfl), (Nat.le_of_ble_eq_true rfl)⟩ (Nat.zero_add _) (Nat.zero_add _) ?_
  exact gq_iret hX hQ dX0_faultOf_93 rfl ⟨rfl, rfl⟩

set_option maxRecDepth 100000 in
set_option maxHeartbeats 4000000 in
theorem cn_1 {E : Ev} {b : Nat → Nat} {K : Kt} {M : Hp} (hb : Lay E 162 b) (hW : Wd E b K M) {nc nt no : Nat} (hwf : Wf (K.2.1 0) nc nt no) {q : Nat} (hq : q < 60) (hk : K.2.2.1 0 q = nI 1) {p0 p1 : Int32} (h0 : K.2.2.1 1 (2 * q) = p0) (h1 : K.2.2.1 1 (2 * q + 1) = p1) : Ct E mX0_faultOf [.ref (b 3), .int (nI q), .ref (bS b 0 0)] M (eqR (some (.int (xF ((K.2.1 0), nc, nt, no) 1 p0 p1))) M) 0 0 := by
  refine Ct.of gmX0_faultOf (ls := [.ref (b 3), .int (nI q), .ref (bS b 0 0), hole, hole]) rfl rfl (Nat.le_of_ble_eq_true rfl) ?_
  intro X hX Q hQ
  refine gq_aload_n hX dX0_faultOf_0 rfl rfl rfl ?_
  refine gq_getf hX dX0_faultOf_1 rfl fX0_22 hW.c3 rfl ?_
  refine gq_iconst (v := nI 2) hX dX0_faultOf_4 rfl (by decide) ?_
  refine gq_iload_n hX dX0_faultOf_5 rfl rfl rfl ?_
  refine gq_imul hX dX0_faultOf_6 rfl ?_
  rw [nI_m]
  refine gq_ialdN hX dX0_faultOf_7 rfl hW.c5 rfl (by omega) (Nat.le_of_ble_eq_true rfl) ?_
  rw [h0]
  refine gq_istore_n hX dX0_faultOf_8 rfl rfl (Nat.le_of_ble_eq_true rfl) rfl ?_
  refine gq_aload_n hX dX0_faultOf_9 rfl rfl rfl ?_
  refine gq_getf hX dX0_faultOf_10 rfl fX0_22 hW.c3 rfl ?_
  refine gq_iconst (v := nI 2) hX dX0_faultOf_13 rfl (by decide) ?_
  refine gq_iload_n hX dX0_faultOf_14 rfl rfl rfl ?_
  refine gq_imul hX dX0_faultOf_15 rfl ?_
  rw [nI_m]
  refine gq_iconst (v := nI 1) hX dX0_faultOf_16 rfl (by decide) ?_
  refine gq_iadd hX dX0_faultOf_17 rfl ?_
  rw [inM]
  refine gq_ialdN hX dX0_faultOf_18 rfl hW.c5 rfl (by omega) (Nat.le_of_ble_eq_true rfl) ?_
  rw [h1]
  refine gq_istore hX dX0_faultOf_19 rfl (Nat.le_of_ble_eq_true rfl) rfl ?_
  refine gq_aload_n hX dX0_faultOf_21 rfl rfl rfl ?_
  refine gq_getf hX dX0_faultOf_22 rfl fX0_18 hW.c3 rfl ?_
  refine gq_iload_n hX dX0_faultOf_25 rfl rfl rfl ?_
  refine gq_ialdN hX dX0_faultOf_26 rfl hW.c4 rfl (by omega) (Nat.le_of_ble_eq_true rfl) ?_
  rw [hk]
  refine gq_tableIn (tgt := 94) (off := 67) hX dX0_faultOf_27 (by decide) (by decide) (by decide +kernel) rfl ?_
  refine gq_aload_n hX dX0_faultOf_94 rfl rfl rfl ?_
  refine gq_iload_n hX dX0_faultOf_95 rfl rfl rfl ?_
  refine gq_callVe hX dX0_faultOf_96 rfl vX0_113 (Ct.rdS hb hW (i := 0) (by decide) rfl (ct_tailFault (hb.bS (i := 0) (by decide)) _)) rfl (hW.s0 (i := 0) (by decide)) rfl rfl (Nat.le_of_ble_eq_true rfl) ⟨(Nat.le_of_ble_eq_true rfl), (Nat.le_of_ble_eq_true rfl)⟩ (Nat.zero_add _) (Nat.zero_add _) ?_
  exact gq_iret hX hQ dX0_faultOf_99 rfl ⟨rfl, rfl⟩

set_option maxRecDepth 100000 in
set_option maxHeartbeats 4000000 in
theorem cn_2 {E : Ev} {b : Nat → Nat} {K : Kt} {M : Hp} (hb : Lay E 162 b) (hW : Wd E b K M) {nc nt no : Nat} (hwf : Wf (K.2.1 0) nc nt no) {q : Nat} (hq : q < 60) (hk : K.2.2.1 0 q = nI 2) {p0 p1 : Int32} (h0 : K.2.2.1 1 (2 * q) = p0) (h1 : K.2.2.1 1 (2 * q + 1) = p1) : Ct E mX0_faultOf [.ref (b 3), .int (nI q), .ref (bS b 0 0)] M (eqR (some (.int (xF ((K.2.1 0), nc, nt, no) 2 p0 p1))) M) 0 0 := by
  refine Ct.of gmX0_faultOf (ls := [.ref (b 3), .int (nI q), .ref (bS b 0 0), hole, hole]) rfl rfl (Nat.le_of_ble_eq_true rfl) ?_
  intro X hX Q hQ
  refine gq_aload_n hX dX0_faultOf_0 rfl rfl rfl ?_
  refine gq_getf hX dX0_faultOf_1 rfl fX0_22 hW.c3 rfl ?_
  refine gq_iconst (v := nI 2) hX dX0_faultOf_4 rfl (by decide) ?_
  refine gq_iload_n hX dX0_faultOf_5 rfl rfl rfl ?_
  refine gq_imul hX dX0_faultOf_6 rfl ?_
  rw [nI_m]
  refine gq_ialdN hX dX0_faultOf_7 rfl hW.c5 rfl (by omega) (Nat.le_of_ble_eq_true rfl) ?_
  rw [h0]
  refine gq_istore_n hX dX0_faultOf_8 rfl rfl (Nat.le_of_ble_eq_true rfl) rfl ?_
  refine gq_aload_n hX dX0_faultOf_9 rfl rfl rfl ?_
  refine gq_getf hX dX0_faultOf_10 rfl fX0_22 hW.c3 rfl ?_
  refine gq_iconst (v := nI 2) hX dX0_faultOf_13 rfl (by decide) ?_
  refine gq_iload_n hX dX0_faultOf_14 rfl rfl rfl ?_
  refine gq_imul hX dX0_faultOf_15 rfl ?_
  rw [nI_m]
  refine gq_iconst (v := nI 1) hX dX0_faultOf_16 rfl (by decide) ?_
  refine gq_iadd hX dX0_faultOf_17 rfl ?_
  rw [inM]
  refine gq_ialdN hX dX0_faultOf_18 rfl hW.c5 rfl (by omega) (Nat.le_of_ble_eq_true rfl) ?_
  rw [h1]
  refine gq_istore hX dX0_faultOf_19 rfl (Nat.le_of_ble_eq_true rfl) rfl ?_
  refine gq_aload_n hX dX0_faultOf_21 rfl rfl rfl ?_
  refine gq_getf hX dX0_faultOf_22 rfl fX0_18 hW.c3 rfl ?_
  refine gq_iload_n hX dX0_faultOf_25 rfl rfl rfl ?_
  refine gq_ialdN hX dX0_faultOf_26 rfl hW.c4 rfl (by omega) (Nat.le_of_ble_eq_true rfl) ?_
  rw [hk]
  refine gq_tableIn (tgt := 100) (off := 73) hX dX0_faultOf_27 (by decide) (by decide) (by decide +kernel) rfl ?_
  refine gq_aload_n hX dX0_faultOf_100 rfl rfl rfl ?_
  refine gq_iload_n hX dX0_faultOf_101 rfl rfl rfl ?_
  refine gq_iload hX dX0_faultOf_102 rfl rfl ?_
  refine gq_callVe hX dX0_faultOf_104 rfl vX0_116 (Ct.rdS hb hW (i := 0) (by decide) rfl (ct_payFault (hb.bS (i := 0) (by decide)) hwf _ _)) rfl (hW.s0 (i := 0) (by decide)) rfl rfl (Nat.le_of_ble_eq_true rfl) ⟨(Nat.le_of_ble_eq_true rfl), (Nat.le_of_ble_eq_true rfl)⟩ (Nat.zero_add _) (Nat.zero_add _) ?_
  exact gq_iret hX hQ dX0_faultOf_107 rfl ⟨rfl, rfl⟩

set_option maxRecDepth 100000 in
set_option maxHeartbeats 4000000 in
theorem cn_3 {E : Ev} {b : Nat → Nat} {K : Kt} {M : Hp} (hb : Lay E 162 b) (hW : Wd E b K M) {nc nt no : Nat} (hwf : Wf (K.2.1 0) nc nt no) {q : Nat} (hq : q < 60) (hk : K.2.2.1 0 q = nI 3) {p0 p1 : Int32} (h0 : K.2.2.1 1 (2 * q) = p0) (h1 : K.2.2.1 1 (2 * q + 1) = p1) : Ct E mX0_faultOf [.ref (b 3), .int (nI q), .ref (bS b 0 0)] M (eqR (some (.int (xF ((K.2.1 0), nc, nt, no) 3 p0 p1))) M) 0 0 := by
  refine Ct.of gmX0_faultOf (ls := [.ref (b 3), .int (nI q), .ref (bS b 0 0), hole, hole]) rfl rfl (Nat.le_of_ble_eq_true rfl) ?_
  intro X hX Q hQ
  refine gq_aload_n hX dX0_faultOf_0 rfl rfl rfl ?_
  refine gq_getf hX dX0_faultOf_1 rfl fX0_22 hW.c3 rfl ?_
  refine gq_iconst (v := nI 2) hX dX0_faultOf_4 rfl (by decide) ?_
  refine gq_iload_n hX dX0_faultOf_5 rfl rfl rfl ?_
  refine gq_imul hX dX0_faultOf_6 rfl ?_
  rw [nI_m]
  refine gq_ialdN hX dX0_faultOf_7 rfl hW.c5 rfl (by omega) (Nat.le_of_ble_eq_true rfl) ?_
  rw [h0]
  refine gq_istore_n hX dX0_faultOf_8 rfl rfl (Nat.le_of_ble_eq_true rfl) rfl ?_
  refine gq_aload_n hX dX0_faultOf_9 rfl rfl rfl ?_
  refine gq_getf hX dX0_faultOf_10 rfl fX0_22 hW.c3 rfl ?_
  refine gq_iconst (v := nI 2) hX dX0_faultOf_13 rfl (by decide) ?_
  refine gq_iload_n hX dX0_faultOf_14 rfl rfl rfl ?_
  refine gq_imul hX dX0_faultOf_15 rfl ?_
  rw [nI_m]
  refine gq_iconst (v := nI 1) hX dX0_faultOf_16 rfl (by decide) ?_
  refine gq_iadd hX dX0_faultOf_17 rfl ?_
  rw [inM]
  refine gq_ialdN hX dX0_faultOf_18 rfl hW.c5 rfl (by omega) (Nat.le_of_ble_eq_true rfl) ?_
  rw [h1]
  refine gq_istore hX dX0_faultOf_19 rfl (Nat.le_of_ble_eq_true rfl) rfl ?_
  refine gq_aload_n hX dX0_faultOf_21 rfl rfl rfl ?_
  refine gq_getf hX dX0_faultOf_22 rfl fX0_18 hW.c3 rfl ?_
  refine gq_iload_n hX dX0_faultOf_25 rfl rfl rfl ?_
  refine gq_ialdN hX dX0_faultOf_26 rfl hW.c4 rfl (by omega) (Nat.le_of_ble_eq_true rfl) ?_
  rw [hk]
  refine gq_tableIn (tgt := 108) (off := 81) hX dX0_faultOf_27 (by decide) (by decide) (by decide +kernel) rfl ?_
  refine gq_aload_n hX dX0_faultOf_108 rfl rfl rfl ?_
  refine gq_iload_n hX dX0_faultOf_109 rfl rfl rfl ?_
  refine gq_callVe hX dX0_faultOf_110 rfl vX0_119 (Ct.rdS hb hW (i := 0) (by decide) rfl (ct_launchFault (hb.bS (i := 0) (by decide)) hwf _)) rfl (hW.s0 (i := 0) (by decide)) rfl rfl (Nat.le_of_ble_eq_true rfl) ⟨(Nat.le_of_ble_eq_true rfl), (Nat.le_of_ble_eq_true rfl)⟩ (Nat.zero_add _) (Nat.zero_add _) ?_
  exact gq_iret hX hQ dX0_faultOf_113 rfl ⟨rfl, rfl⟩

set_option maxRecDepth 100000 in
set_option maxHeartbeats 4000000 in
theorem cn_4 {E : Ev} {b : Nat → Nat} {K : Kt} {M : Hp} (hb : Lay E 162 b) (hW : Wd E b K M) {nc nt no : Nat} (hwf : Wf (K.2.1 0) nc nt no) {q : Nat} (hq : q < 60) (hk : K.2.2.1 0 q = nI 4) {p0 p1 : Int32} (h0 : K.2.2.1 1 (2 * q) = p0) (h1 : K.2.2.1 1 (2 * q + 1) = p1) : Ct E mX0_faultOf [.ref (b 3), .int (nI q), .ref (bS b 0 0)] M (eqR (some (.int (xF ((K.2.1 0), nc, nt, no) 4 p0 p1))) M) 0 0 := by
  refine Ct.of gmX0_faultOf (ls := [.ref (b 3), .int (nI q), .ref (bS b 0 0), hole, hole]) rfl rfl (Nat.le_of_ble_eq_true rfl) ?_
  intro X hX Q hQ
  refine gq_aload_n hX dX0_faultOf_0 rfl rfl rfl ?_
  refine gq_getf hX dX0_faultOf_1 rfl fX0_22 hW.c3 rfl ?_
  refine gq_iconst (v := nI 2) hX dX0_faultOf_4 rfl (by decide) ?_
  refine gq_iload_n hX dX0_faultOf_5 rfl rfl rfl ?_
  refine gq_imul hX dX0_faultOf_6 rfl ?_
  rw [nI_m]
  refine gq_ialdN hX dX0_faultOf_7 rfl hW.c5 rfl (by omega) (Nat.le_of_ble_eq_true rfl) ?_
  rw [h0]
  refine gq_istore_n hX dX0_faultOf_8 rfl rfl (Nat.le_of_ble_eq_true rfl) rfl ?_
  refine gq_aload_n hX dX0_faultOf_9 rfl rfl rfl ?_
  refine gq_getf hX dX0_faultOf_10 rfl fX0_22 hW.c3 rfl ?_
  refine gq_iconst (v := nI 2) hX dX0_faultOf_13 rfl (by decide) ?_
  refine gq_iload_n hX dX0_faultOf_14 rfl rfl rfl ?_
  refine gq_imul hX dX0_faultOf_15 rfl ?_
  rw [nI_m]
  refine gq_iconst (v := nI 1) hX dX0_faultOf_16 rfl (by decide) ?_
  refine gq_iadd hX dX0_faultOf_17 rfl ?_
  rw [inM]
  refine gq_ialdN hX dX0_faultOf_18 rfl hW.c5 rfl (by omega) (Nat.le_of_ble_eq_true rfl) ?_
  rw [h1]
  refine gq_istore hX dX0_faultOf_19 rfl (Nat.le_of_ble_eq_true rfl) rfl ?_
  refine gq_aload_n hX dX0_faultOf_21 rfl rfl rfl ?_
  refine gq_getf hX dX0_faultOf_22 rfl fX0_18 hW.c3 rfl ?_
  refine gq_iload_n hX dX0_faultOf_25 rfl rfl rfl ?_
  refine gq_ialdN hX dX0_faultOf_26 rfl hW.c4 rfl (by omega) (Nat.le_of_ble_eq_true rfl) ?_
  rw [hk]
  refine gq_tableIn (tgt := 114) (off := 87) hX dX0_faultOf_27 (by decide) (by decide) (by decide +kernel) rfl ?_
  refine gq_aload_n hX dX0_faultOf_114 rfl rfl rfl ?_
  refine gq_iload_n hX dX0_faultOf_115 rfl rfl rfl ?_
  refine gq_iload hX dX0_faultOf_116 rfl rfl ?_
  refine gq_callVe hX dX0_faultOf_118 rfl vX0_122 (Ct.rdS hb hW (i := 0) (by decide) rfl (ct_tailMotionFault (hb.bS (i := 0) (by decide)) hwf _ _)) rfl (hW.s0 (i := 0) (by decide)) rfl rfl (Nat.le_of_ble_eq_true rfl) ⟨(Nat.le_of_ble_eq_true rfl), (Nat.le_of_ble_eq_true rfl)⟩ (Nat.zero_add _) (Nat.zero_add _) ?_
  exact gq_iret hX hQ dX0_faultOf_121 rfl ⟨rfl, rfl⟩

set_option maxRecDepth 100000 in
set_option maxHeartbeats 4000000 in
theorem cn_5 {E : Ev} {b : Nat → Nat} {K : Kt} {M : Hp} (hb : Lay E 162 b) (hW : Wd E b K M) {nc nt no : Nat} (hwf : Wf (K.2.1 0) nc nt no) {q : Nat} (hq : q < 60) (hk : K.2.2.1 0 q = nI 5) {p0 p1 : Int32} (h0 : K.2.2.1 1 (2 * q) = p0) (h1 : K.2.2.1 1 (2 * q + 1) = p1) : Ct E mX0_faultOf [.ref (b 3), .int (nI q), .ref (bS b 0 0)] M (eqR (some (.int (xF ((K.2.1 0), nc, nt, no) 5 p0 p1))) M) 0 0 := by
  refine Ct.of gmX0_faultOf (ls := [.ref (b 3), .int (nI q), .ref (bS b 0 0), hole, hole]) rfl rfl (Nat.le_of_ble_eq_true rfl) ?_
  intro X hX Q hQ
  refine gq_aload_n hX dX0_faultOf_0 rfl rfl rfl ?_
  refine gq_getf hX dX0_faultOf_1 rfl fX0_22 hW.c3 rfl ?_
  refine gq_iconst (v := nI 2) hX dX0_faultOf_4 rfl (by decide) ?_
  refine gq_iload_n hX dX0_faultOf_5 rfl rfl rfl ?_
  refine gq_imul hX dX0_faultOf_6 rfl ?_
  rw [nI_m]
  refine gq_ialdN hX dX0_faultOf_7 rfl hW.c5 rfl (by omega) (Nat.le_of_ble_eq_true rfl) ?_
  rw [h0]
  refine gq_istore_n hX dX0_faultOf_8 rfl rfl (Nat.le_of_ble_eq_true rfl) rfl ?_
  refine gq_aload_n hX dX0_faultOf_9 rfl rfl rfl ?_
  refine gq_getf hX dX0_faultOf_10 rfl fX0_22 hW.c3 rfl ?_
  refine gq_iconst (v := nI 2) hX dX0_faultOf_13 rfl (by decide) ?_
  refine gq_iload_n hX dX0_faultOf_14 rfl rfl rfl ?_
  refine gq_imul hX dX0_faultOf_15 rfl ?_
  rw [nI_m]
  refine gq_iconst (v := nI 1) hX dX0_faultOf_16 rfl (by decide) ?_
  refine gq_iadd hX dX0_faultOf_17 rfl ?_
  rw [inM]
  refine gq_ialdN hX dX0_faultOf_18 rfl hW.c5 rfl (by omega) (Nat.le_of_ble_eq_true rfl) ?_
  rw [h1]
  refine gq_istore hX dX0_faultOf_19 rfl (Nat.le_of_ble_eq_true rfl) rfl ?_
  refine gq_aload_n hX dX0_faultOf_21 rfl rfl rfl ?_
  refine gq_getf hX dX0_faultOf_22 rfl fX0_18 hW.c3 rfl ?_
  refine gq_iload_n hX dX0_faultOf_25 rfl rfl rfl ?_
  refine gq_ialdN hX dX0_faultOf_26 rfl hW.c4 rfl (by omega) (Nat.le_of_ble_eq_true rfl) ?_
  rw [hk]
  refine gq_tableIn (tgt := 114) (off := 87) hX dX0_faultOf_27 (by decide) (by decide) (by decide +kernel) rfl ?_
  refine gq_aload_n hX dX0_faultOf_114 rfl rfl rfl ?_
  refine gq_iload_n hX dX0_faultOf_115 rfl rfl rfl ?_
  refine gq_iload hX dX0_faultOf_116 rfl rfl ?_
  refine gq_callVe hX dX0_faultOf_118 rfl vX0_122 (Ct.rdS hb hW (i := 0) (by decide) rfl (ct_tailMotionFault (hb.bS (i := 0) (by decide)) hwf _ _)) rfl (hW.s0 (i := 0) (by decide)) rfl rfl (Nat.le_of_ble_eq_true rfl) ⟨(Nat.le_of_ble_eq_true rfl), (Nat.le_of_ble_eq_true rfl)⟩ (Nat.zero_add _) (Nat.zero_add _) ?_
  exact gq_iret hX hQ dX0_faultOf_121 rfl ⟨rfl, rfl⟩

set_option maxRecDepth 100000 in
set_option maxHeartbeats 4000000 in
theorem cn_6 {E : Ev} {b : Nat → Nat} {K : Kt} {M : Hp} (hb : Lay E 162 b) (hW : Wd E b K M) {nc nt no : Nat} (hwf : Wf (K.2.1 0) nc nt no) {q : Nat} (hq : q < 60) (hk : K.2.2.1 0 q = nI 6) {p0 p1 : Int32} (h0 : K.2.2.1 1 (2 * q) = p0) (h1 : K.2.2.1 1 (2 * q + 1) = p1) : Ct E mX0_faultOf [.ref (b 3), .int (nI q), .ref (bS b 0 0)] M (eqR (some (.int (xF ((K.2.1 0), nc, nt, no) 6 p0 p1))) M) 0 0 := by
  refine Ct.of gmX0_faultOf (ls := [.ref (b 3), .int (nI q), .ref (bS b 0 0), hole, hole]) rfl rfl (Nat.le_of_ble_eq_true rfl) ?_
  intro X hX Q hQ
  refine gq_aload_n hX dX0_faultOf_0 rfl rfl rfl ?_
  refine gq_getf hX dX0_faultOf_1 rfl fX0_22 hW.c3 rfl ?_
  refine gq_iconst (v := nI 2) hX dX0_faultOf_4 rfl (by decide) ?_
  refine gq_iload_n hX dX0_faultOf_5 rfl rfl rfl ?_
  refine gq_imul hX dX0_faultOf_6 rfl ?_
  rw [nI_m]
  refine gq_ialdN hX dX0_faultOf_7 rfl hW.c5 rfl (by omega) (Nat.le_of_ble_eq_true rfl) ?_
  rw [h0]
  refine gq_istore_n hX dX0_faultOf_8 rfl rfl (Nat.le_of_ble_eq_true rfl) rfl ?_
  refine gq_aload_n hX dX0_faultOf_9 rfl rfl rfl ?_
  refine gq_getf hX dX0_faultOf_10 rfl fX0_22 hW.c3 rfl ?_
  refine gq_iconst (v := nI 2) hX dX0_faultOf_13 rfl (by decide) ?_
  refine gq_iload_n hX dX0_faultOf_14 rfl rfl rfl ?_
  refine gq_imul hX dX0_faultOf_15 rfl ?_
  rw [nI_m]
  refine gq_iconst (v := nI 1) hX dX0_faultOf_16 rfl (by decide) ?_
  refine gq_iadd hX dX0_faultOf_17 rfl ?_
  rw [inM]
  refine gq_ialdN hX dX0_faultOf_18 rfl hW.c5 rfl (by omega) (Nat.le_of_ble_eq_true rfl) ?_
  rw [h1]
  refine gq_istore hX dX0_faultOf_19 rfl (Nat.le_of_ble_eq_true rfl) rfl ?_
  refine gq_aload_n hX dX0_faultOf_21 rfl rfl rfl ?_
  refine gq_getf hX dX0_faultOf_22 rfl fX0_18 hW.c3 rfl ?_
  refine gq_iload_n hX dX0_faultOf_25 rfl rfl rfl ?_
  refine gq_ialdN hX dX0_faultOf_26 rfl hW.c4 rfl (by omega) (Nat.le_of_ble_eq_true rfl) ?_
  rw [hk]
  refine gq_tableIn (tgt := 122) (off := 95) hX dX0_faultOf_27 (by decide) (by decide) (by decide +kernel) rfl ?_
  refine gq_aload_n hX dX0_faultOf_122 rfl rfl rfl ?_
  refine gq_iload_n hX dX0_faultOf_123 rfl rfl rfl ?_
  refine gq_iload hX dX0_faultOf_124 rfl rfl ?_
  refine gq_callVe hX dX0_faultOf_126 rfl vX0_125 (Ct.rdS hb hW (i := 0) (by decide) rfl (ct_groundMotionFault (hb.bS (i := 0) (by decide)) hwf _ _)) rfl (hW.s0 (i := 0) (by decide)) rfl rfl (Nat.le_of_ble_eq_true rfl) ⟨(Nat.le_of_ble_eq_true rfl), (Nat.le_of_ble_eq_true rfl)⟩ (Nat.zero_add _) (Nat.zero_add _) ?_
  exact gq_iret hX hQ dX0_faultOf_129 rfl ⟨rfl, rfl⟩

set_option maxRecDepth 100000 in
set_option maxHeartbeats 4000000 in
theorem cn_7 {E : Ev} {b : Nat → Nat} {K : Kt} {M : Hp} (hb : Lay E 162 b) (hW : Wd E b K M) {nc nt no : Nat} (hwf : Wf (K.2.1 0) nc nt no) {q : Nat} (hq : q < 60) (hk : K.2.2.1 0 q = nI 7) {p0 p1 : Int32} (h0 : K.2.2.1 1 (2 * q) = p0) (h1 : K.2.2.1 1 (2 * q + 1) = p1) : Ct E mX0_faultOf [.ref (b 3), .int (nI q), .ref (bS b 0 0)] M (eqR (some (.int (xF ((K.2.1 0), nc, nt, no) 7 p0 p1))) M) 0 0 := by
  refine Ct.of gmX0_faultOf (ls := [.ref (b 3), .int (nI q), .ref (bS b 0 0), hole, hole]) rfl rfl (Nat.le_of_ble_eq_true rfl) ?_
  intro X hX Q hQ
  refine gq_aload_n hX dX0_faultOf_0 rfl rfl rfl ?_
  refine gq_getf hX dX0_faultOf_1 rfl fX0_22 hW.c3 rfl ?_
  refine gq_iconst (v := nI 2) hX dX0_faultOf_4 rfl (by decide) ?_
  refine gq_iload_n hX dX0_faultOf_5 rfl rfl rfl ?_
  refine gq_imul hX dX0_faultOf_6 rfl ?_
  rw [nI_m]
  refine gq_ialdN hX dX0_faultOf_7 rfl hW.c5 rfl (by omega) (Nat.le_of_ble_eq_true rfl) ?_
  rw [h0]
  refine gq_istore_n hX dX0_faultOf_8 rfl rfl (Nat.le_of_ble_eq_true rfl) rfl ?_
  refine gq_aload_n hX dX0_faultOf_9 rfl rfl rfl ?_
  refine gq_getf hX dX0_faultOf_10 rfl fX0_22 hW.c3 rfl ?_
  refine gq_iconst (v := nI 2) hX dX0_faultOf_13 rfl (by decide) ?_
  refine gq_iload_n hX dX0_faultOf_14 rfl rfl rfl ?_
  refine gq_imul hX dX0_faultOf_15 rfl ?_
  rw [nI_m]
  refine gq_iconst (v := nI 1) hX dX0_faultOf_16 rfl (by decide) ?_
  refine gq_iadd hX dX0_faultOf_17 rfl ?_
  rw [inM]
  refine gq_ialdN hX dX0_faultOf_18 rfl hW.c5 rfl (by omega) (Nat.le_of_ble_eq_true rfl) ?_
  rw [h1]
  refine gq_istore hX dX0_faultOf_19 rfl (Nat.le_of_ble_eq_true rfl) rfl ?_
  refine gq_aload_n hX dX0_faultOf_21 rfl rfl rfl ?_
  refine gq_getf hX dX0_faultOf_22 rfl fX0_18 hW.c3 rfl ?_
  refine gq_iload_n hX dX0_faultOf_25 rfl rfl rfl ?_
  refine gq_ialdN hX dX0_faultOf_26 rfl hW.c4 rfl (by omega) (Nat.le_of_ble_eq_true rfl) ?_
  rw [hk]
  refine gq_tableIn (tgt := 130) (off := 103) hX dX0_faultOf_27 (by decide) (by decide) (by decide +kernel) rfl ?_
  refine gq_aload_n hX dX0_faultOf_130 rfl rfl rfl ?_
  refine gq_iload_n hX dX0_faultOf_131 rfl rfl rfl ?_
  refine gq_iload hX dX0_faultOf_132 rfl rfl ?_
  refine gq_callVe hX dX0_faultOf_134 rfl vX0_128 (Ct.rdS hb hW (i := 0) (by decide) rfl (ct_secondFault (hb.bS (i := 0) (by decide)) hwf _ _)) rfl (hW.s0 (i := 0) (by decide)) rfl rfl (Nat.le_of_ble_eq_true rfl) ⟨(Nat.le_of_ble_eq_true rfl), (Nat.le_of_ble_eq_true rfl)⟩ (Nat.zero_add _) (Nat.zero_add _) ?_
  exact gq_iret hX hQ dX0_faultOf_137 rfl ⟨rfl, rfl⟩

set_option maxRecDepth 100000 in
set_option maxHeartbeats 4000000 in
theorem cn_8 {E : Ev} {b : Nat → Nat} {K : Kt} {M : Hp} (hb : Lay E 162 b) (hW : Wd E b K M) {nc nt no : Nat} (hwf : Wf (K.2.1 0) nc nt no) {q : Nat} (hq : q < 60) (hk : K.2.2.1 0 q = nI 8) {p0 p1 : Int32} (h0 : K.2.2.1 1 (2 * q) = p0) (h1 : K.2.2.1 1 (2 * q + 1) = p1) : Ct E mX0_faultOf [.ref (b 3), .int (nI q), .ref (bS b 0 0)] M (eqR (some (.int (xF ((K.2.1 0), nc, nt, no) 8 p0 p1))) M) 0 0 := by
  refine Ct.of gmX0_faultOf (ls := [.ref (b 3), .int (nI q), .ref (bS b 0 0), hole, hole]) rfl rfl (Nat.le_of_ble_eq_true rfl) ?_
  intro X hX Q hQ
  refine gq_aload_n hX dX0_faultOf_0 rfl rfl rfl ?_
  refine gq_getf hX dX0_faultOf_1 rfl fX0_22 hW.c3 rfl ?_
  refine gq_iconst (v := nI 2) hX dX0_faultOf_4 rfl (by decide) ?_
  refine gq_iload_n hX dX0_faultOf_5 rfl rfl rfl ?_
  refine gq_imul hX dX0_faultOf_6 rfl ?_
  rw [nI_m]
  refine gq_ialdN hX dX0_faultOf_7 rfl hW.c5 rfl (by omega) (Nat.le_of_ble_eq_true rfl) ?_
  rw [h0]
  refine gq_istore_n hX dX0_faultOf_8 rfl rfl (Nat.le_of_ble_eq_true rfl) rfl ?_
  refine gq_aload_n hX dX0_faultOf_9 rfl rfl rfl ?_
  refine gq_getf hX dX0_faultOf_10 rfl fX0_22 hW.c3 rfl ?_
  refine gq_iconst (v := nI 2) hX dX0_faultOf_13 rfl (by decide) ?_
  refine gq_iload_n hX dX0_faultOf_14 rfl rfl rfl ?_
  refine gq_imul hX dX0_faultOf_15 rfl ?_
  rw [nI_m]
  refine gq_iconst (v := nI 1) hX dX0_faultOf_16 rfl (by decide) ?_
  refine gq_iadd hX dX0_faultOf_17 rfl ?_
  rw [inM]
  refine gq_ialdN hX dX0_faultOf_18 rfl hW.c5 rfl (by omega) (Nat.le_of_ble_eq_true rfl) ?_
  rw [h1]
  refine gq_istore hX dX0_faultOf_19 rfl (Nat.le_of_ble_eq_true rfl) rfl ?_
  refine gq_aload_n hX dX0_faultOf_21 rfl rfl rfl ?_
  refine gq_getf hX dX0_faultOf_22 rfl fX0_18 hW.c3 rfl ?_
  refine gq_iload_n hX dX0_faultOf_25 rfl rfl rfl ?_
  refine gq_ialdN hX dX0_faultOf_26 rfl hW.c4 rfl (by omega) (Nat.le_of_ble_eq_true rfl) ?_
  rw [hk]
  refine gq_tableIn (tgt := 138) (off := 111) hX dX0_faultOf_27 (by decide) (by decide) (by decide +kernel) rfl ?_
  refine gq_aload_n hX dX0_faultOf_138 rfl rfl rfl ?_
  refine gq_iload_n hX dX0_faultOf_139 rfl rfl rfl ?_
  refine gq_callVe hX dX0_faultOf_140 rfl vX0_131 (Ct.rdS hb hW (i := 0) (by decide) rfl (ct_untableFault (hb.bS (i := 0) (by decide)) hwf _)) rfl (hW.s0 (i := 0) (by decide)) rfl rfl (Nat.le_of_ble_eq_true rfl) ⟨(Nat.le_of_ble_eq_true rfl), (Nat.le_of_ble_eq_true rfl)⟩ (Nat.zero_add _) (Nat.zero_add _) ?_
  exact gq_iret hX hQ dX0_faultOf_143 rfl ⟨rfl, rfl⟩

set_option maxRecDepth 100000 in
set_option maxHeartbeats 4000000 in
theorem cn_9 {E : Ev} {b : Nat → Nat} {K : Kt} {M : Hp} (hb : Lay E 162 b) (hW : Wd E b K M) {nc nt no : Nat} (hwf : Wf (K.2.1 0) nc nt no) {q : Nat} (hq : q < 60) (hk : K.2.2.1 0 q = nI 9) {p0 p1 : Int32} (h0 : K.2.2.1 1 (2 * q) = p0) (h1 : K.2.2.1 1 (2 * q + 1) = p1) : Ct E mX0_faultOf [.ref (b 3), .int (nI q), .ref (bS b 0 0)] M (eqR (some (.int (xF ((K.2.1 0), nc, nt, no) 9 p0 p1))) M) 0 0 := by
  refine Ct.of gmX0_faultOf (ls := [.ref (b 3), .int (nI q), .ref (bS b 0 0), hole, hole]) rfl rfl (Nat.le_of_ble_eq_true rfl) ?_
  intro X hX Q hQ
  refine gq_aload_n hX dX0_faultOf_0 rfl rfl rfl ?_
  refine gq_getf hX dX0_faultOf_1 rfl fX0_22 hW.c3 rfl ?_
  refine gq_iconst (v := nI 2) hX dX0_faultOf_4 rfl (by decide) ?_
  refine gq_iload_n hX dX0_faultOf_5 rfl rfl rfl ?_
  refine gq_imul hX dX0_faultOf_6 rfl ?_
  rw [nI_m]
  refine gq_ialdN hX dX0_faultOf_7 rfl hW.c5 rfl (by omega) (Nat.le_of_ble_eq_true rfl) ?_
  rw [h0]
  refine gq_istore_n hX dX0_faultOf_8 rfl rfl (Nat.le_of_ble_eq_true rfl) rfl ?_
  refine gq_aload_n hX dX0_faultOf_9 rfl rfl rfl ?_
  refine gq_getf hX dX0_faultOf_10 rfl fX0_22 hW.c3 rfl ?_
  refine gq_iconst (v := nI 2) hX dX0_faultOf_13 rfl (by decide) ?_
  refine gq_iload_n hX dX0_faultOf_14 rfl rfl rfl ?_
  refine gq_imul hX dX0_faultOf_15 rfl ?_
  rw [nI_m]
  refine gq_iconst (v := nI 1) hX dX0_faultOf_16 rfl (by decide) ?_
  refine gq_iadd hX dX0_faultOf_17 rfl ?_
  rw [inM]
  refine gq_ialdN hX dX0_faultOf_18 rfl hW.c5 rfl (by omega) (Nat.le_of_ble_eq_true rfl) ?_
  rw [h1]
  refine gq_istore hX dX0_faultOf_19 rfl (Nat.le_of_ble_eq_true rfl) rfl ?_
  refine gq_aload_n hX dX0_faultOf_21 rfl rfl rfl ?_
  refine gq_getf hX dX0_faultOf_22 rfl fX0_18 hW.c3 rfl ?_
  refine gq_iload_n hX dX0_faultOf_25 rfl rfl rfl ?_
  refine gq_ialdN hX dX0_faultOf_26 rfl hW.c4 rfl (by omega) (Nat.le_of_ble_eq_true rfl) ?_
  rw [hk]
  refine gq_tableIn (tgt := 144) (off := 117) hX dX0_faultOf_27 (by decide) (by decide) (by decide +kernel) rfl ?_
  refine gq_aload_n hX dX0_faultOf_144 rfl rfl rfl ?_
  refine gq_iload_n hX dX0_faultOf_145 rfl rfl rfl ?_
  refine gq_callVe hX dX0_faultOf_146 rfl vX0_134 (Ct.rdS hb hW (i := 0) (by decide) rfl (ct_withdrawFault (hb.bS (i := 0) (by decide)) hwf _)) rfl (hW.s0 (i := 0) (by decide)) rfl rfl (Nat.le_of_ble_eq_true rfl) ⟨(Nat.le_of_ble_eq_true rfl), (Nat.le_of_ble_eq_true rfl)⟩ (Nat.zero_add _) (Nat.zero_add _) ?_
  exact gq_iret hX hQ dX0_faultOf_149 rfl ⟨rfl, rfl⟩

set_option maxRecDepth 100000 in
set_option maxHeartbeats 4000000 in
theorem cn_10 {E : Ev} {b : Nat → Nat} {K : Kt} {M : Hp} (hb : Lay E 162 b) (hW : Wd E b K M) {nc nt no : Nat} (hwf : Wf (K.2.1 0) nc nt no) {q : Nat} (hq : q < 60) (hk : K.2.2.1 0 q = nI 10) {p0 p1 : Int32} (h0 : K.2.2.1 1 (2 * q) = p0) (h1 : K.2.2.1 1 (2 * q + 1) = p1) : Ct E mX0_faultOf [.ref (b 3), .int (nI q), .ref (bS b 0 0)] M (eqR (some (.int (xF ((K.2.1 0), nc, nt, no) 10 p0 p1))) M) 0 0 := by
  refine Ct.of gmX0_faultOf (ls := [.ref (b 3), .int (nI q), .ref (bS b 0 0), hole, hole]) rfl rfl (Nat.le_of_ble_eq_true rfl) ?_
  intro X hX Q hQ
  refine gq_aload_n hX dX0_faultOf_0 rfl rfl rfl ?_
  refine gq_getf hX dX0_faultOf_1 rfl fX0_22 hW.c3 rfl ?_
  refine gq_iconst (v := nI 2) hX dX0_faultOf_4 rfl (by decide) ?_
  refine gq_iload_n hX dX0_faultOf_5 rfl rfl rfl ?_
  refine gq_imul hX dX0_faultOf_6 rfl ?_
  rw [nI_m]
  refine gq_ialdN hX dX0_faultOf_7 rfl hW.c5 rfl (by omega) (Nat.le_of_ble_eq_true rfl) ?_
  rw [h0]
  refine gq_istore_n hX dX0_faultOf_8 rfl rfl (Nat.le_of_ble_eq_true rfl) rfl ?_
  refine gq_aload_n hX dX0_faultOf_9 rfl rfl rfl ?_
  refine gq_getf hX dX0_faultOf_10 rfl fX0_22 hW.c3 rfl ?_
  refine gq_iconst (v := nI 2) hX dX0_faultOf_13 rfl (by decide) ?_
  refine gq_iload_n hX dX0_faultOf_14 rfl rfl rfl ?_
  refine gq_imul hX dX0_faultOf_15 rfl ?_
  rw [nI_m]
  refine gq_iconst (v := nI 1) hX dX0_faultOf_16 rfl (by decide) ?_
  refine gq_iadd hX dX0_faultOf_17 rfl ?_
  rw [inM]
  refine gq_ialdN hX dX0_faultOf_18 rfl hW.c5 rfl (by omega) (Nat.le_of_ble_eq_true rfl) ?_
  rw [h1]
  refine gq_istore hX dX0_faultOf_19 rfl (Nat.le_of_ble_eq_true rfl) rfl ?_
  refine gq_aload_n hX dX0_faultOf_21 rfl rfl rfl ?_
  refine gq_getf hX dX0_faultOf_22 rfl fX0_18 hW.c3 rfl ?_
  refine gq_iload_n hX dX0_faultOf_25 rfl rfl rfl ?_
  refine gq_ialdN hX dX0_faultOf_26 rfl hW.c4 rfl (by omega) (Nat.le_of_ble_eq_true rfl) ?_
  rw [hk]
  refine gq_tableIn (tgt := 150) (off := 123) hX dX0_faultOf_27 (by decide) (by decide) (by decide +kernel) rfl ?_
  refine gq_aload_n hX dX0_faultOf_150 rfl rfl rfl ?_
  refine gq_iload_n hX dX0_faultOf_151 rfl rfl rfl ?_
  refine gq_callVe hX dX0_faultOf_152 rfl vX0_137 (Ct.rdS hb hW (i := 0) (by decide) rfl (ct_voteFault (hb.bS (i := 0) (by decide)) hwf _)) rfl (hW.s0 (i := 0) (by decide)) rfl rfl (Nat.le_of_ble_eq_true rfl) ⟨(Nat.le_of_ble_eq_true rfl), (Nat.le_of_ble_eq_true rfl)⟩ (Nat.zero_add _) (Nat.zero_add _) ?_
  exact gq_iret hX hQ dX0_faultOf_155 rfl ⟨rfl, rfl⟩

set_option maxRecDepth 100000 in
set_option maxHeartbeats 4000000 in
theorem cn_11 {E : Ev} {b : Nat → Nat} {K : Kt} {M : Hp} (hb : Lay E 162 b) (hW : Wd E b K M) {nc nt no : Nat} (hwf : Wf (K.2.1 0) nc nt no) {q : Nat} (hq : q < 60) (hk : K.2.2.1 0 q = nI 11) {p0 p1 : Int32} (h0 : K.2.2.1 1 (2 * q) = p0) (h1 : K.2.2.1 1 (2 * q + 1) = p1) : Ct E mX0_faultOf [.ref (b 3), .int (nI q), .ref (bS b 0 0)] M (eqR (some (.int (xF ((K.2.1 0), nc, nt, no) 11 p0 p1))) M) 0 0 := by
  refine Ct.of gmX0_faultOf (ls := [.ref (b 3), .int (nI q), .ref (bS b 0 0), hole, hole]) rfl rfl (Nat.le_of_ble_eq_true rfl) ?_
  intro X hX Q hQ
  refine gq_aload_n hX dX0_faultOf_0 rfl rfl rfl ?_
  refine gq_getf hX dX0_faultOf_1 rfl fX0_22 hW.c3 rfl ?_
  refine gq_iconst (v := nI 2) hX dX0_faultOf_4 rfl (by decide) ?_
  refine gq_iload_n hX dX0_faultOf_5 rfl rfl rfl ?_
  refine gq_imul hX dX0_faultOf_6 rfl ?_
  rw [nI_m]
  refine gq_ialdN hX dX0_faultOf_7 rfl hW.c5 rfl (by omega) (Nat.le_of_ble_eq_true rfl) ?_
  rw [h0]
  refine gq_istore_n hX dX0_faultOf_8 rfl rfl (Nat.le_of_ble_eq_true rfl) rfl ?_
  refine gq_aload_n hX dX0_faultOf_9 rfl rfl rfl ?_
  refine gq_getf hX dX0_faultOf_10 rfl fX0_22 hW.c3 rfl ?_
  refine gq_iconst (v := nI 2) hX dX0_faultOf_13 rfl (by decide) ?_
  refine gq_iload_n hX dX0_faultOf_14 rfl rfl rfl ?_
  refine gq_imul hX dX0_faultOf_15 rfl ?_
  rw [nI_m]
  refine gq_iconst (v := nI 1) hX dX0_faultOf_16 rfl (by decide) ?_
  refine gq_iadd hX dX0_faultOf_17 rfl ?_
  rw [inM]
  refine gq_ialdN hX dX0_faultOf_18 rfl hW.c5 rfl (by omega) (Nat.le_of_ble_eq_true rfl) ?_
  rw [h1]
  refine gq_istore hX dX0_faultOf_19 rfl (Nat.le_of_ble_eq_true rfl) rfl ?_
  refine gq_aload_n hX dX0_faultOf_21 rfl rfl rfl ?_
  refine gq_getf hX dX0_faultOf_22 rfl fX0_18 hW.c3 rfl ?_
  refine gq_iload_n hX dX0_faultOf_25 rfl rfl rfl ?_
  refine gq_ialdN hX dX0_faultOf_26 rfl hW.c4 rfl (by omega) (Nat.le_of_ble_eq_true rfl) ?_
  rw [hk]
  refine gq_tableIn (tgt := 156) (off := 129) hX dX0_faultOf_27 (by decide) (by decide) (by decide +kernel) rfl ?_
  refine gq_aload_n hX dX0_faultOf_156 rfl rfl rfl ?_
  refine gq_iload_n hX dX0_faultOf_157 rfl rfl rfl ?_
  refine gq_callVe hX dX0_faultOf_158 rfl vX0_140 (Ct.rdS hb hW (i := 0) (by decide) rfl (ct_gustFault (hb.bS (i := 0) (by decide)) _)) rfl (hW.s0 (i := 0) (by decide)) rfl rfl (Nat.le_of_ble_eq_true rfl) ⟨(Nat.le_of_ble_eq_true rfl), (Nat.le_of_ble_eq_true rfl)⟩ (Nat.zero_add _) (Nat.zero_add _) ?_
  exact gq_iret hX hQ dX0_faultOf_161 rfl ⟨rfl, rfl⟩

set_option maxRecDepth 100000 in
set_option maxHeartbeats 4000000 in
theorem cn_12 {E : Ev} {b : Nat → Nat} {K : Kt} {M : Hp} (hb : Lay E 162 b) (hW : Wd E b K M) {nc nt no : Nat} (hwf : Wf (K.2.1 0) nc nt no) {q : Nat} (hq : q < 60) (hk : K.2.2.1 0 q = nI 12) {p0 p1 : Int32} (h0 : K.2.2.1 1 (2 * q) = p0) (h1 : K.2.2.1 1 (2 * q + 1) = p1) : Ct E mX0_faultOf [.ref (b 3), .int (nI q), .ref (bS b 0 0)] M (eqR (some (.int (xF ((K.2.1 0), nc, nt, no) 12 p0 p1))) M) 0 0 := by
  refine Ct.of gmX0_faultOf (ls := [.ref (b 3), .int (nI q), .ref (bS b 0 0), hole, hole]) rfl rfl (Nat.le_of_ble_eq_true rfl) ?_
  intro X hX Q hQ
  refine gq_aload_n hX dX0_faultOf_0 rfl rfl rfl ?_
  refine gq_getf hX dX0_faultOf_1 rfl fX0_22 hW.c3 rfl ?_
  refine gq_iconst (v := nI 2) hX dX0_faultOf_4 rfl (by decide) ?_
  refine gq_iload_n hX dX0_faultOf_5 rfl rfl rfl ?_
  refine gq_imul hX dX0_faultOf_6 rfl ?_
  rw [nI_m]
  refine gq_ialdN hX dX0_faultOf_7 rfl hW.c5 rfl (by omega) (Nat.le_of_ble_eq_true rfl) ?_
  rw [h0]
  refine gq_istore_n hX dX0_faultOf_8 rfl rfl (Nat.le_of_ble_eq_true rfl) rfl ?_
  refine gq_aload_n hX dX0_faultOf_9 rfl rfl rfl ?_
  refine gq_getf hX dX0_faultOf_10 rfl fX0_22 hW.c3 rfl ?_
  refine gq_iconst (v := nI 2) hX dX0_faultOf_13 rfl (by decide) ?_
  refine gq_iload_n hX dX0_faultOf_14 rfl rfl rfl ?_
  refine gq_imul hX dX0_faultOf_15 rfl ?_
  rw [nI_m]
  refine gq_iconst (v := nI 1) hX dX0_faultOf_16 rfl (by decide) ?_
  refine gq_iadd hX dX0_faultOf_17 rfl ?_
  rw [inM]
  refine gq_ialdN hX dX0_faultOf_18 rfl hW.c5 rfl (by omega) (Nat.le_of_ble_eq_true rfl) ?_
  rw [h1]
  refine gq_istore hX dX0_faultOf_19 rfl (Nat.le_of_ble_eq_true rfl) rfl ?_
  refine gq_aload_n hX dX0_faultOf_21 rfl rfl rfl ?_
  refine gq_getf hX dX0_faultOf_22 rfl fX0_18 hW.c3 rfl ?_
  refine gq_iload_n hX dX0_faultOf_25 rfl rfl rfl ?_
  refine gq_ialdN hX dX0_faultOf_26 rfl hW.c4 rfl (by omega) (Nat.le_of_ble_eq_true rfl) ?_
  rw [hk]
  refine gq_tableOut (tgt := 162) hX dX0_faultOf_27 (by decide) rfl ?_
  refine gq_aload_n hX dX0_faultOf_162 rfl rfl rfl ?_
  refine gq_iload_n hX dX0_faultOf_163 rfl rfl rfl ?_
  refine gq_callVe hX dX0_faultOf_164 rfl vX0_143 (Ct.rdS hb hW (i := 0) (by decide) rfl (ct_passFault (hb.bS (i := 0) (by decide)) _)) rfl (hW.s0 (i := 0) (by decide)) rfl rfl (Nat.le_of_ble_eq_true rfl) ⟨(Nat.le_of_ble_eq_true rfl), (Nat.le_of_ble_eq_true rfl)⟩ (Nat.zero_add _) (Nat.zero_add _) ?_
  exact gq_iret hX hQ dX0_faultOf_167 rfl ⟨rfl, rfl⟩

theorem cn_all {E : Ev} {b : Nat → Nat} {K : Kt} {M : Hp} (hb : Lay E 162 b) (hW : Wd E b K M) {nc nt no : Nat} (hwf : Wf (K.2.1 0) nc nt no) {q : Nat} (hq : q < 60) {kind : Nat} (h13 : kind < 13) (hk : K.2.2.1 0 q = nI kind) {p0 p1 : Int32} (h0 : K.2.2.1 1 (2 * q) = p0) (h1 : K.2.2.1 1 (2 * q + 1) = p1) : Ct E mX0_faultOf [.ref (b 3), .int (nI q), .ref (bS b 0 0)] M (eqR (some (.int (xF ((K.2.1 0), nc, nt, no) kind p0 p1))) M) 0 0 := by
  match kind, h13, hk with
  | 0, _, hk => exact cn_0 hb hW hwf hq hk h0 h1
  | 1, _, hk => exact cn_1 hb hW hwf hq hk h0 h1
  | 2, _, hk => exact cn_2 hb hW hwf hq hk h0 h1
  | 3, _, hk => exact cn_3 hb hW hwf hq hk h0 h1
  | 4, _, hk => exact cn_4 hb hW hwf hq hk h0 h1
  | 5, _, hk => exact cn_5 hb hW hwf hq hk h0 h1
  | 6, _, hk => exact cn_6 hb hW hwf hq hk h0 h1
  | 7, _, hk => exact cn_7 hb hW hwf hq hk h0 h1
  | 8, _, hk => exact cn_8 hb hW hwf hq hk h0 h1
  | 9, _, hk => exact cn_9 hb hW hwf hq hk h0 h1
  | 10, _, hk => exact cn_10 hb hW hwf hq hk h0 h1
  | 11, _, hk => exact cn_11 hb hW hwf hq hk h0 h1
  | 12, _, hk => exact cn_12 hb hW hwf hq hk h0 h1
  | n + 13, h, _ => exact absurd h (by omega)

set_option maxRecDepth 100000 in
set_option maxHeartbeats 4000000 in
theorem cd_0 {E : Ev} {b : Nat → Nat} {K : Kt} {M : Hp} (hb : Lay E 162 b) (hW : Wd E b K M) {nc nt no B : Nat} (hok : Ok (K.2.1 0) nc nt no B) {q : Nat} (hq : q < 60) (hk : K.2.2.1 0 q = nI 0) {p0 p1 : Int32} (h0 : K.2.2.1 1 (2 * q) = p0) (h1 : K.2.2.1 1 (2 * q + 1) = p1) (hF : xF ((K.2.1 0), nc, nt, no) 0 p0 p1 = 0) : Ct E mX0_carryOut [.ref (b 3), .int (nI q), .ref (bS b 0 0)] M (WR E b (none) (kSs K 0 (xD ((K.2.1 0), nc, nt, no) 0 p0 p1).1)) 0 0 := by
  refine Ct.of gmX0_carryOut (ls := [.ref (b 3), .int (nI q), .ref (bS b 0 0), hole, hole]) rfl rfl (Nat.le_of_ble_eq_true rfl) ?_
  intro X hX Q hQ
  obtain ⟨hwf, hn, -, -, -, -, hse, -, -⟩ := id hok
  have hwf2 := hwf
  obtain ⟨hnc, hncl, hnt, hntl, hno, hnol⟩ := hwf2
  refine gq_aload_n hX dX0_carryOut_0 rfl rfl rfl ?_
  refine gq_getf hX dX0_carryOut_1 rfl fX0_22 hW.c3 rfl ?_
  refine gq_iconst (v := nI 2) hX dX0_carryOut_4 rfl (by decide) ?_
  refine gq_iload_n hX dX0_carryOut_5 rfl rfl rfl ?_
  refine gq_imul hX dX0_carryOut_6 rfl ?_
  rw [nI_m]
  refine gq_ialdN hX dX0_carryOut_7 rfl hW.c5 rfl (by omega) (Nat.le_of_ble_eq_true rfl) ?_
  rw [h0]
  refine gq_istore_n hX dX0_carryOut_8 rfl rfl (Nat.le_of_ble_eq_true rfl) rfl ?_
  refine gq_aload_n hX dX0_carryOut_9 rfl rfl rfl ?_
  refine gq_getf hX dX0_carryOut_10 rfl fX0_22 hW.c3 rfl ?_
  refine gq_iconst (v := nI 2) hX dX0_carryOut_13 rfl (by decide) ?_
  refine gq_iload_n hX dX0_carryOut_14 rfl rfl rfl ?_
  refine gq_imul hX dX0_carryOut_15 rfl ?_
  rw [nI_m]
  refine gq_iconst (v := nI 1) hX dX0_carryOut_16 rfl (by decide) ?_
  refine gq_iadd hX dX0_carryOut_17 rfl ?_
  rw [inM]
  refine gq_ialdN hX dX0_carryOut_18 rfl hW.c5 rfl (by omega) (Nat.le_of_ble_eq_true rfl) ?_
  rw [h1]
  refine gq_istore hX dX0_carryOut_19 rfl (Nat.le_of_ble_eq_true rfl) rfl ?_
  refine gq_aload_n hX dX0_carryOut_21 rfl rfl rfl ?_
  refine gq_getf hX dX0_carryOut_22 rfl fX0_18 hW.c3 rfl ?_
  refine gq_iload_n hX dX0_carryOut_25 rfl rfl rfl ?_
  refine gq_ialdN hX dX0_carryOut_26 rfl hW.c4 rfl (by omega) (Nat.le_of_ble_eq_true rfl) ?_
  rw [hk]
  refine gq_tableIn (tgt := 88) (off := 61) hX dX0_carryOut_27 (by decide) (by decide) (by decide +kernel) rfl ?_
  have hlt := (comF_0 hwf hF).1
  refine gq_aload_n hX dX0_carryOut_88 rfl rfl rfl ?_
  refine gq_iload_n hX dX0_carryOut_89 rfl rfl rfl ?_
  refine gq_callVw hX dX0_carryOut_90 rfl vX0_146 (Ct.stwS hb hW (i := 0) (by decide) rfl (ct_enterCommittee (hb.bS (i := 0) (by decide)) hwf hlt _)) rfl (hW.s0 (i := 0) (by decide)) rfl rfl (Nat.le_of_ble_eq_true rfl) ⟨(Nat.le_of_ble_eq_true rfl), (Nat.le_of_ble_eq_true rfl)⟩ (Nat.zero_add _) (Nat.zero_add _) ?_
  intro M2 hW2
  refine gq_pop hX dX0_carryOut_93 rfl rfl ?_
  refine gq_goto (tgt := 218) hX dX0_carryOut_94 rfl ?_
  exact gq_vret hX hQ dX0_carryOut_218 rfl ⟨rfl, hW2⟩

set_option maxRecDepth 100000 in
set_option maxHeartbeats 4000000 in
theorem cd_1 {E : Ev} {b : Nat → Nat} {K : Kt} {M : Hp} (hb : Lay E 162 b) (hW : Wd E b K M) {nc nt no B : Nat} (hok : Ok (K.2.1 0) nc nt no B) {q : Nat} (hq : q < 60) (hk : K.2.2.1 0 q = nI 1) {p0 p1 : Int32} (h0 : K.2.2.1 1 (2 * q) = p0) (h1 : K.2.2.1 1 (2 * q + 1) = p1) (hF : xF ((K.2.1 0), nc, nt, no) 1 p0 p1 = 0) : Ct E mX0_carryOut [.ref (b 3), .int (nI q), .ref (bS b 0 0)] M (WR E b (none) (kSs K 0 (xD ((K.2.1 0), nc, nt, no) 1 p0 p1).1)) 0 0 := by
  refine Ct.of gmX0_carryOut (ls := [.ref (b 3), .int (nI q), .ref (bS b 0 0), hole, hole]) rfl rfl (Nat.le_of_ble_eq_true rfl) ?_
  intro X hX Q hQ
  obtain ⟨hwf, hn, -, -, -, -, hse, -, -⟩ := id hok
  have hwf2 := hwf
  obtain ⟨hnc, hncl, hnt, hntl, hno, hnol⟩ := hwf2
  refine gq_aload_n hX dX0_carryOut_0 rfl rfl rfl ?_
  refine gq_getf hX dX0_carryOut_1 rfl fX0_22 hW.c3 rfl ?_
  refine gq_iconst (v := nI 2) hX dX0_carryOut_4 rfl (by decide) ?_
  refine gq_iload_n hX dX0_carryOut_5 rfl rfl rfl ?_
  refine gq_imul hX dX0_carryOut_6 rfl ?_
  rw [nI_m]
  refine gq_ialdN hX dX0_carryOut_7 rfl hW.c5 rfl (by omega) (Nat.le_of_ble_eq_true rfl) ?_
  rw [h0]
  refine gq_istore_n hX dX0_carryOut_8 rfl rfl (Nat.le_of_ble_eq_true rfl) rfl ?_
  refine gq_aload_n hX dX0_carryOut_9 rfl rfl rfl ?_
  refine gq_getf hX dX0_carryOut_10 rfl fX0_22 hW.c3 rfl ?_
  refine gq_iconst (v := nI 2) hX dX0_carryOut_13 rfl (by decide) ?_
  refine gq_iload_n hX dX0_carryOut_14 rfl rfl rfl ?_
  refine gq_imul hX dX0_carryOut_15 rfl ?_
  rw [nI_m]
  refine gq_iconst (v := nI 1) hX dX0_carryOut_16 rfl (by decide) ?_
  refine gq_iadd hX dX0_carryOut_17 rfl ?_
  rw [inM]
  refine gq_ialdN hX dX0_carryOut_18 rfl hW.c5 rfl (by omega) (Nat.le_of_ble_eq_true rfl) ?_
  rw [h1]
  refine gq_istore hX dX0_carryOut_19 rfl (Nat.le_of_ble_eq_true rfl) rfl ?_
  refine gq_aload_n hX dX0_carryOut_21 rfl rfl rfl ?_
  refine gq_getf hX dX0_carryOut_22 rfl fX0_18 hW.c3 rfl ?_
  refine gq_iload_n hX dX0_carryOut_25 rfl rfl rfl ?_
  refine gq_ialdN hX dX0_carryOut_26 rfl hW.c4 rfl (by omega) (Nat.le_of_ble_eq_true rfl) ?_
  rw [hk]
  refine gq_tableIn (tgt := 97) (off := 70) hX dX0_carryOut_27 (by decide) (by decide) (by decide +kernel) rfl ?_
  have hlt := (taiF_0 hwf hF).1
  refine gq_aload_n hX dX0_carryOut_97 rfl rfl rfl ?_
  refine gq_iload_n hX dX0_carryOut_98 rfl rfl rfl ?_
  refine gq_callVw hX dX0_carryOut_99 rfl vX0_149 (Ct.stwS hb hW (i := 0) (by decide) rfl (ct_enterTail (hb.bS (i := 0) (by decide)) hwf hlt _)) rfl (hW.s0 (i := 0) (by decide)) rfl rfl (Nat.le_of_ble_eq_true rfl) ⟨(Nat.le_of_ble_eq_true rfl), (Nat.le_of_ble_eq_true rfl)⟩ (Nat.zero_add _) (Nat.zero_add _) ?_
  intro M2 hW2
  refine gq_pop hX dX0_carryOut_102 rfl rfl ?_
  refine gq_goto (tgt := 218) hX dX0_carryOut_103 rfl ?_
  exact gq_vret hX hQ dX0_carryOut_218 rfl ⟨rfl, hW2⟩

set_option maxRecDepth 100000 in
set_option maxHeartbeats 4000000 in
theorem cd_2 {E : Ev} {b : Nat → Nat} {K : Kt} {M : Hp} (hb : Lay E 162 b) (hW : Wd E b K M) {nc nt no B : Nat} (hok : Ok (K.2.1 0) nc nt no B) {q : Nat} (hq : q < 60) (hk : K.2.2.1 0 q = nI 2) {p0 p1 : Int32} (h0 : K.2.2.1 1 (2 * q) = p0) (h1 : K.2.2.1 1 (2 * q + 1) = p1) (hF : xF ((K.2.1 0), nc, nt, no) 2 p0 p1 = 0) : Ct E mX0_carryOut [.ref (b 3), .int (nI q), .ref (bS b 0 0)] M (WR E b (none) (kSs K 0 (xD ((K.2.1 0), nc, nt, no) 2 p0 p1).1)) 0 0 := by
  refine Ct.of gmX0_carryOut (ls := [.ref (b 3), .int (nI q), .ref (bS b 0 0), hole, hole]) rfl rfl (Nat.le_of_ble_eq_true rfl) ?_
  intro X hX Q hQ
  obtain ⟨hwf, hn, -, -, -, -, hse, -, -⟩ := id hok
  have hwf2 := hwf
  obtain ⟨hnc, hncl, hnt, hntl, hno, hnol⟩ := hwf2
  refine gq_aload_n hX dX0_carryOut_0 rfl rfl rfl ?_
  refine gq_getf hX dX0_carryOut_1 rfl fX0_22 hW.c3 rfl ?_
  refine gq_iconst (v := nI 2) hX dX0_carryOut_4 rfl (by decide) ?_
  refine gq_iload_n hX dX0_carryOut_5 rfl rfl rfl ?_
  refine gq_imul hX dX0_carryOut_6 rfl ?_
  rw [nI_m]
  refine gq_ialdN hX dX0_carryOut_7 rfl hW.c5 rfl (by omega) (Nat.le_of_ble_eq_true rfl) ?_
  rw [h0]
  refine gq_istore_n hX dX0_carryOut_8 rfl rfl (Nat.le_of_ble_eq_true rfl) rfl ?_
  refine gq_aload_n hX dX0_carryOut_9 rfl rfl rfl ?_
  refine gq_getf hX dX0_carryOut_10 rfl fX0_22 hW.c3 rfl ?_
  refine gq_iconst (v := nI 2) hX dX0_carryOut_13 rfl (by decide) ?_
  refine gq_iload_n hX dX0_carryOut_14 rfl rfl rfl ?_
  refine gq_imul hX dX0_carryOut_15 rfl ?_
  rw [nI_m]
  refine gq_iconst (v := nI 1) hX dX0_carryOut_16 rfl (by decide) ?_
  refine gq_iadd hX dX0_carryOut_17 rfl ?_
  rw [inM]
  refine gq_ialdN hX dX0_carryOut_18 rfl hW.c5 rfl (by omega) (Nat.le_of_ble_eq_true rfl) ?_
  rw [h1]
  refine gq_istore hX dX0_carryOut_19 rfl (Nat.le_of_ble_eq_true rfl) rfl ?_
  refine gq_aload_n hX dX0_carryOut_21 rfl rfl rfl ?_
  refine gq_getf hX dX0_carryOut_22 rfl fX0_18 hW.c3 rfl ?_
  refine gq_iload_n hX dX0_carryOut_25 rfl rfl rfl ?_
  refine gq_ialdN hX dX0_carryOut_26 rfl hW.c4 rfl (by omega) (Nat.le_of_ble_eq_true rfl) ?_
  rw [hk]
  refine gq_tableIn (tgt := 106) (off := 79) hX dX0_carryOut_27 (by decide) (by decide) (by decide +kernel) rfl ?_
  obtain ⟨j, y, hj, rfl, hy1, hy2, rfl, hle⟩ := payF_0 hncl hF
  refine gq_aload_n hX dX0_carryOut_106 rfl rfl rfl ?_
  refine gq_iload_n hX dX0_carryOut_107 rfl rfl rfl ?_
  refine gq_iload hX dX0_carryOut_108 rfl rfl ?_
  refine gq_callVw hX dX0_carryOut_110 rfl vX0_152 (Ct.stwS hb hW (i := 0) (by decide) rfl (ct_takeCoins (hb.bS (i := 0) (by decide)) hwf hj _)) rfl (hW.s0 (i := 0) (by decide)) rfl rfl (Nat.le_of_ble_eq_true rfl) ⟨(Nat.le_of_ble_eq_true rfl), (Nat.le_of_ble_eq_true rfl)⟩ (Nat.zero_add _) (Nat.zero_add _) ?_
  intro M2 hW2
  refine gq_pop hX dX0_carryOut_113 rfl rfl ?_
  refine gq_goto (tgt := 218) hX dX0_carryOut_114 rfl ?_
  have e : (xD ((K.2.1 0), nc, nt, no) 2 (nI j) (nI y)).1 = payS (K.2.1 0) j (nI y) := by
    show payS (K.2.1 0) (nI j).toNatClampNeg (nI y) = _
    rw [nI_clamp (by omega)]
  rw [← e] at hW2
  exact gq_vret hX hQ dX0_carryOut_218 rfl ⟨rfl, hW2⟩

set_option maxRecDepth 100000 in
set_option maxHeartbeats 4000000 in
theorem cd_3 {E : Ev} {b : Nat → Nat} {K : Kt} {M : Hp} (hb : Lay E 162 b) (hW : Wd E b K M) {nc nt no B : Nat} (hok : Ok (K.2.1 0) nc nt no B) {q : Nat} (hq : q < 60) (hk : K.2.2.1 0 q = nI 3) {p0 p1 : Int32} (h0 : K.2.2.1 1 (2 * q) = p0) (h1 : K.2.2.1 1 (2 * q + 1) = p1) (hF : xF ((K.2.1 0), nc, nt, no) 3 p0 p1 = 0) : Ct E mX0_carryOut [.ref (b 3), .int (nI q), .ref (bS b 0 0)] M (WR E b (none) (kSs K 0 (xD ((K.2.1 0), nc, nt, no) 3 p0 p1).1)) 0 0 := by
  refine Ct.of gmX0_carryOut (ls := [.ref (b 3), .int (nI q), .ref (bS b 0 0), hole, hole]) rfl rfl (Nat.le_of_ble_eq_true rfl) ?_
  intro X hX Q hQ
  obtain ⟨hwf, hn, -, -, -, -, hse, -, -⟩ := id hok
  have hwf2 := hwf
  obtain ⟨hnc, hncl, hnt, hntl, hno, hnol⟩ := hwf2
  refine gq_aload_n hX dX0_carryOut_0 rfl rfl rfl ?_
  refine gq_getf hX dX0_carryOut_1 rfl fX0_22 hW.c3 rfl ?_
  refine gq_iconst (v := nI 2) hX dX0_carryOut_4 rfl (by decide) ?_
  refine gq_iload_n hX dX0_carryOut_5 rfl rfl rfl ?_
  refine gq_imul hX dX0_carryOut_6 rfl ?_
  rw [nI_m]
  refine gq_ialdN hX dX0_carryOut_7 rfl hW.c5 rfl (by omega) (Nat.le_of_ble_eq_true rfl) ?_
  rw [h0]
  refine gq_istore_n hX dX0_carryOut_8 rfl rfl (Nat.le_of_ble_eq_true rfl) rfl ?_
  refine gq_aload_n hX dX0_carryOut_9 rfl rfl rfl ?_
  refine gq_getf hX dX0_carryOut_10 rfl fX0_22 hW.c3 rfl ?_
  refine gq_iconst (v := nI 2) hX dX0_carryOut_13 rfl (by decide) ?_
  refine gq_iload_n hX dX0_carryOut_14 rfl rfl rfl ?_
  refine gq_imul hX dX0_carryOut_15 rfl ?_
  rw [nI_m]
  refine gq_iconst (v := nI 1) hX dX0_carryOut_16 rfl (by decide) ?_
  refine gq_iadd hX dX0_carryOut_17 rfl ?_
  rw [inM]
  refine gq_ialdN hX dX0_carryOut_18 rfl hW.c5 rfl (by omega) (Nat.le_of_ble_eq_true rfl) ?_
  rw [h1]
  refine gq_istore hX dX0_carryOut_19 rfl (Nat.le_of_ble_eq_true rfl) rfl ?_
  refine gq_aload_n hX dX0_carryOut_21 rfl rfl rfl ?_
  refine gq_getf hX dX0_carryOut_22 rfl fX0_18 hW.c3 rfl ?_
  refine gq_iload_n hX dX0_carryOut_25 rfl rfl rfl ?_
  refine gq_ialdN hX dX0_carryOut_26 rfl hW.c4 rfl (by omega) (Nat.le_of_ble_eq_true rfl) ?_
  rw [hk]
  refine gq_tableIn (tgt := 117) (off := 90) hX dX0_carryOut_27 (by decide) (by decide) (by decide +kernel) rfl ?_
  obtain ⟨j, hj, rfl⟩ := lauF_0 hncl hF
  refine gq_aload_n hX dX0_carryOut_117 rfl rfl rfl ?_
  refine gq_iload_n hX dX0_carryOut_118 rfl rfl rfl ?_
  refine gq_callVw hX dX0_carryOut_119 rfl vX0_155 (Ct.stwS hb hW (i := 0) (by decide) rfl (ct_letFly (hb.bS (i := 0) (by decide)) hwf hj)) rfl (hW.s0 (i := 0) (by decide)) rfl rfl (Nat.le_of_ble_eq_true rfl) ⟨(Nat.le_of_ble_eq_true rfl), (Nat.le_of_ble_eq_true rfl)⟩ (Nat.zero_add _) (Nat.zero_add _) ?_
  intro M2 hW2
  refine gq_pop hX dX0_carryOut_122 rfl rfl ?_
  refine gq_goto (tgt := 218) hX dX0_carryOut_123 rfl ?_
  have e : (xD ((K.2.1 0), nc, nt, no) 3 (nI j) p1).1 = flyS (K.2.1 0) j := by
    show flyS (K.2.1 0) (nI j).toNatClampNeg = _
    rw [nI_clamp (by omega)]
  rw [← e] at hW2
  exact gq_vret hX hQ dX0_carryOut_218 rfl ⟨rfl, hW2⟩

set_option maxRecDepth 100000 in
set_option maxHeartbeats 4000000 in
theorem cd_4 {E : Ev} {b : Nat → Nat} {K : Kt} {M : Hp} (hb : Lay E 162 b) (hW : Wd E b K M) {nc nt no B : Nat} (hok : Ok (K.2.1 0) nc nt no B) {q : Nat} (hq : q < 60) (hk : K.2.2.1 0 q = nI 4) {p0 p1 : Int32} (h0 : K.2.2.1 1 (2 * q) = p0) (h1 : K.2.2.1 1 (2 * q + 1) = p1) (hF : xF ((K.2.1 0), nc, nt, no) 4 p0 p1 = 0) : Ct E mX0_carryOut [.ref (b 3), .int (nI q), .ref (bS b 0 0)] M (WR E b (none) (kSs K 0 (xD ((K.2.1 0), nc, nt, no) 4 p0 p1).1)) 0 0 := by
  refine Ct.of gmX0_carryOut (ls := [.ref (b 3), .int (nI q), .ref (bS b 0 0), hole, hole]) rfl rfl (Nat.le_of_ble_eq_true rfl) ?_
  intro X hX Q hQ
  obtain ⟨hwf, hn, -, -, -, -, hse, -, -⟩ := id hok
  have hwf2 := hwf
  obtain ⟨hnc, hncl, hnt, hntl, hno, hnol⟩ := hwf2
  refine gq_aload_n hX dX0_carryOut_0 rfl rfl rfl ?_
  refine gq_getf hX dX0_carryOut_1 rfl fX0_22 hW.c3 rfl ?_
  refine gq_iconst (v := nI 2) hX dX0_carryOut_4 rfl (by decide) ?_
  refine gq_iload_n hX dX0_carryOut_5 rfl rfl rfl ?_
  refine gq_imul hX dX0_carryOut_6 rfl ?_
  rw [nI_m]
  refine gq_ialdN hX dX0_carryOut_7 rfl hW.c5 rfl (by omega) (Nat.le_of_ble_eq_true rfl) ?_
  rw [h0]
  refine gq_istore_n hX dX0_carryOut_8 rfl rfl (Nat.le_of_ble_eq_true rfl) rfl ?_
  refine gq_aload_n hX dX0_carryOut_9 rfl rfl rfl ?_
  refine gq_getf hX dX0_carryOut_10 rfl fX0_22 hW.c3 rfl ?_
  refine gq_iconst (v := nI 2) hX dX0_carryOut_13 rfl (by decide) ?_
  refine gq_iload_n hX dX0_carryOut_14 rfl rfl rfl ?_
  refine gq_imul hX dX0_carryOut_15 rfl ?_
  rw [nI_m]
  refine gq_iconst (v := nI 1) hX dX0_carryOut_16 rfl (by decide) ?_
  refine gq_iadd hX dX0_carryOut_17 rfl ?_
  rw [inM]
  refine gq_ialdN hX dX0_carryOut_18 rfl hW.c5 rfl (by omega) (Nat.le_of_ble_eq_true rfl) ?_
  rw [h1]
  refine gq_istore hX dX0_carryOut_19 rfl (Nat.le_of_ble_eq_true rfl) rfl ?_
  refine gq_aload_n hX dX0_carryOut_21 rfl rfl rfl ?_
  refine gq_getf hX dX0_carryOut_22 rfl fX0_18 hW.c3 rfl ?_
  refine gq_iload_n hX dX0_carryOut_25 rfl rfl rfl ?_
  refine gq_ialdN hX dX0_carryOut_26 rfl hW.c4 rfl (by omega) (Nat.le_of_ble_eq_true rfl) ?_
  rw [hk]
  refine gq_tableIn (tgt := 126) (off := 99) hX dX0_carryOut_27 (by decide) (by decide) (by decide +kernel) rfl ?_
  have hlt := (tmoF_0 hwf hF).1
  refine gq_aload_n hX dX0_carryOut_126 rfl rfl rfl ?_
  refine gq_bipush (v := nI 114) hX dX0_carryOut_127 rfl (by decide) ?_
  refine gq_iload_n hX dX0_carryOut_129 rfl rfl rfl ?_
  refine gq_iload hX dX0_carryOut_130 rfl rfl ?_
  refine gq_callVw hX dX0_carryOut_132 rfl vX0_158 (Ct.stwS hb hW (i := 0) (by decide) rfl (ct_enterMotion (hb.bS (i := 0) (by decide)) hwf hlt (kd := nI 114) (by decide))) rfl (hW.s0 (i := 0) (by decide)) rfl rfl (Nat.le_of_ble_eq_true rfl) ⟨(Nat.le_of_ble_eq_true rfl), (Nat.le_of_ble_eq_true rfl)⟩ (Nat.zero_add _) (Nat.zero_add _) ?_
  intro M2 hW2
  refine gq_pop hX dX0_carryOut_135 rfl rfl ?_
  refine gq_goto (tgt := 218) hX dX0_carryOut_136 rfl ?_
  exact gq_vret hX hQ dX0_carryOut_218 rfl ⟨rfl, hW2⟩

set_option maxRecDepth 100000 in
set_option maxHeartbeats 4000000 in
theorem cd_5 {E : Ev} {b : Nat → Nat} {K : Kt} {M : Hp} (hb : Lay E 162 b) (hW : Wd E b K M) {nc nt no B : Nat} (hok : Ok (K.2.1 0) nc nt no B) {q : Nat} (hq : q < 60) (hk : K.2.2.1 0 q = nI 5) {p0 p1 : Int32} (h0 : K.2.2.1 1 (2 * q) = p0) (h1 : K.2.2.1 1 (2 * q + 1) = p1) (hF : xF ((K.2.1 0), nc, nt, no) 5 p0 p1 = 0) : Ct E mX0_carryOut [.ref (b 3), .int (nI q), .ref (bS b 0 0)] M (WR E b (none) (kSs K 0 (xD ((K.2.1 0), nc, nt, no) 5 p0 p1).1)) 0 0 := by
  refine Ct.of gmX0_carryOut (ls := [.ref (b 3), .int (nI q), .ref (bS b 0 0), hole, hole]) rfl rfl (Nat.le_of_ble_eq_true rfl) ?_
  intro X hX Q hQ
  obtain ⟨hwf, hn, -, -, -, -, hse, -, -⟩ := id hok
  have hwf2 := hwf
  obtain ⟨hnc, hncl, hnt, hntl, hno, hnol⟩ := hwf2
  refine gq_aload_n hX dX0_carryOut_0 rfl rfl rfl ?_
  refine gq_getf hX dX0_carryOut_1 rfl fX0_22 hW.c3 rfl ?_
  refine gq_iconst (v := nI 2) hX dX0_carryOut_4 rfl (by decide) ?_
  refine gq_iload_n hX dX0_carryOut_5 rfl rfl rfl ?_
  refine gq_imul hX dX0_carryOut_6 rfl ?_
  rw [nI_m]
  refine gq_ialdN hX dX0_carryOut_7 rfl hW.c5 rfl (by omega) (Nat.le_of_ble_eq_true rfl) ?_
  rw [h0]
  refine gq_istore_n hX dX0_carryOut_8 rfl rfl (Nat.le_of_ble_eq_true rfl) rfl ?_
  refine gq_aload_n hX dX0_carryOut_9 rfl rfl rfl ?_
  refine gq_getf hX dX0_carryOut_10 rfl fX0_22 hW.c3 rfl ?_
  refine gq_iconst (v := nI 2) hX dX0_carryOut_13 rfl (by decide) ?_
  refine gq_iload_n hX dX0_carryOut_14 rfl rfl rfl ?_
  refine gq_imul hX dX0_carryOut_15 rfl ?_
  rw [nI_m]
  refine gq_iconst (v := nI 1) hX dX0_carryOut_16 rfl (by decide) ?_
  refine gq_iadd hX dX0_carryOut_17 rfl ?_
  rw [inM]
  refine gq_ialdN hX dX0_carryOut_18 rfl hW.c5 rfl (by omega) (Nat.le_of_ble_eq_true rfl) ?_
  rw [h1]
  refine gq_istore hX dX0_carryOut_19 rfl (Nat.le_of_ble_eq_true rfl) rfl ?_
  refine gq_aload_n hX dX0_carryOut_21 rfl rfl rfl ?_
  refine gq_getf hX dX0_carryOut_22 rfl fX0_18 hW.c3 rfl ?_
  refine gq_iload_n hX dX0_carryOut_25 rfl rfl rfl ?_
  refine gq_ialdN hX dX0_carryOut_26 rfl hW.c4 rfl (by omega) (Nat.le_of_ble_eq_true rfl) ?_
  rw [hk]
  refine gq_tableIn (tgt := 139) (off := 112) hX dX0_carryOut_27 (by decide) (by decide) (by decide +kernel) rfl ?_
  have hlt := (tmoF_0 hwf hF).1
  refine gq_aload_n hX dX0_carryOut_139 rfl rfl rfl ?_
  refine gq_bipush (v := nI 116) hX dX0_carryOut_140 rfl (by decide) ?_
  refine gq_iload_n hX dX0_carryOut_142 rfl rfl rfl ?_
  refine gq_iload hX dX0_carryOut_143 rfl rfl ?_
  refine gq_callVw hX dX0_carryOut_145 rfl vX0_158 (Ct.stwS hb hW (i := 0) (by decide) rfl (ct_enterMotion (hb.bS (i := 0) (by decide)) hwf hlt (kd := nI 116) (by decide))) rfl (hW.s0 (i := 0) (by decide)) rfl rfl (Nat.le_of_ble_eq_true rfl) ⟨(Nat.le_of_ble_eq_true rfl), (Nat.le_of_ble_eq_true rfl)⟩ (Nat.zero_add _) (Nat.zero_add _) ?_
  intro M2 hW2
  refine gq_pop hX dX0_carryOut_148 rfl rfl ?_
  refine gq_goto (tgt := 218) hX dX0_carryOut_149 rfl ?_
  exact gq_vret hX hQ dX0_carryOut_218 rfl ⟨rfl, hW2⟩

set_option maxRecDepth 100000 in
set_option maxHeartbeats 4000000 in
theorem cd_6 {E : Ev} {b : Nat → Nat} {K : Kt} {M : Hp} (hb : Lay E 162 b) (hW : Wd E b K M) {nc nt no B : Nat} (hok : Ok (K.2.1 0) nc nt no B) {q : Nat} (hq : q < 60) (hk : K.2.2.1 0 q = nI 6) {p0 p1 : Int32} (h0 : K.2.2.1 1 (2 * q) = p0) (h1 : K.2.2.1 1 (2 * q + 1) = p1) (hF : xF ((K.2.1 0), nc, nt, no) 6 p0 p1 = 0) : Ct E mX0_carryOut [.ref (b 3), .int (nI q), .ref (bS b 0 0)] M (WR E b (none) (kSs K 0 (xD ((K.2.1 0), nc, nt, no) 6 p0 p1).1)) 0 0 := by
  refine Ct.of gmX0_carryOut (ls := [.ref (b 3), .int (nI q), .ref (bS b 0 0), hole, hole]) rfl rfl (Nat.le_of_ble_eq_true rfl) ?_
  intro X hX Q hQ
  obtain ⟨hwf, hn, -, -, -, -, hse, -, -⟩ := id hok
  have hwf2 := hwf
  obtain ⟨hnc, hncl, hnt, hntl, hno, hnol⟩ := hwf2
  refine gq_aload_n hX dX0_carryOut_0 rfl rfl rfl ?_
  refine gq_getf hX dX0_carryOut_1 rfl fX0_22 hW.c3 rfl ?_
  refine gq_iconst (v := nI 2) hX dX0_carryOut_4 rfl (by decide) ?_
  refine gq_iload_n hX dX0_carryOut_5 rfl rfl rfl ?_
  refine gq_imul hX dX0_carryOut_6 rfl ?_
  rw [nI_m]
  refine gq_ialdN hX dX0_carryOut_7 rfl hW.c5 rfl (by omega) (Nat.le_of_ble_eq_true rfl) ?_
  rw [h0]
  refine gq_istore_n hX dX0_carryOut_8 rfl rfl (Nat.le_of_ble_eq_true rfl) rfl ?_
  refine gq_aload_n hX dX0_carryOut_9 rfl rfl rfl ?_
  refine gq_getf hX dX0_carryOut_10 rfl fX0_22 hW.c3 rfl ?_
  refine gq_iconst (v := nI 2) hX dX0_carryOut_13 rfl (by decide) ?_
  refine gq_iload_n hX dX0_carryOut_14 rfl rfl rfl ?_
  refine gq_imul hX dX0_carryOut_15 rfl ?_
  rw [nI_m]
  refine gq_iconst (v := nI 1) hX dX0_carryOut_16 rfl (by decide) ?_
  refine gq_iadd hX dX0_carryOut_17 rfl ?_
  rw [inM]
  refine gq_ialdN hX dX0_carryOut_18 rfl hW.c5 rfl (by omega) (Nat.le_of_ble_eq_true rfl) ?_
  rw [h1]
  refine gq_istore hX dX0_carryOut_19 rfl (Nat.le_of_ble_eq_true rfl) rfl ?_
  refine gq_aload_n hX dX0_carryOut_21 rfl rfl rfl ?_
  refine gq_getf hX dX0_carryOut_22 rfl fX0_18 hW.c3 rfl ?_
  refine gq_iload_n hX dX0_carryOut_25 rfl rfl rfl ?_
  refine gq_ialdN hX dX0_carryOut_26 rfl hW.c4 rfl (by omega) (Nat.le_of_ble_eq_true rfl) ?_
  rw [hk]
  refine gq_tableIn (tgt := 152) (off := 125) hX dX0_carryOut_27 (by decide) (by decide) (by decide +kernel) rfl ?_
  have hlt := (gmoF_0 hwf hF).1
  refine gq_aload_n hX dX0_carryOut_152 rfl rfl rfl ?_
  refine gq_bipush (v := nI 103) hX dX0_carryOut_153 rfl (by decide) ?_
  refine gq_iload_n hX dX0_carryOut_155 rfl rfl rfl ?_
  refine gq_iload hX dX0_carryOut_156 rfl rfl ?_
  refine gq_callVw hX dX0_carryOut_158 rfl vX0_158 (Ct.stwS hb hW (i := 0) (by decide) rfl (ct_enterMotion (hb.bS (i := 0) (by decide)) hwf hlt (kd := nI 103) (by decide))) rfl (hW.s0 (i := 0) (by decide)) rfl rfl (Nat.le_of_ble_eq_true rfl) ⟨(Nat.le_of_ble_eq_true rfl), (Nat.le_of_ble_eq_true rfl)⟩ (Nat.zero_add _) (Nat.zero_add _) ?_
  intro M2 hW2
  refine gq_pop hX dX0_carryOut_161 rfl rfl ?_
  refine gq_goto (tgt := 218) hX dX0_carryOut_162 rfl ?_
  exact gq_vret hX hQ dX0_carryOut_218 rfl ⟨rfl, hW2⟩

set_option maxRecDepth 100000 in
set_option maxHeartbeats 4000000 in
theorem cd_7 {E : Ev} {b : Nat → Nat} {K : Kt} {M : Hp} (hb : Lay E 162 b) (hW : Wd E b K M) {nc nt no B : Nat} (hok : Ok (K.2.1 0) nc nt no B) {q : Nat} (hq : q < 60) (hk : K.2.2.1 0 q = nI 7) {p0 p1 : Int32} (h0 : K.2.2.1 1 (2 * q) = p0) (h1 : K.2.2.1 1 (2 * q + 1) = p1) (hF : xF ((K.2.1 0), nc, nt, no) 7 p0 p1 = 0) : Ct E mX0_carryOut [.ref (b 3), .int (nI q), .ref (bS b 0 0)] M (WR E b (none) (kSs K 0 (xD ((K.2.1 0), nc, nt, no) 7 p0 p1).1)) 0 0 := by
  refine Ct.of gmX0_carryOut (ls := [.ref (b 3), .int (nI q), .ref (bS b 0 0), hole, hole]) rfl rfl (Nat.le_of_ble_eq_true rfl) ?_
  intro X hX Q hQ
  obtain ⟨hwf, hn, -, -, -, -, hse, -, -⟩ := id hok
  have hwf2 := hwf
  obtain ⟨hnc, hncl, hnt, hntl, hno, hnol⟩ := hwf2
  refine gq_aload_n hX dX0_carryOut_0 rfl rfl rfl ?_
  refine gq_getf hX dX0_carryOut_1 rfl fX0_22 hW.c3 rfl ?_
  refine gq_iconst (v := nI 2) hX dX0_carryOut_4 rfl (by decide) ?_
  refine gq_iload_n hX dX0_carryOut_5 rfl rfl rfl ?_
  refine gq_imul hX dX0_carryOut_6 rfl ?_
  rw [nI_m]
  refine gq_ialdN hX dX0_carryOut_7 rfl hW.c5 rfl (by omega) (Nat.le_of_ble_eq_true rfl) ?_
  rw [h0]
  refine gq_istore_n hX dX0_carryOut_8 rfl rfl (Nat.le_of_ble_eq_true rfl) rfl ?_
  refine gq_aload_n hX dX0_carryOut_9 rfl rfl rfl ?_
  refine gq_getf hX dX0_carryOut_10 rfl fX0_22 hW.c3 rfl ?_
  refine gq_iconst (v := nI 2) hX dX0_carryOut_13 rfl (by decide) ?_
  refine gq_iload_n hX dX0_carryOut_14 rfl rfl rfl ?_
  refine gq_imul hX dX0_carryOut_15 rfl ?_
  rw [nI_m]
  refine gq_iconst (v := nI 1) hX dX0_carryOut_16 rfl (by decide) ?_
  refine gq_iadd hX dX0_carryOut_17 rfl ?_
  rw [inM]
  refine gq_ialdN hX dX0_carryOut_18 rfl hW.c5 rfl (by omega) (Nat.le_of_ble_eq_true rfl) ?_
  rw [h1]
  refine gq_istore hX dX0_carryOut_19 rfl (Nat.le_of_ble_eq_true rfl) rfl ?_
  refine gq_aload_n hX dX0_carryOut_21 rfl rfl rfl ?_
  refine gq_getf hX dX0_carryOut_22 rfl fX0_18 hW.c3 rfl ?_
  refine gq_iload_n hX dX0_carryOut_25 rfl rfl rfl ?_
  refine gq_ialdN hX dX0_carryOut_26 rfl hW.c4 rfl (by omega) (Nat.le_of_ble_eq_true rfl) ?_
  rw [hk]
  refine gq_tableIn (tgt := 165) (off := 138) hX dX0_carryOut_27 (by decide) (by decide) (by decide +kernel) rfl ?_
  obtain ⟨⟨j, hj, rfl⟩, k, ho⟩ := secF_0 hncl hF
  refine gq_aload_n hX dX0_carryOut_165 rfl rfl rfl ?_
  refine gq_iload_n hX dX0_carryOut_166 rfl rfl rfl ?_
  refine gq_iload hX dX0_carryOut_167 rfl rfl ?_
  refine gq_callVw hX dX0_carryOut_169 rfl vX0_162 (Ct.stwS hb hW (i := 0) (by decide) rfl (ct_setSeconder (hb.bS (i := 0) (by decide)) hwf ho _)) rfl (hW.s0 (i := 0) (by decide)) rfl rfl (Nat.le_of_ble_eq_true rfl) ⟨(Nat.le_of_ble_eq_true rfl), (Nat.le_of_ble_eq_true rfl)⟩ (Nat.zero_add _) (Nat.zero_add _) ?_
  intro M2 hW2
  refine gq_pop hX dX0_carryOut_172 rfl rfl ?_
  refine gq_goto (tgt := 218) hX dX0_carryOut_173 rfl ?_
  have e : (xD ((K.2.1 0), nc, nt, no) 7 (nI j) p1).1 = sedS (K.2.1 0) k (nI j) := by
    show sedS (K.2.1 0) (slK (K.2.1 0) no p1) (nI j) = _
    rw [slK_e ho]
  rw [← e] at hW2
  exact gq_vret hX hQ dX0_carryOut_218 rfl ⟨rfl, hW2⟩

set_option maxRecDepth 100000 in
set_option maxHeartbeats 4000000 in
theorem cd_8 {E : Ev} {b : Nat → Nat} {K : Kt} {M : Hp} (hb : Lay E 162 b) (hW : Wd E b K M) {nc nt no B : Nat} (hok : Ok (K.2.1 0) nc nt no B) {q : Nat} (hq : q < 60) (hk : K.2.2.1 0 q = nI 8) {p0 p1 : Int32} (h0 : K.2.2.1 1 (2 * q) = p0) (h1 : K.2.2.1 1 (2 * q + 1) = p1) (hF : xF ((K.2.1 0), nc, nt, no) 8 p0 p1 = 0) : Ct E mX0_carryOut [.ref (b 3), .int (nI q), .ref (bS b 0 0)] M (WR E b (none) (kSs K 0 (xD ((K.2.1 0), nc, nt, no) 8 p0 p1).1)) 0 0 := by
  refine Ct.of gmX0_carryOut (ls := [.ref (b 3), .int (nI q), .ref (bS b 0 0), hole, hole]) rfl rfl (Nat.le_of_ble_eq_true rfl) ?_
  intro X hX Q hQ
  obtain ⟨hwf, hn, -, -, -, -, hse, -, -⟩ := id hok
  have hwf2 := hwf
  obtain ⟨hnc, hncl, hnt, hntl, hno, hnol⟩ := hwf2
  refine gq_aload_n hX dX0_carryOut_0 rfl rfl rfl ?_
  refine gq_getf hX dX0_carryOut_1 rfl fX0_22 hW.c3 rfl ?_
  refine gq_iconst (v := nI 2) hX dX0_carryOut_4 rfl (by decide) ?_
  refine gq_iload_n hX dX0_carryOut_5 rfl rfl rfl ?_
  refine gq_imul hX dX0_carryOut_6 rfl ?_
  rw [nI_m]
  refine gq_ialdN hX dX0_carryOut_7 rfl hW.c5 rfl (by omega) (Nat.le_of_ble_eq_true rfl) ?_
  rw [h0]
  refine gq_istore_n hX dX0_carryOut_8 rfl rfl (Nat.le_of_ble_eq_true rfl) rfl ?_
  refine gq_aload_n hX dX0_carryOut_9 rfl rfl rfl ?_
  refine gq_getf hX dX0_carryOut_10 rfl fX0_22 hW.c3 rfl ?_
  refine gq_iconst (v := nI 2) hX dX0_carryOut_13 rfl (by decide) ?_
  refine gq_iload_n hX dX0_carryOut_14 rfl rfl rfl ?_
  refine gq_imul hX dX0_carryOut_15 rfl ?_
  rw [nI_m]
  refine gq_iconst (v := nI 1) hX dX0_carryOut_16 rfl (by decide) ?_
  refine gq_iadd hX dX0_carryOut_17 rfl ?_
  rw [inM]
  refine gq_ialdN hX dX0_carryOut_18 rfl hW.c5 rfl (by omega) (Nat.le_of_ble_eq_true rfl) ?_
  rw [h1]
  refine gq_istore hX dX0_carryOut_19 rfl (Nat.le_of_ble_eq_true rfl) rfl ?_
  refine gq_aload_n hX dX0_carryOut_21 rfl rfl rfl ?_
  refine gq_getf hX dX0_carryOut_22 rfl fX0_18 hW.c3 rfl ?_
  refine gq_iload_n hX dX0_carryOut_25 rfl rfl rfl ?_
  refine gq_ialdN hX dX0_carryOut_26 rfl hW.c4 rfl (by omega) (Nat.le_of_ble_eq_true rfl) ?_
  rw [hk]
  refine gq_tableIn (tgt := 176) (off := 149) hX dX0_carryOut_27 (by decide) (by decide) (by decide +kernel) rfl ?_
  obtain ⟨k, ho⟩ := untF_0 hF
  obtain ⟨a, o, hk, ha, hmv, e2, ho2, e4⟩ := OkS.mot (σ := ((K.2.1 0), nc, nt, no)) hok ho
  refine gq_aload_n hX dX0_carryOut_176 rfl rfl rfl ?_
  refine gq_iload_n hX dX0_carryOut_177 rfl rfl rfl ?_
  refine gq_callVw hX dX0_carryOut_178 rfl vX0_165 (Ct.stwS hb hW (i := 0) (by decide) rfl (ct_takeFromTable (hb.bS (i := 0) (by decide)) hwf ho hmv ha)) rfl (hW.s0 (i := 0) (by decide)) rfl rfl (Nat.le_of_ble_eq_true rfl) ⟨(Nat.le_of_ble_eq_true rfl), (Nat.le_of_ble_eq_true rfl)⟩ (Nat.zero_add _) (Nat.zero_add _) ?_
  intro M2 hW2
  refine gq_pop hX dX0_carryOut_181 rfl rfl ?_
  refine gq_goto (tgt := 218) hX dX0_carryOut_182 rfl ?_
  have e : (xD ((K.2.1 0), nc, nt, no) 8 p0 p1).1 = untS (K.2.1 0) k a := by
    show untS (K.2.1 0) (slK (K.2.1 0) no p0) ((K.2.1 0).2 9 (slK (K.2.1 0) no p0)).toNatClampNeg = _
    rw [slK_e ho, e2]
  rw [← e] at hW2
  exact gq_vret hX hQ dX0_carryOut_218 rfl ⟨rfl, hW2⟩

set_option maxRecDepth 100000 in
set_option maxHeartbeats 4000000 in
theorem cd_9 {E : Ev} {b : Nat → Nat} {K : Kt} {M : Hp} (hb : Lay E 162 b) (hW : Wd E b K M) {nc nt no B : Nat} (hok : Ok (K.2.1 0) nc nt no B) {q : Nat} (hq : q < 60) (hk : K.2.2.1 0 q = nI 9) {p0 p1 : Int32} (h0 : K.2.2.1 1 (2 * q) = p0) (h1 : K.2.2.1 1 (2 * q + 1) = p1) (hF : xF ((K.2.1 0), nc, nt, no) 9 p0 p1 = 0) : Ct E mX0_carryOut [.ref (b 3), .int (nI q), .ref (bS b 0 0)] M (WR E b (none) (kSs K 0 (xD ((K.2.1 0), nc, nt, no) 9 p0 p1).1)) 0 0 := by
  refine Ct.of gmX0_carryOut (ls := [.ref (b 3), .int (nI q), .ref (bS b 0 0), hole, hole]) rfl rfl (Nat.le_of_ble_eq_true rfl) ?_
  intro X hX Q hQ
  obtain ⟨hwf, hn, -, -, -, -, hse, -, -⟩ := id hok
  have hwf2 := hwf
  obtain ⟨hnc, hncl, hnt, hntl, hno, hnol⟩ := hwf2
  refine gq_aload_n hX dX0_carryOut_0 rfl rfl rfl ?_
  refine gq_getf hX dX0_carryOut_1 rfl fX0_22 hW.c3 rfl ?_
  refine gq_iconst (v := nI 2) hX dX0_carryOut_4 rfl (by decide) ?_
  refine gq_iload_n hX dX0_carryOut_5 rfl rfl rfl ?_
  refine gq_imul hX dX0_carryOut_6 rfl ?_
  rw [nI_m]
  refine gq_ialdN hX dX0_carryOut_7 rfl hW.c5 rfl (by omega) (Nat.le_of_ble_eq_true rfl) ?_
  rw [h0]
  refine gq_istore_n hX dX0_carryOut_8 rfl rfl (Nat.le_of_ble_eq_true rfl) rfl ?_
  refine gq_aload_n hX dX0_carryOut_9 rfl rfl rfl ?_
  refine gq_getf hX dX0_carryOut_10 rfl fX0_22 hW.c3 rfl ?_
  refine gq_iconst (v := nI 2) hX dX0_carryOut_13 rfl (by decide) ?_
  refine gq_iload_n hX dX0_carryOut_14 rfl rfl rfl ?_
  refine gq_imul hX dX0_carryOut_15 rfl ?_
  rw [nI_m]
  refine gq_iconst (v := nI 1) hX dX0_carryOut_16 rfl (by decide) ?_
  refine gq_iadd hX dX0_carryOut_17 rfl ?_
  rw [inM]
  refine gq_ialdN hX dX0_carryOut_18 rfl hW.c5 rfl (by omega) (Nat.le_of_ble_eq_true rfl) ?_
  rw [h1]
  refine gq_istore hX dX0_carryOut_19 rfl (Nat.le_of_ble_eq_true rfl) rfl ?_
  refine gq_aload_n hX dX0_carryOut_21 rfl rfl rfl ?_
  refine gq_getf hX dX0_carryOut_22 rfl fX0_18 hW.c3 rfl ?_
  refine gq_iload_n hX dX0_carryOut_25 rfl rfl rfl ?_
  refine gq_ialdN hX dX0_carryOut_26 rfl hW.c4 rfl (by omega) (Nat.le_of_ble_eq_true rfl) ?_
  rw [hk]
  refine gq_tableIn (tgt := 185) (off := 158) hX dX0_carryOut_27 (by decide) (by decide) (by decide +kernel) rfl ?_
  obtain ⟨k, ho⟩ := witF_0 hF
  refine gq_aload_n hX dX0_carryOut_185 rfl rfl rfl ?_
  refine gq_iload_n hX dX0_carryOut_186 rfl rfl rfl ?_
  refine gq_callVw hX dX0_carryOut_187 rfl vX0_168 (Ct.stwS hb hW (i := 0) (by decide) rfl (ct_dropMotion (hb.bS (i := 0) (by decide)) hwf ho hn)) rfl (hW.s0 (i := 0) (by decide)) rfl rfl (Nat.le_of_ble_eq_true rfl) ⟨(Nat.le_of_ble_eq_true rfl), (Nat.le_of_ble_eq_true rfl)⟩ (Nat.zero_add _) (Nat.zero_add _) ?_
  intro M2 hW2
  refine gq_pop hX dX0_carryOut_190 rfl rfl ?_
  refine gq_goto (tgt := 218) hX dX0_carryOut_191 rfl ?_
  have e : (xD ((K.2.1 0), nc, nt, no) 9 p0 p1).1 = cloS (K.2.1 0) no k := by
    show cloS (K.2.1 0) no (slK (K.2.1 0) no p0) = _
    rw [slK_e ho]
  rw [← e] at hW2
  exact gq_vret hX hQ dX0_carryOut_218 rfl ⟨rfl, hW2⟩

set_option maxRecDepth 100000 in
set_option maxHeartbeats 4000000 in
theorem cd_10 {E : Ev} {b : Nat → Nat} {K : Kt} {M : Hp} (hb : Lay E 162 b) (hW : Wd E b K M) {nc nt no B : Nat} (hok : Ok (K.2.1 0) nc nt no B) {q : Nat} (hq : q < 60) (hk : K.2.2.1 0 q = nI 10) {p0 p1 : Int32} (h0 : K.2.2.1 1 (2 * q) = p0) (h1 : K.2.2.1 1 (2 * q + 1) = p1) (hF : xF ((K.2.1 0), nc, nt, no) 10 p0 p1 = 0) : Ct E mX0_carryOut [.ref (b 3), .int (nI q), .ref (bS b 0 0)] M (WR E b (none) (kSs K 0 (xD ((K.2.1 0), nc, nt, no) 10 p0 p1).1)) 0 0 := by
  refine Ct.of gmX0_carryOut (ls := [.ref (b 3), .int (nI q), .ref (bS b 0 0), hole, hole]) rfl rfl (Nat.le_of_ble_eq_true rfl) ?_
  intro X hX Q hQ
  obtain ⟨hwf, hn, -, -, -, -, hse, -, -⟩ := id hok
  have hwf2 := hwf
  obtain ⟨hnc, hncl, hnt, hntl, hno, hnol⟩ := hwf2
  refine gq_aload_n hX dX0_carryOut_0 rfl rfl rfl ?_
  refine gq_getf hX dX0_carryOut_1 rfl fX0_22 hW.c3 rfl ?_
  refine gq_iconst (v := nI 2) hX dX0_carryOut_4 rfl (by decide) ?_
  refine gq_iload_n hX dX0_carryOut_5 rfl rfl rfl ?_
  refine gq_imul hX dX0_carryOut_6 rfl ?_
  rw [nI_m]
  refine gq_ialdN hX dX0_carryOut_7 rfl hW.c5 rfl (by omega) (Nat.le_of_ble_eq_true rfl) ?_
  rw [h0]
  refine gq_istore_n hX dX0_carryOut_8 rfl rfl (Nat.le_of_ble_eq_true rfl) rfl ?_
  refine gq_aload_n hX dX0_carryOut_9 rfl rfl rfl ?_
  refine gq_getf hX dX0_carryOut_10 rfl fX0_22 hW.c3 rfl ?_
  refine gq_iconst (v := nI 2) hX dX0_carryOut_13 rfl (by decide) ?_
  refine gq_iload_n hX dX0_carryOut_14 rfl rfl rfl ?_
  refine gq_imul hX dX0_carryOut_15 rfl ?_
  rw [nI_m]
  refine gq_iconst (v := nI 1) hX dX0_carryOut_16 rfl (by decide) ?_
  refine gq_iadd hX dX0_carryOut_17 rfl ?_
  rw [inM]
  refine gq_ialdN hX dX0_carryOut_18 rfl hW.c5 rfl (by omega) (Nat.le_of_ble_eq_true rfl) ?_
  rw [h1]
  refine gq_istore hX dX0_carryOut_19 rfl (Nat.le_of_ble_eq_true rfl) rfl ?_
  refine gq_aload_n hX dX0_carryOut_21 rfl rfl rfl ?_
  refine gq_getf hX dX0_carryOut_22 rfl fX0_18 hW.c3 rfl ?_
  refine gq_iload_n hX dX0_carryOut_25 rfl rfl rfl ?_
  refine gq_ialdN hX dX0_carryOut_26 rfl hW.c4 rfl (by omega) (Nat.le_of_ble_eq_true rfl) ?_
  rw [hk]
  refine gq_tableIn (tgt := 194) (off := 167) hX dX0_carryOut_27 (by decide) (by decide) (by decide +kernel) rfl ?_
  obtain ⟨k, ho⟩ := votF_0 hF
  obtain ⟨a, o, hk, ha, hmv, e2, ho2, e4⟩ := OkS.mot (σ := ((K.2.1 0), nc, nt, no)) hok ho
  refine gq_aload_n hX dX0_carryOut_194 rfl rfl rfl ?_
  refine gq_iload_n hX dX0_carryOut_195 rfl rfl rfl ?_
  refine gq_callVw hX dX0_carryOut_196 rfl vX0_171 (Ct.stwS hb hW (i := 0) (by decide) rfl (ct_holdVote (hb.bS (i := 0) (by decide)) hwf hn ho hmv ha ho2)) rfl (hW.s0 (i := 0) (by decide)) rfl rfl (Nat.le_of_ble_eq_true rfl) ⟨(Nat.le_of_ble_eq_true rfl), (Nat.le_of_ble_eq_true rfl)⟩ (Nat.zero_add _) (Nat.zero_add _) ?_
  intro M2 hW2
  refine gq_pop hX dX0_carryOut_199 rfl rfl ?_
  refine gq_goto (tgt := 218) hX dX0_carryOut_200 rfl ?_
  have e : (xD ((K.2.1 0), nc, nt, no) 10 p0 p1).1 = votS (K.2.1 0) nc nt no k a o := by
    show votS (K.2.1 0) nc nt no (slK (K.2.1 0) no p0) ((K.2.1 0).2 9 (slK (K.2.1 0) no p0)).toNatClampNeg ((K.2.1 0).2 10 (slK (K.2.1 0) no p0)).toNatClampNeg = _
    rw [slK_e ho, e2, e4]
  rw [← e] at hW2
  exact gq_vret hX hQ dX0_carryOut_218 rfl ⟨rfl, hW2⟩

set_option maxRecDepth 100000 in
set_option maxHeartbeats 4000000 in
theorem cd_11 {E : Ev} {b : Nat → Nat} {K : Kt} {M : Hp} (hb : Lay E 162 b) (hW : Wd E b K M) {nc nt no B : Nat} (hok : Ok (K.2.1 0) nc nt no B) {q : Nat} (hq : q < 60) (hk : K.2.2.1 0 q = nI 11) {p0 p1 : Int32} (h0 : K.2.2.1 1 (2 * q) = p0) (h1 : K.2.2.1 1 (2 * q + 1) = p1) (hF : xF ((K.2.1 0), nc, nt, no) 11 p0 p1 = 0) : Ct E mX0_carryOut [.ref (b 3), .int (nI q), .ref (bS b 0 0)] M (WR E b (none) (kSs K 0 (xD ((K.2.1 0), nc, nt, no) 11 p0 p1).1)) 0 0 := by
  refine Ct.of gmX0_carryOut (ls := [.ref (b 3), .int (nI q), .ref (bS b 0 0), hole, hole]) rfl rfl (Nat.le_of_ble_eq_true rfl) ?_
  intro X hX Q hQ
  obtain ⟨hwf, hn, -, -, -, -, hse, -, -⟩ := id hok
  have hwf2 := hwf
  obtain ⟨hnc, hncl, hnt, hntl, hno, hnol⟩ := hwf2
  refine gq_aload_n hX dX0_carryOut_0 rfl rfl rfl ?_
  refine gq_getf hX dX0_carryOut_1 rfl fX0_22 hW.c3 rfl ?_
  refine gq_iconst (v := nI 2) hX dX0_carryOut_4 rfl (by decide) ?_
  refine gq_iload_n hX dX0_carryOut_5 rfl rfl rfl ?_
  refine gq_imul hX dX0_carryOut_6 rfl ?_
  rw [nI_m]
  refine gq_ialdN hX dX0_carryOut_7 rfl hW.c5 rfl (by omega) (Nat.le_of_ble_eq_true rfl) ?_
  rw [h0]
  refine gq_istore_n hX dX0_carryOut_8 rfl rfl (Nat.le_of_ble_eq_true rfl) rfl ?_
  refine gq_aload_n hX dX0_carryOut_9 rfl rfl rfl ?_
  refine gq_getf hX dX0_carryOut_10 rfl fX0_22 hW.c3 rfl ?_
  refine gq_iconst (v := nI 2) hX dX0_carryOut_13 rfl (by decide) ?_
  refine gq_iload_n hX dX0_carryOut_14 rfl rfl rfl ?_
  refine gq_imul hX dX0_carryOut_15 rfl ?_
  rw [nI_m]
  refine gq_iconst (v := nI 1) hX dX0_carryOut_16 rfl (by decide) ?_
  refine gq_iadd hX dX0_carryOut_17 rfl ?_
  rw [inM]
  refine gq_ialdN hX dX0_carryOut_18 rfl hW.c5 rfl (by omega) (Nat.le_of_ble_eq_true rfl) ?_
  rw [h1]
  refine gq_istore hX dX0_carryOut_19 rfl (Nat.le_of_ble_eq_true rfl) rfl ?_
  refine gq_aload_n hX dX0_carryOut_21 rfl rfl rfl ?_
  refine gq_getf hX dX0_carryOut_22 rfl fX0_18 hW.c3 rfl ?_
  refine gq_iload_n hX dX0_carryOut_25 rfl rfl rfl ?_
  refine gq_ialdN hX dX0_carryOut_26 rfl hW.c4 rfl (by omega) (Nat.le_of_ble_eq_true rfl) ?_
  rw [hk]
  refine gq_tableIn (tgt := 203) (off := 176) hX dX0_carryOut_27 (by decide) (by decide) (by decide +kernel) rfl ?_
  skip
  refine gq_aload_n hX dX0_carryOut_203 rfl rfl rfl ?_
  refine gq_iload_n hX dX0_carryOut_204 rfl rfl rfl ?_
  refine gq_callVw hX dX0_carryOut_205 rfl vX0_175 (Ct.stwS hb hW (i := 0) (by decide) rfl (ct_blowGust (hb.bS (i := 0) (by decide)) hwf hok.hmo _)) rfl (hW.s0 (i := 0) (by decide)) rfl rfl (Nat.le_of_ble_eq_true rfl) ⟨(Nat.le_of_ble_eq_true rfl), (Nat.le_of_ble_eq_true rfl)⟩ (Nat.zero_add _) (Nat.zero_add _) ?_
  intro M2 hW2
  refine gq_pop hX dX0_carryOut_208 rfl rfl ?_
  refine gq_goto (tgt := 218) hX dX0_carryOut_209 rfl ?_
  exact gq_vret hX hQ dX0_carryOut_218 rfl ⟨rfl, hW2⟩

set_option maxRecDepth 100000 in
set_option maxHeartbeats 4000000 in
theorem cd_12 {E : Ev} {b : Nat → Nat} {K : Kt} {M : Hp} (hb : Lay E 162 b) (hW : Wd E b K M) {nc nt no B : Nat} (hok : Ok (K.2.1 0) nc nt no B) {q : Nat} (hq : q < 60) (hk : K.2.2.1 0 q = nI 12) {p0 p1 : Int32} (h0 : K.2.2.1 1 (2 * q) = p0) (h1 : K.2.2.1 1 (2 * q + 1) = p1) (hF : xF ((K.2.1 0), nc, nt, no) 12 p0 p1 = 0) : Ct E mX0_carryOut [.ref (b 3), .int (nI q), .ref (bS b 0 0)] M (WR E b (none) (kSs K 0 (xD ((K.2.1 0), nc, nt, no) 12 p0 p1).1)) 0 0 := by
  refine Ct.of gmX0_carryOut (ls := [.ref (b 3), .int (nI q), .ref (bS b 0 0), hole, hole]) rfl rfl (Nat.le_of_ble_eq_true rfl) ?_
  intro X hX Q hQ
  obtain ⟨hwf, hn, -, -, -, -, hse, -, -⟩ := id hok
  have hwf2 := hwf
  obtain ⟨hnc, hncl, hnt, hntl, hno, hnol⟩ := hwf2
  refine gq_aload_n hX dX0_carryOut_0 rfl rfl rfl ?_
  refine gq_getf hX dX0_carryOut_1 rfl fX0_22 hW.c3 rfl ?_
  refine gq_iconst (v := nI 2) hX dX0_carryOut_4 rfl (by decide) ?_
  refine gq_iload_n hX dX0_carryOut_5 rfl rfl rfl ?_
  refine gq_imul hX dX0_carryOut_6 rfl ?_
  rw [nI_m]
  refine gq_ialdN hX dX0_carryOut_7 rfl hW.c5 rfl (by omega) (Nat.le_of_ble_eq_true rfl) ?_
  rw [h0]
  refine gq_istore_n hX dX0_carryOut_8 rfl rfl (Nat.le_of_ble_eq_true rfl) rfl ?_
  refine gq_aload_n hX dX0_carryOut_9 rfl rfl rfl ?_
  refine gq_getf hX dX0_carryOut_10 rfl fX0_22 hW.c3 rfl ?_
  refine gq_iconst (v := nI 2) hX dX0_carryOut_13 rfl (by decide) ?_
  refine gq_iload_n hX dX0_carryOut_14 rfl rfl rfl ?_
  refine gq_imul hX dX0_carryOut_15 rfl ?_
  rw [nI_m]
  refine gq_iconst (v := nI 1) hX dX0_carryOut_16 rfl (by decide) ?_
  refine gq_iadd hX dX0_carryOut_17 rfl ?_
  rw [inM]
  refine gq_ialdN hX dX0_carryOut_18 rfl hW.c5 rfl (by omega) (Nat.le_of_ble_eq_true rfl) ?_
  rw [h1]
  refine gq_istore hX dX0_carryOut_19 rfl (Nat.le_of_ble_eq_true rfl) rfl ?_
  refine gq_aload_n hX dX0_carryOut_21 rfl rfl rfl ?_
  refine gq_getf hX dX0_carryOut_22 rfl fX0_18 hW.c3 rfl ?_
  refine gq_iload_n hX dX0_carryOut_25 rfl rfl rfl ?_
  refine gq_ialdN hX dX0_carryOut_26 rfl hW.c4 rfl (by omega) (Nat.le_of_ble_eq_true rfl) ?_
  rw [hk]
  refine gq_tableOut (tgt := 212) hX dX0_carryOut_27 (by decide) rfl ?_
  obtain ⟨x, hx1, hx, rfl⟩ := pasF_0 hF
  refine gq_aload_n hX dX0_carryOut_212 rfl rfl rfl ?_
  refine gq_iload_n hX dX0_carryOut_213 rfl rfl rfl ?_
  refine gq_callVw hX dX0_carryOut_214 rfl vX0_178 (Ct.stwS hb hW (i := 0) (by decide) rfl (ct_passHours (hb.bS (i := 0) (by decide)) hwf (h := x) (by omega))) rfl (hW.s0 (i := 0) (by decide)) rfl rfl (Nat.le_of_ble_eq_true rfl) ⟨(Nat.le_of_ble_eq_true rfl), (Nat.le_of_ble_eq_true rfl)⟩ (Nat.zero_add _) (Nat.zero_add _) ?_
  intro M2 hW2
  refine gq_pop hX dX0_carryOut_217 rfl rfl ?_
  have e : (xD ((K.2.1 0), nc, nt, no) 12 (nI x) p1).1 = (pasS (K.2.1 0) nt nc x).1 := by
    show (pasS (K.2.1 0) nt nc (nI x).toNatClampNeg).1 = _
    rw [nI_clamp (by omega)]
  rw [← e] at hW2
  exact gq_vret hX hQ dX0_carryOut_218 rfl ⟨rfl, hW2⟩

theorem cd_all {E : Ev} {b : Nat → Nat} {K : Kt} {M : Hp} (hb : Lay E 162 b) (hW : Wd E b K M) {nc nt no B : Nat} (hok : Ok (K.2.1 0) nc nt no B) {q : Nat} (hq : q < 60) {kind : Nat} (h13 : kind < 13) (hk : K.2.2.1 0 q = nI kind) {p0 p1 : Int32} (h0 : K.2.2.1 1 (2 * q) = p0) (h1 : K.2.2.1 1 (2 * q + 1) = p1) (hF : xF ((K.2.1 0), nc, nt, no) kind p0 p1 = 0) : Ct E mX0_carryOut [.ref (b 3), .int (nI q), .ref (bS b 0 0)] M (WR E b none (kSs K 0 (xD ((K.2.1 0), nc, nt, no) kind p0 p1).1)) 0 0 := by
  match kind, h13, hk, hF with
  | 0, _, hk, hF => exact cd_0 hb hW hok hq hk h0 h1 hF
  | 1, _, hk, hF => exact cd_1 hb hW hok hq hk h0 h1 hF
  | 2, _, hk, hF => exact cd_2 hb hW hok hq hk h0 h1 hF
  | 3, _, hk, hF => exact cd_3 hb hW hok hq hk h0 h1 hF
  | 4, _, hk, hF => exact cd_4 hb hW hok hq hk h0 h1 hF
  | 5, _, hk, hF => exact cd_5 hb hW hok hq hk h0 h1 hF
  | 6, _, hk, hF => exact cd_6 hb hW hok hq hk h0 h1 hF
  | 7, _, hk, hF => exact cd_7 hb hW hok hq hk h0 h1 hF
  | 8, _, hk, hF => exact cd_8 hb hW hok hq hk h0 h1 hF
  | 9, _, hk, hF => exact cd_9 hb hW hok hq hk h0 h1 hF
  | 10, _, hk, hF => exact cd_10 hb hW hok hq hk h0 h1 hF
  | 11, _, hk, hF => exact cd_11 hb hW hok hq hk h0 h1 hF
  | 12, _, hk, hF => exact cd_12 hb hW hok hq hk h0 h1 hF
  | n + 13, h, _, _ => exact absurd h (by omega)

