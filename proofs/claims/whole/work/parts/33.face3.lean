section
variable {E : Ev} {b : Nat → Nat} {K : Kt} {M : Hp}
theorem kTx_2 {i : Nat} {l l2 : Ln} : kTx (kTx K i l) i l2 = kTx K i l2 := by
  show (K.1, K.2.1, K.2.2.1, (fun j => if j = i then l2 else if j = i then l else K.2.2.2.1 j), K.2.2.2.2) = (K.1, K.2.1, K.2.2.1, (fun j => if j = i then l2 else K.2.2.2.1 j), K.2.2.2.2)
  have e : (fun j => if j = i then l2 else if j = i then l else K.2.2.2.1 j) = (fun j => if j = i then l2 else K.2.2.2.1 j) := by
    funext j
    by_cases h : j = i
    · rw [if_pos h, if_pos h]
    · rw [if_neg h, if_neg h, if_neg h]
  rw [e]
theorem kSs_2 {i : Nat} {S S2 : St} : kSs (kSs K i S) i S2 = kSs K i S2 := by
  show (K.1, (fun j => if j = i then S2 else if j = i then S else K.2.1 j), K.2.2) = (K.1, (fun j => if j = i then S2 else K.2.1 j), K.2.2)
  have e : (fun j => if j = i then S2 else if j = i then S else K.2.1 j) = (fun j => if j = i then S2 else K.2.1 j) := by
    funext j
    by_cases h : j = i
    · rw [if_pos h, if_pos h]
    · rw [if_neg h, if_neg h, if_neg h]
  rw [e]
theorem kSs_id {i : Nat} : kSs K i (K.2.1 i) = K := by
  have e : (fun j => if j = i then K.2.1 i else K.2.1 j) = K.2.1 := by
    funext j
    split
    · rename_i h
      rw [h]
    · rfl
  show (K.1, (fun j => if j = i then K.2.1 i else K.2.1 j), K.2.2) = K
  rw [e]
theorem Wd.sb0 (hb : Lay E 162 b) (hW : Wd E b K M) : ∃ v m, SbP E (b 149) (K.2.2.2.1 0).1 (K.2.2.2.1 0).2 v m M ∧ ∀ (l : Ln) M1, SbN E (b 149) v l.1 l.2 M M1 → Wd E b (kTx K 0 l) M1 := by
  obtain ⟨v1, m1, v2, m2, s1, s2, hv, hk⟩ := hW.2
  exact ⟨v1, m1, s1, fun l M1 h => hW.tx0 hb s1 s2 hv hk h⟩
theorem Wd.sb1 (hb : Lay E 162 b) (hW : Wd E b K M) : ∃ v m, SbP E (b 150) (K.2.2.2.1 1).1 (K.2.2.2.1 1).2 v m M ∧ ∀ (l : Ln) M1, SbN E (b 150) v l.1 l.2 M M1 → Wd E b (kTx K 1 l) M1 := by
  obtain ⟨v1, m1, v2, m2, s1, s2, hv, hk⟩ := hW.2
  exact ⟨v2, m2, s2, fun l M1 h => hW.tx1 hb s1 s2 hv hk h⟩
theorem SbN.zero {a v : Nat} {t t2 : Nat → Nat} {M1 : Hp} (h : SbN E a v t 0 M M1) : SbN E a v t2 0 M M1 := by
  obtain ⟨v', m', ⟨h1, ⟨f, hf1, hf2, hf3⟩, h4⟩, h5⟩ := h
  exact ⟨v', m', ⟨h1, ⟨f, hf1, hf2, fun i hi => absurd hi (Nat.not_lt_zero i)⟩, h4⟩, h5⟩
theorem Wd.o0 (hb : Lay E 162 b) (hW : Wd E b K M) : ∃ fs, M (b 149) = some (.inr (1, fs)) := by
  obtain ⟨v, m, ⟨⟨z, h⟩, -⟩, -⟩ := hW.sb0 hb
  exact ⟨_, h⟩
theorem st_appC (hb : Lay E 162 b) (hW : Wd E b K M) {l : Ln} (hl : K.2.2.2.1 0 = l) {c : Nat} (hc : c < 128) (hn : l.2 + 1 ≤ 71) : Ct E mJ4_append_cf468 [.ref (b 149), .int (nI c)] M (WR E b (some (.ref (b 149))) (kTx K 0 (lnA l c))) 1 142 := by
  subst hl
  obtain ⟨v, m, h, g⟩ := hW.sb0 hb
  exact (ct_appC h hc hn).imp (by rintro r M1 ⟨rfl, hs⟩; exact ⟨rfl, g (lnA (K.2.2.2.1 0) c) M1 hs⟩)
theorem st_appI (hb : Lay E 162 b) (hW : Wd E b K M) {l : Ln} (hl : K.2.2.2.1 0 = l) {w : Nat} (hw : w < 100000000) (hn : l.2 + sb_dg w ≤ 71) : Ct E mJ4_append_bf812 [.ref (b 149), .int (nI w)] M (WR E b (some (.ref (b 149))) (kTx K 0 (lnN l w))) 1 142 := by
  subst hl
  obtain ⟨v, m, h, g⟩ := hW.sb0 hb
  exact (ct_appI h hw hn).imp (by rintro r M1 ⟨rfl, hs⟩; exact ⟨rfl, g (lnN (K.2.2.2.1 0) w) M1 hs⟩)
theorem st_set0 (hb : Lay E 162 b) (hW : Wd E b K M) : Ct E mJ4_setLength_d00df [.ref (b 149), .int (nI 0)] M (WR E b none (kTx K 0 lnz)) 1 142 := by
  obtain ⟨v, m, h, g⟩ := hW.sb0 hb
  exact (ct_setLen h).imp (by rintro r M1 ⟨rfl, hs⟩; exact ⟨rfl, g lnz M1 hs.zero⟩)
theorem st_len (hb : Lay E 162 b) (hW : Wd E b K M) : Ct E mJ4_length_8abf5 [.ref (b 149)] M (eqR (some (.int (nI (K.2.2.2.1 0).2))) M) 0 0 := by
  obtain ⟨v, m, h, g⟩ := hW.sb0 hb
  exact ct_sbLen h
theorem st_charAt (hb : Lay E 162 b) (hW : Wd E b K M) {j : Nat} (hj : j < (K.2.2.2.1 0).2) : Ct E mJ4_charAt_5068e [.ref (b 149), .int (nI j)] M (eqR (some (.int (nI ((K.2.2.2.1 0).1 j)))) M) 0 0 := by
  obtain ⟨v, m, h, g⟩ := hW.sb0 hb
  exact ct_charAt h hj
theorem st_lt (hb : Lay E 162 b) (hW : Wd E b K M) {j : Nat} (hj : j < (K.2.2.2.1 0).2) : (K.2.2.2.1 0).1 j < 128 := by
  obtain ⟨v, m, ⟨-, ⟨f, -, -, h⟩, -⟩, -⟩ := hW.sb0 hb
  exact (h j hj).2
theorem Wd.o1 (hb : Lay E 162 b) (hW : Wd E b K M) : ∃ fs, M (b 150) = some (.inr (1, fs)) := by
  obtain ⟨v, m, ⟨⟨z, h⟩, -⟩, -⟩ := hW.sb1 hb
  exact ⟨_, h⟩
theorem sl_appC (hb : Lay E 162 b) (hW : Wd E b K M) {l : Ln} (hl : K.2.2.2.1 1 = l) {c : Nat} (hc : c < 128) (hn : l.2 + 1 ≤ 71) : Ct E mJ4_append_cf468 [.ref (b 150), .int (nI c)] M (WR E b (some (.ref (b 150))) (kTx K 1 (lnA l c))) 1 142 := by
  subst hl
  obtain ⟨v, m, h, g⟩ := hW.sb1 hb
  exact (ct_appC h hc hn).imp (by rintro r M1 ⟨rfl, hs⟩; exact ⟨rfl, g (lnA (K.2.2.2.1 1) c) M1 hs⟩)
theorem sl_appI (hb : Lay E 162 b) (hW : Wd E b K M) {l : Ln} (hl : K.2.2.2.1 1 = l) {w : Nat} (hw : w < 100000000) (hn : l.2 + sb_dg w ≤ 71) : Ct E mJ4_append_bf812 [.ref (b 150), .int (nI w)] M (WR E b (some (.ref (b 150))) (kTx K 1 (lnN l w))) 1 142 := by
  subst hl
  obtain ⟨v, m, h, g⟩ := hW.sb1 hb
  exact (ct_appI h hw hn).imp (by rintro r M1 ⟨rfl, hs⟩; exact ⟨rfl, g (lnN (K.2.2.2.1 1) w) M1 hs⟩)
theorem sl_set0 (hb : Lay E 162 b) (hW : Wd E b K M) : Ct E mJ4_setLength_d00df [.ref (b 150), .int (nI 0)] M (WR E b none (kTx K 1 lnz)) 1 142 := by
  obtain ⟨v, m, h, g⟩ := hW.sb1 hb
  exact (ct_setLen h).imp (by rintro r M1 ⟨rfl, hs⟩; exact ⟨rfl, g lnz M1 hs.zero⟩)
theorem sl_len (hb : Lay E 162 b) (hW : Wd E b K M) : Ct E mJ4_length_8abf5 [.ref (b 150)] M (eqR (some (.int (nI (K.2.2.2.1 1).2))) M) 0 0 := by
  obtain ⟨v, m, h, g⟩ := hW.sb1 hb
  exact ct_sbLen h
theorem sl_charAt (hb : Lay E 162 b) (hW : Wd E b K M) {j : Nat} (hj : j < (K.2.2.2.1 1).2) : Ct E mJ4_charAt_5068e [.ref (b 150), .int (nI j)] M (eqR (some (.int (nI ((K.2.2.2.1 1).1 j)))) M) 0 0 := by
  obtain ⟨v, m, h, g⟩ := hW.sb1 hb
  exact ct_charAt h hj
theorem sl_lt (hb : Lay E 162 b) (hW : Wd E b K M) {j : Nat} (hj : j < (K.2.2.2.1 1).2) : (K.2.2.2.1 1).1 j < 128 := by
  obtain ⟨v, m, ⟨-, ⟨f, -, -, h⟩, -⟩, -⟩ := hW.sb1 hb
  exact (h j hj).2
end
theorem gq_bud {E : Ev} {X : Cx0} {μ : Mth} {Q : State → Prop} {pc : Nat} {ls st : List Value} {M : Hp} {nc ns nc1 ns1 : Nat} (h1 : nc1 ≤ nc) (h2 : ns1 ≤ ns) (k : Gq E X μ Q pc ls st M nc1 ns1) : Gq E X μ Q pc ls st M nc ns := fun H locs cells slots lsR hR hS hL g1 g2 => k H locs cells slots lsR hR hS hL (by omega) (by omega)
set_option maxRecDepth 100000 in
set_option maxHeartbeats 4000000 in
theorem cr_desC_ok {E : Ev} {b : Nat → Nat} {K : Kt} {M : Hp} (hb : Lay E 162 b) (hW : Wd E b K M) {nc nt no : Nat} (hwf : Wf (K.2.1 0) nc nt no) {j m a : Nat} (hj : j < nc) (hm : (K.2.1 0).2 1 j = nI m) (hm9 : m < 10) (ha : (K.2.1 0).2 2 j = nI a) (ha8 : a < 100000000) : Ct E mX4_describeCommittee [.ref (b 0), .int (nI j)] M (WR E b (some (.int (nI (desC (K.2.1 0) nt j).2))) (kTx K 1 (desC (K.2.1 0) nt j))) 23 3266 := by
  refine Ct.of gmX4_describeCommittee (ls := [.ref (b 0), .int (nI j), hole]) rfl rfl (Nat.le_of_ble_eq_true rfl) ?_
  intro X hX Q hQ
  have hwf2 := hwf
  obtain ⟨hnc, hncl, hnt, hntl, hno, hnol⟩ := hwf2
  have hmc : ((K.2.1 0).2 1 j).toNatClampNeg = m := by rw [hm]; exact nI_clamp (by omega)
  have hac : ((K.2.1 0).2 2 j).toNatClampNeg = a := by rw [ha]; exact nI_clamp (by omega)
  have hda := dg_le8 ha8
  have h1 : sb_dg j = 1 := dg1 (by omega)
  have h2 : sb_dg m = 1 := dg1 hm9
  refine gq_bud (nc1 := 23) (ns1 := 142 * 23) (by decide) (by decide) ?_
  refine gq_aload_n hX dX4_describeCommittee_0 rfl rfl rfl ?_
  refine gq_iload_n hX dX4_describeCommittee_1 rfl rfl rfl ?_
  refine gq_callVe hX dX4_describeCommittee_2 rfl vX4_120 (cq_Com_ok hb hW hwf hj) rfl hW.c0 rfl rfl (Nat.le_of_ble_eq_true rfl) ⟨(Nat.le_of_ble_eq_true rfl), (Nat.le_of_ble_eq_true rfl)⟩ (Nat.zero_add _) (Nat.zero_add _) ?_
  refine gq_aload_n hX dX4_describeCommittee_5 rfl rfl rfl ?_
  refine gq_getf hX dX4_describeCommittee_6 rfl fX4_53 hW.c0 rfl ?_
  refine gq_iconst (v := nI 0) hX dX4_describeCommittee_9 rfl (by decide) ?_
  obtain ⟨fs1, hfs1⟩ := hW.o1 hb
  refine gq_callVw (mc := 1) (ms := 142) (nc1 := 22) (ns1 := 142 * (22)) hX dX4_describeCommittee_10 rfl vX4_332 (sl_set0 hb hW) rfl hfs1 rfl rfl (Nat.le_of_ble_eq_true rfl) ⟨(Nat.le_of_ble_eq_true rfl), (Nat.le_of_ble_eq_true rfl)⟩ (by omega) (by omega) ?_
  intro M2 hW2
  refine gq_aload_n hX dX4_describeCommittee_13 rfl rfl rfl ?_
  refine gq_getf hX dX4_describeCommittee_14 rfl fX4_53 hW2.c0 rfl ?_
  refine gq_iload_n hX dX4_describeCommittee_17 rfl rfl rfl ?_
  obtain ⟨fs2, hfs2⟩ := hW2.o1 hb
  refine gq_callVw (mc := 1) (ms := 142) (nc1 := 21) (ns1 := 142 * (21)) hX dX4_describeCommittee_18 rfl vX4_335 (sl_appI hb hW2 (l := lnz) rfl (w := j) (by omega) (show 0 + sb_dg j ≤ 71 by omega)) rfl hfs2 rfl rfl (Nat.le_of_ble_eq_true rfl) ⟨(Nat.le_of_ble_eq_true rfl), (Nat.le_of_ble_eq_true rfl)⟩ (by omega) (by omega) ?_
  intro M3 hW3
  rw [kTx_2] at hW3
  refine gq_bipush (v := nI 47) hX dX4_describeCommittee_21 rfl (by decide) ?_
  obtain ⟨fs3, hfs3⟩ := hW3.o1 hb
  refine gq_callVw (mc := 1) (ms := 142) (nc1 := 20) (ns1 := 142 * (20)) hX dX4_describeCommittee_23 rfl vX4_339 (sl_appC hb hW3 (l := lnN lnz j) rfl (c := 47) (by decide) (show 0 + sb_dg j + 1 ≤ 71 by omega)) rfl hfs3 rfl rfl (Nat.le_of_ble_eq_true rfl) ⟨(Nat.le_of_ble_eq_true rfl), (Nat.le_of_ble_eq_true rfl)⟩ (by omega) (by omega) ?_
  intro M4 hW4
  rw [kTx_2] at hW4
  refine gq_aload_n hX dX4_describeCommittee_26 rfl rfl rfl ?_
  refine gq_getf hX dX4_describeCommittee_27 rfl fX4_10 hW4.c0 rfl ?_
  refine gq_getf hX dX4_describeCommittee_30 rfl fX4_124 (hW4.s0 (i := 0) (by decide)) rfl ?_
  refine gq_iload_n hX dX4_describeCommittee_33 rfl rfl rfl ?_
  refine gq_ialdN hX dX4_describeCommittee_34 rfl (hW4.s1 (i := 0) (by decide)) rfl (by omega) (Nat.le_of_ble_eq_true rfl) ?_
  rw [show (kTx K 1 (lnA (lnN lnz j) 47)).2.1 0 = K.2.1 0 from rfl, hm]
  obtain ⟨fs4, hfs4⟩ := hW4.o1 hb
  refine gq_callVw (mc := 1) (ms := 142) (nc1 := 19) (ns1 := 142 * (19)) hX dX4_describeCommittee_35 rfl vX4_335 (sl_appI hb hW4 (l := lnA (lnN lnz j) 47) rfl (w := m) (by omega) (show 0 + sb_dg j + 1 + sb_dg m ≤ 71 by omega)) rfl hfs4 rfl rfl (Nat.le_of_ble_eq_true rfl) ⟨(Nat.le_of_ble_eq_true rfl), (Nat.le_of_ble_eq_true rfl)⟩ (by omega) (by omega) ?_
  intro M5 hW5
  rw [kTx_2] at hW5
  refine gq_pop hX dX4_describeCommittee_38 rfl rfl ?_
  refine gq_aload_n hX dX4_describeCommittee_39 rfl rfl rfl ?_
  refine gq_getf hX dX4_describeCommittee_40 rfl fX4_53 hW5.c0 rfl ?_
  refine gq_aload_n hX dX4_describeCommittee_43 rfl rfl rfl ?_
  refine gq_getf hX dX4_describeCommittee_44 rfl fX4_10 hW5.c0 rfl ?_
  refine gq_getf hX dX4_describeCommittee_47 rfl fX4_131 (hW5.s0 (i := 0) (by decide)) rfl ?_
  refine gq_iload_n hX dX4_describeCommittee_50 rfl rfl rfl ?_
  refine gq_zaldN hX dX4_describeCommittee_51 rfl (hW5.s3 (i := 0) (by decide)) rfl (by omega) (Nat.le_of_ble_eq_true rfl) ?_
  have k66 : ∀ (M6 : Hp) (c9 : Nat), c9 = (if (K.2.1 0).2 3 j = 0 then 95 else 94) → Wd E b (kTx K 1 (lnA (lnN (lnA (lnN lnz j) 47) m) c9)) M6 → Gq E X mX4_describeCommittee Q 66 [.ref (b 0), .int (nI j), hole] [] M6 18 (142 * 18) := by
    intro M6 c9 hc9 hW6
    have k100 : ∀ (M7 : Hp), Wd E b (kTx K 1 (desH (K.2.1 0) j)) M7 → Gq E X mX4_describeCommittee Q 100 [.ref (b 0), .int (nI j), hole] [] M7 16 (142 * 16) := by
      intro M7 hW7
      have hH := desH_n (S := K.2.1 0) (j := j) (by omega) hm hm9 ha ha8
      refine gq_iconst (v := nI 0) hX dX4_describeCommittee_100 rfl (by decide) ?_
      refine gq_istore_n hX dX4_describeCommittee_101 rfl rfl (Nat.le_of_ble_eq_true rfl) rfl ?_
      have loop : ∀ n i : Nat, i + n = nt → ∀ M8, Wd E b (kTx K 1 (desC (K.2.1 0) i j)) M8 → Gq E X mX4_describeCommittee Q 102 [.ref (b 0), .int (nI j), .int (nI i)] [] M8 (2 * n) (142 * (2 * n)) := by
        intro n
        induction n with
        | zero =>
          intro i hj M8 hW8
          refine gq_iload_n hX dX4_describeCommittee_102 rfl rfl rfl ?_
          refine gq_aload_n hX dX4_describeCommittee_103 rfl rfl rfl ?_
          refine gq_getf hX dX4_describeCommittee_104 rfl fX4_10 hW8.c0 rfl ?_
          refine gq_getf hX dX4_describeCommittee_107 rfl fX4_141 (hW8.s0 (i := 0) (by decide)) rfl ?_
          refine gq_icmp_geT (tgt := 146) hX dX4_describeCommittee_110 rfl (cT hnt (by omega) (by omega)) ?_
          have ej : nt = i := by omega
          subst ej
          refine gq_aload_n hX dX4_describeCommittee_146 rfl rfl rfl ?_
          refine gq_getf hX dX4_describeCommittee_147 rfl fX4_53 hW8.c0 rfl ?_
          obtain ⟨fs5, hfs5⟩ := hW8.o1 hb
          refine gq_callVe hX dX4_describeCommittee_150 rfl vX4_342 (sl_len hb hW8) rfl hfs5 rfl rfl (Nat.le_of_ble_eq_true rfl) ⟨(Nat.le_of_ble_eq_true rfl), (Nat.le_of_ble_eq_true rfl)⟩ (Nat.zero_add _) (Nat.zero_add _) ?_
          exact gq_iret hX hQ dX4_describeCommittee_153 rfl ⟨rfl, hW8⟩
        | succ n ih =>
          intro i hj M8 hW8
          refine gq_iload_n hX dX4_describeCommittee_102 rfl rfl rfl ?_
          refine gq_aload_n hX dX4_describeCommittee_103 rfl rfl rfl ?_
          refine gq_getf hX dX4_describeCommittee_104 rfl fX4_10 hW8.c0 rfl ?_
          refine gq_getf hX dX4_describeCommittee_107 rfl fX4_141 (hW8.s0 (i := 0) (by decide)) rfl ?_
          refine gq_icmp_geF (tgt := 146) hX dX4_describeCommittee_110 rfl rfl (cF hnt (by omega) (by omega)) ?_
          refine gq_aload_n hX dX4_describeCommittee_113 rfl rfl rfl ?_
          refine gq_getf hX dX4_describeCommittee_114 rfl fX4_10 hW8.c0 rfl ?_
          refine gq_getf hX dX4_describeCommittee_117 rfl fX4_150 (hW8.s0 (i := 0) (by decide)) rfl ?_
          refine gq_iload_n hX dX4_describeCommittee_120 rfl rfl rfl ?_
          refine gq_ialdN hX dX4_describeCommittee_121 rfl (hW8.s5 (i := 0) (by decide)) rfl (by omega) (Nat.le_of_ble_eq_true rfl) ?_
          refine gq_iload_n hX dX4_describeCommittee_122 rfl rfl rfl ?_
          refine gq_icmp_ne (tgt := 140) hX dX4_describeCommittee_123 rfl rfl (fun c9 => ?_) (fun c9 => ?_)
          · refine gq_iinc hX dX4_describeCommittee_140 rfl rfl (inc1 _) (Nat.le_of_ble_eq_true rfl) rfl ?_
            refine gq_goto (tgt := 102) hX dX4_describeCommittee_143 rfl ?_
            have e9 : desC (K.2.1 0) (i + 1) j = desC (K.2.1 0) i j := if_neg c9
            exact gq_bud (by omega) (by omega) (ih (i + 1) (by omega) M8 (by rw [e9]; exact hW8))
          · have hDn := desC_n (S := K.2.1 0) (j := j) (n := i) (by omega)
            refine gq_aload_n hX dX4_describeCommittee_126 rfl rfl rfl ?_
            refine gq_getf hX dX4_describeCommittee_127 rfl fX4_53 hW8.c0 rfl ?_
            refine gq_bipush (v := nI 126) hX dX4_describeCommittee_130 rfl (by decide) ?_
            obtain ⟨fs5, hfs5⟩ := hW8.o1 hb
            refine gq_callVw (mc := 1) (ms := 142) (nc1 := 2 * n + 1) (ns1 := 142 * (2 * n + 1)) hX dX4_describeCommittee_132 rfl vX4_339 (sl_appC hb hW8 (l := desC (K.2.1 0) i j) rfl (c := 126) (by decide) (by omega)) rfl hfs5 rfl rfl (Nat.le_of_ble_eq_true rfl) ⟨(Nat.le_of_ble_eq_true rfl), (Nat.le_of_ble_eq_true rfl)⟩ (by omega) (by omega) ?_
            intro M9 hW9
            rw [kTx_2] at hW9
            refine gq_iload_n hX dX4_describeCommittee_135 rfl rfl rfl ?_
            obtain ⟨fs6, hfs6⟩ := hW9.o1 hb
            refine gq_callVw (mc := 1) (ms := 142) (nc1 := 2 * n) (ns1 := 142 * (2 * n)) hX dX4_describeCommittee_136 rfl vX4_335 (sl_appI hb hW9 (l := lnA (desC (K.2.1 0) i j) 126) rfl (w := i) (by omega) (by show (desC (K.2.1 0) i j).2 + 1 + sb_dg i ≤ 71; rw [dg1 (by omega)]; omega)) rfl hfs6 rfl rfl (Nat.le_of_ble_eq_true rfl) ⟨(Nat.le_of_ble_eq_true rfl), (Nat.le_of_ble_eq_true rfl)⟩ (by omega) (by omega) ?_
            intro M10 hW10
            rw [kTx_2] at hW10
            refine gq_pop hX dX4_describeCommittee_139 rfl rfl ?_
            refine gq_iinc hX dX4_describeCommittee_140 rfl rfl (inc1 _) (Nat.le_of_ble_eq_true rfl) rfl ?_
            refine gq_goto (tgt := 102) hX dX4_describeCommittee_143 rfl ?_
            have e9 : desC (K.2.1 0) (i + 1) j = lnN (lnA (desC (K.2.1 0) i j) 126) i := if_pos c9
            exact ih (i + 1) (by omega) _ (by rw [e9]; exact hW10)
      exact gq_bud (by omega) (by omega) (loop nt 0 (by omega) M7 hW7)
    refine gq_aload_n hX dX4_describeCommittee_66 rfl rfl rfl ?_
    refine gq_getf hX dX4_describeCommittee_67 rfl fX4_10 hW6.c0 rfl ?_
    refine gq_getf hX dX4_describeCommittee_70 rfl fX4_128 (hW6.s0 (i := 0) (by decide)) rfl ?_
    refine gq_iload_n hX dX4_describeCommittee_73 rfl rfl rfl ?_
    refine gq_ialdN hX dX4_describeCommittee_74 rfl (hW6.s2 (i := 0) (by decide)) rfl (by omega) (Nat.le_of_ble_eq_true rfl) ?_
    refine gq_if_le (tgt := 100) hX dX4_describeCommittee_75 rfl rfl (fun c70 => ?_) (fun c70 => ?_)
    · refine gq_bud (by decide) (by decide) (k100 M6 ?_)
      unfold desH
      rw [if_pos (show (K.2.1 0).2 2 j ≤ 0 from c70), hmc, ← hc9]
      exact hW6
    · refine gq_aload_n hX dX4_describeCommittee_78 rfl rfl rfl ?_
      refine gq_getf hX dX4_describeCommittee_79 rfl fX4_53 hW6.c0 rfl ?_
      refine gq_bipush (v := nI 45) hX dX4_describeCommittee_82 rfl (by decide) ?_
      obtain ⟨fs5, hfs5⟩ := hW6.o1 hb
      refine gq_callVw (mc := 1) (ms := 142) (nc1 := 17) (ns1 := 142 * (17)) hX dX4_describeCommittee_84 rfl vX4_339 (sl_appC hb hW6 (l := lnA (lnN (lnA (lnN lnz j) 47) m) c9) rfl (c := 45) (by decide) (show 0 + sb_dg j + 1 + sb_dg m + 1 + 1 ≤ 71 by omega)) rfl hfs5 rfl rfl (Nat.le_of_ble_eq_true rfl) ⟨(Nat.le_of_ble_eq_true rfl), (Nat.le_of_ble_eq_true rfl)⟩ (by omega) (by omega) ?_
      intro M21 hW21
      rw [kTx_2] at hW21
      refine gq_aload_n hX dX4_describeCommittee_87 rfl rfl rfl ?_
      refine gq_getf hX dX4_describeCommittee_88 rfl fX4_10 hW21.c0 rfl ?_
      refine gq_getf hX dX4_describeCommittee_91 rfl fX4_128 (hW21.s0 (i := 0) (by decide)) rfl ?_
      refine gq_iload_n hX dX4_describeCommittee_94 rfl rfl rfl ?_
      refine gq_ialdN hX dX4_describeCommittee_95 rfl (hW21.s2 (i := 0) (by decide)) rfl (by omega) (Nat.le_of_ble_eq_true rfl) ?_
      rw [show (kTx K 1 (lnA (lnA (lnN (lnA (lnN lnz j) 47) m) c9) 45)).2.1 0 = K.2.1 0 from rfl, ha]
      obtain ⟨fs6, hfs6⟩ := hW21.o1 hb
      refine gq_callVw (mc := 1) (ms := 142) (nc1 := 16) (ns1 := 142 * (16)) hX dX4_describeCommittee_96 rfl vX4_335 (sl_appI hb hW21 (l := lnA (lnA (lnN (lnA (lnN lnz j) 47) m) c9) 45) rfl (w := a) ha8 (show 0 + sb_dg j + 1 + sb_dg m + 1 + 1 + sb_dg a ≤ 71 by omega)) rfl hfs6 rfl rfl (Nat.le_of_ble_eq_true rfl) ⟨(Nat.le_of_ble_eq_true rfl), (Nat.le_of_ble_eq_true rfl)⟩ (by omega) (by omega) ?_
      intro M22 hW22
      rw [kTx_2] at hW22
      refine gq_pop hX dX4_describeCommittee_99 rfl rfl ?_
      refine k100 _ ?_
      unfold desH
      rw [if_neg (show ¬ (K.2.1 0).2 2 j ≤ 0 from c70), hmc, hac, ← hc9]
      exact hW22
  refine gq_if_eq (tgt := 60) hX dX4_describeCommittee_52 rfl rfl (fun c51 => ?_) (fun c51 => ?_)
  · refine gq_bipush (v := nI 95) hX dX4_describeCommittee_60 rfl (by decide) ?_
    obtain ⟨fs5, hfs5⟩ := hW5.o1 hb
    refine gq_callVw (mc := 1) (ms := 142) (nc1 := 18) (ns1 := 142 * (18)) hX dX4_describeCommittee_62 rfl vX4_339 (sl_appC hb hW5 (l := lnN (lnA (lnN lnz j) 47) m) rfl (c := 95) (by decide) (show 0 + sb_dg j + 1 + sb_dg m + 1 ≤ 71 by omega)) rfl hfs5 rfl rfl (Nat.le_of_ble_eq_true rfl) ⟨(Nat.le_of_ble_eq_true rfl), (Nat.le_of_ble_eq_true rfl)⟩ (by omega) (by omega) ?_
    intro M6 hW6
    rw [kTx_2] at hW6
    refine gq_pop hX dX4_describeCommittee_65 rfl rfl ?_
    exact k66 _ 95 (if_pos (show (K.2.1 0).2 3 j = 0 from c51)).symm hW6
  · refine gq_bipush (v := nI 94) hX dX4_describeCommittee_55 rfl (by decide) ?_
    refine gq_goto (tgt := 62) hX dX4_describeCommittee_57 rfl ?_
    obtain ⟨fs5, hfs5⟩ := hW5.o1 hb
    refine gq_callVw (mc := 1) (ms := 142) (nc1 := 18) (ns1 := 142 * (18)) hX dX4_describeCommittee_62 rfl vX4_339 (sl_appC hb hW5 (l := lnN (lnA (lnN lnz j) 47) m) rfl (c := 94) (by decide) (show 0 + sb_dg j + 1 + sb_dg m + 1 ≤ 71 by omega)) rfl hfs5 rfl rfl (Nat.le_of_ble_eq_true rfl) ⟨(Nat.le_of_ble_eq_true rfl), (Nat.le_of_ble_eq_true rfl)⟩ (by omega) (by omega) ?_
    intro M6 hW6
    rw [kTx_2] at hW6
    refine gq_pop hX dX4_describeCommittee_65 rfl rfl ?_
    exact k66 _ 94 (if_neg (show ¬ (K.2.1 0).2 3 j = 0 from c51)).symm hW6

set_option maxRecDepth 100000 in
set_option maxHeartbeats 4000000 in
theorem cr_desC_1 {E : Ev} {b : Nat → Nat} {K : Kt} {M : Hp} (hb : Lay E 162 b) (hW : Wd E b K M) {nc nt no : Nat} (hwf : Wf (K.2.1 0) nc nt no) (c : Int32) (hF : hasI nc c = 0) : CtX E mX4_describeCommittee [.ref (b 0), .int c] M NoR (PXe "java/lang/IndexOutOfBoundsException" M) 1 6 := by
  refine CtX.of gmX4_describeCommittee (ls := [.ref (b 0), .int c, hole]) rfl rfl (Nat.le_of_ble_eq_true rfl) ?_
  intro X hX Q hQ hQ2
  refine gq_aload_n hX dX4_describeCommittee_0 rfl rfl rfl ?_
  refine gq_iload_n hX dX4_describeCommittee_1 rfl rfl rfl ?_
  exact gq_callVXe (nc1 := 0) (ns1 := 0) hX dX4_describeCommittee_2 vX4_120 (cq_Com_1 hb hW hwf _ hF) rfl hW.c0 rfl rfl (Nat.le_of_ble_eq_true rfl) ⟨(Nat.le_of_ble_eq_true rfl), (Nat.le_of_ble_eq_true rfl)⟩ rfl rfl (gx_out hX hQ2 rfl ⟨rfl, rfl⟩)

set_option maxRecDepth 100000 in
set_option maxHeartbeats 4000000 in
theorem cr_desM_ok {E : Ev} {b : Nat → Nat} {K : Kt} {M : Hp} (hb : Lay E 162 b) (hW : Wd E b K M) {nc nt no : Nat} (hwf : Wf (K.2.1 0) nc nt no) {i k a o : Nat} (ho : slotO (K.2.1 0) no (nI i) = some k) (hse : SecOk (K.2.1 0) nc no) (hi8 : i < 100000000) (hmv : (K.2.1 0).2 9 k = nI a) (ha : a < nc) (ho2 : ObjOk (K.2.1 0) nc nt k o) : Ct E mX4_describeMotion [.ref (b 0), .int (nI i)] M (WR E b (some (.int (nI (desM (K.2.1 0) k i o a).2))) (kTx K 1 (desM (K.2.1 0) k i o a))) 10 1420 := by
  refine Ct.of gmX4_describeMotion (ls := [.ref (b 0), .int (nI i), hole, hole]) rfl rfl (Nat.le_of_ble_eq_true rfl) ?_
  intro X hX Q hQ
  have hwf2 := hwf
  obtain ⟨hnc, hncl, hnt, hntl, hno, hnol⟩ := hwf2
  obtain ⟨hk, hid⟩ := slotO_lt ho
  have hdi := dg_le8 hi8
  have h1 : sb_dg a = 1 := dg1 (by omega)
  have ho8 : o < 8 := by rcases ho2.2 with ⟨-, h⟩ | ⟨-, h⟩ | ⟨-, h⟩ <;> omega
  have h2 : sb_dg o = 1 := dg1 (by omega)
  have hkc : kdL ((K.2.1 0).2 8 k) < 128 ∧ (K.2.1 0).2 8 k = nI (kdL ((K.2.1 0).2 8 k)) := by rcases ho2.2 with ⟨h, -⟩ | ⟨h, -⟩ | ⟨h, -⟩ <;> rw [h] <;> decide
  obtain ⟨hkc1, hkc2⟩ := hkc
  refine gq_bud (nc1 := 10) (ns1 := 142 * 10) (by decide) (by decide) ?_
  refine gq_aload_n hX dX4_describeMotion_0 rfl rfl rfl ?_
  refine gq_iload_n hX dX4_describeMotion_1 rfl rfl rfl ?_
  refine gq_callVe hX dX4_describeMotion_2 rfl vX4_223 (cq_Mot_ok hb hW hwf ho) rfl hW.c0 rfl rfl (Nat.le_of_ble_eq_true rfl) ⟨(Nat.le_of_ble_eq_true rfl), (Nat.le_of_ble_eq_true rfl)⟩ (Nat.zero_add _) (Nat.zero_add _) ?_
  refine gq_istore_n hX dX4_describeMotion_5 rfl rfl (Nat.le_of_ble_eq_true rfl) rfl ?_
  refine gq_aload_n hX dX4_describeMotion_6 rfl rfl rfl ?_
  refine gq_getf hX dX4_describeMotion_7 rfl fX4_10 hW.c0 rfl ?_
  refine gq_getf hX dX4_describeMotion_10 rfl fX4_209 (hW.s0 (i := 0) (by decide)) rfl ?_
  refine gq_astore_n hX dX4_describeMotion_13 rfl rfl (Nat.le_of_ble_eq_true rfl) rfl ?_
  refine gq_aload_n hX dX4_describeMotion_14 rfl rfl rfl ?_
  refine gq_getf hX dX4_describeMotion_15 rfl fX4_53 hW.c0 rfl ?_
  refine gq_iconst (v := nI 0) hX dX4_describeMotion_18 rfl (by decide) ?_
  obtain ⟨fs1, hfs1⟩ := hW.o1 hb
  refine gq_callVw (mc := 1) (ms := 142) (nc1 := 9) (ns1 := 142 * (9)) hX dX4_describeMotion_19 rfl vX4_332 (sl_set0 hb hW) rfl hfs1 rfl rfl (Nat.le_of_ble_eq_true rfl) ⟨(Nat.le_of_ble_eq_true rfl), (Nat.le_of_ble_eq_true rfl)⟩ (by omega) (by omega) ?_
  intro M2 hW2
  refine gq_aload_n hX dX4_describeMotion_22 rfl rfl rfl ?_
  refine gq_getf hX dX4_describeMotion_23 rfl fX4_53 hW2.c0 rfl ?_
  refine gq_bipush (v := nI 35) hX dX4_describeMotion_26 rfl (by decide) ?_
  obtain ⟨fs2, hfs2⟩ := hW2.o1 hb
  refine gq_callVw (mc := 1) (ms := 142) (nc1 := 8) (ns1 := 142 * (8)) hX dX4_describeMotion_28 rfl vX4_339 (sl_appC hb hW2 (l := lnz) rfl (c := 35) (by decide) (show 0 + 1 ≤ 71 by omega)) rfl hfs2 rfl rfl (Nat.le_of_ble_eq_true rfl) ⟨(Nat.le_of_ble_eq_true rfl), (Nat.le_of_ble_eq_true rfl)⟩ (by omega) (by omega) ?_
  intro M3 hW3
  rw [kTx_2] at hW3
  refine gq_iload_n hX dX4_describeMotion_31 rfl rfl rfl ?_
  obtain ⟨fs3, hfs3⟩ := hW3.o1 hb
  refine gq_callVw (mc := 1) (ms := 142) (nc1 := 7) (ns1 := 142 * (7)) hX dX4_describeMotion_32 rfl vX4_335 (sl_appI hb hW3 (l := lnA lnz 35) rfl (w := i) hi8 (show 0 + 1 + sb_dg i ≤ 71 by omega)) rfl hfs3 rfl rfl (Nat.le_of_ble_eq_true rfl) ⟨(Nat.le_of_ble_eq_true rfl), (Nat.le_of_ble_eq_true rfl)⟩ (by omega) (by omega) ?_
  intro M4 hW4
  rw [kTx_2] at hW4
  refine gq_aload_n hX dX4_describeMotion_35 rfl rfl rfl ?_
  refine gq_getf hX dX4_describeMotion_36 rfl fX4_345 (hW4.s6 (i := 0) (by decide)) rfl ?_
  refine gq_iload_n hX dX4_describeMotion_39 rfl rfl rfl ?_
  refine gq_caldN hX dX4_describeMotion_40 rfl (hW4.s8 (i := 0) (by decide)) rfl (by omega) (Nat.le_of_ble_eq_true rfl) ?_
  rw [show (kTx K 1 (lnN (lnA lnz 35) i)).2.1 0 = K.2.1 0 from rfl, hkc2]
  obtain ⟨fs4, hfs4⟩ := hW4.o1 hb
  refine gq_callVw (mc := 1) (ms := 142) (nc1 := 6) (ns1 := 142 * (6)) hX dX4_describeMotion_41 rfl vX4_339 (sl_appC hb hW4 (l := lnN (lnA lnz 35) i) rfl (c := kdL ((K.2.1 0).2 8 k)) hkc1 (show 0 + 1 + sb_dg i + 1 ≤ 71 by omega)) rfl hfs4 rfl rfl (Nat.le_of_ble_eq_true rfl) ⟨(Nat.le_of_ble_eq_true rfl), (Nat.le_of_ble_eq_true rfl)⟩ (by omega) (by omega) ?_
  intro M5 hW5
  rw [kTx_2] at hW5
  refine gq_aload_n hX dX4_describeMotion_44 rfl rfl rfl ?_
  refine gq_getf hX dX4_describeMotion_45 rfl fX4_349 (hW5.s6 (i := 0) (by decide)) rfl ?_
  refine gq_iload_n hX dX4_describeMotion_48 rfl rfl rfl ?_
  refine gq_ialdN hX dX4_describeMotion_49 rfl (hW5.s10 (i := 0) (by decide)) rfl (by omega) (Nat.le_of_ble_eq_true rfl) ?_
  rw [show (kTx K 1 (lnA (lnN (lnA lnz 35) i) (kdL ((K.2.1 0).2 8 k)))).2.1 0 = K.2.1 0 from rfl, ho2.1]
  obtain ⟨fs5, hfs5⟩ := hW5.o1 hb
  refine gq_callVw (mc := 1) (ms := 142) (nc1 := 5) (ns1 := 142 * (5)) hX dX4_describeMotion_50 rfl vX4_335 (sl_appI hb hW5 (l := lnA (lnN (lnA lnz 35) i) (kdL ((K.2.1 0).2 8 k))) rfl (w := o) (by omega) (show 0 + 1 + sb_dg i + 1 + sb_dg o ≤ 71 by omega)) rfl hfs5 rfl rfl (Nat.le_of_ble_eq_true rfl) ⟨(Nat.le_of_ble_eq_true rfl), (Nat.le_of_ble_eq_true rfl)⟩ (by omega) (by omega) ?_
  intro M6 hW6
  rw [kTx_2] at hW6
  refine gq_pop hX dX4_describeMotion_53 rfl rfl ?_
  refine gq_aload_n hX dX4_describeMotion_54 rfl rfl rfl ?_
  refine gq_getf hX dX4_describeMotion_55 rfl fX4_53 hW6.c0 rfl ?_
  refine gq_bipush (v := nI 58) hX dX4_describeMotion_58 rfl (by decide) ?_
  obtain ⟨fs6, hfs6⟩ := hW6.o1 hb
  refine gq_callVw (mc := 1) (ms := 142) (nc1 := 4) (ns1 := 142 * (4)) hX dX4_describeMotion_60 rfl vX4_339 (sl_appC hb hW6 (l := lnN (lnA (lnN (lnA lnz 35) i) (kdL ((K.2.1 0).2 8 k))) o) rfl (c := 58) (by decide) (show 0 + 1 + sb_dg i + 1 + sb_dg o + 1 ≤ 71 by omega)) rfl hfs6 rfl rfl (Nat.le_of_ble_eq_true rfl) ⟨(Nat.le_of_ble_eq_true rfl), (Nat.le_of_ble_eq_true rfl)⟩ (by omega) (by omega) ?_
  intro M7 hW7
  rw [kTx_2] at hW7
  refine gq_aload_n hX dX4_describeMotion_63 rfl rfl rfl ?_
  refine gq_getf hX dX4_describeMotion_64 rfl fX4_226 (hW7.s6 (i := 0) (by decide)) rfl ?_
  refine gq_iload_n hX dX4_describeMotion_67 rfl rfl rfl ?_
  refine gq_ialdN hX dX4_describeMotion_68 rfl (hW7.s9 (i := 0) (by decide)) rfl (by omega) (Nat.le_of_ble_eq_true rfl) ?_
  rw [show (kTx K 1 (lnA (lnN (lnA (lnN (lnA lnz 35) i) (kdL ((K.2.1 0).2 8 k))) o) 58)).2.1 0 = K.2.1 0 from rfl, hmv]
  obtain ⟨fs7, hfs7⟩ := hW7.o1 hb
  refine gq_callVw (mc := 1) (ms := 142) (nc1 := 3) (ns1 := 142 * (3)) hX dX4_describeMotion_69 rfl vX4_335 (sl_appI hb hW7 (l := lnA (lnN (lnA (lnN (lnA lnz 35) i) (kdL ((K.2.1 0).2 8 k))) o) 58) rfl (w := a) (by omega) (show 0 + 1 + sb_dg i + 1 + sb_dg o + 1 + sb_dg a ≤ 71 by omega)) rfl hfs7 rfl rfl (Nat.le_of_ble_eq_true rfl) ⟨(Nat.le_of_ble_eq_true rfl), (Nat.le_of_ble_eq_true rfl)⟩ (by omega) (by omega) ?_
  intro M8 hW8
  rw [kTx_2] at hW8
  have hW20 : Wd E b (kTx K 1 (desM0 (K.2.1 0) k i o a)) _ := hW8
  have hn6 : (desM0 (K.2.1 0) k i o a).2 ≤ 13 := by show 0 + 1 + sb_dg i + 1 + sb_dg o + 1 + sb_dg a ≤ 13; omega
  refine gq_pop hX dX4_describeMotion_72 rfl rfl ?_
  refine gq_aload_n hX dX4_describeMotion_73 rfl rfl rfl ?_
  refine gq_getf hX dX4_describeMotion_74 rfl fX4_229 (hW20.s6 (i := 0) (by decide)) rfl ?_
  refine gq_iload_n hX dX4_describeMotion_77 rfl rfl rfl ?_
  refine gq_ialdN hX dX4_describeMotion_78 rfl (hW20.s11 (i := 0) (by decide)) rfl (by omega) (Nat.le_of_ble_eq_true rfl) ?_
  refine gq_iconst (v := -1) hX dX4_describeMotion_79 rfl (by decide) ?_
  have k102 : ∀ (M6 : Hp), (desM1 (K.2.1 0) k i o a).2 ≤ 20 → Wd E b (kTx K 1 (desM1 (K.2.1 0) k i o a)) M6 → Gq E X mX4_describeMotion Q 102 [.ref (b 0), .int (nI i), .int (nI k), .ref (bS b 0 6)] [] M6 1 (142 * 1) := by
    intro M6 hn7 hW6
    refine gq_aload_n hX dX4_describeMotion_102 rfl rfl rfl ?_
    refine gq_getf hX dX4_describeMotion_103 rfl fX4_234 (hW6.s6 (i := 0) (by decide)) rfl ?_
    refine gq_iload_n hX dX4_describeMotion_106 rfl rfl rfl ?_
    refine gq_zaldN hX dX4_describeMotion_107 rfl (hW6.s12 (i := 0) (by decide)) rfl (by omega) (Nat.le_of_ble_eq_true rfl) ?_
    refine gq_if_eq (tgt := 121) hX dX4_describeMotion_108 rfl rfl (fun c9 => ?_) (fun c9 => ?_)
    · have e9 : desM (K.2.1 0) k i o a = desM1 (K.2.1 0) k i o a := if_pos c9
      refine gq_aload_n hX dX4_describeMotion_121 rfl rfl rfl ?_
      refine gq_getf hX dX4_describeMotion_122 rfl fX4_53 hW6.c0 rfl ?_
      obtain ⟨fs8, hfs8⟩ := hW6.o1 hb
      refine gq_callVe hX dX4_describeMotion_125 rfl vX4_342 (sl_len hb hW6) rfl hfs8 rfl rfl (Nat.le_of_ble_eq_true rfl) ⟨(Nat.le_of_ble_eq_true rfl), (Nat.le_of_ble_eq_true rfl)⟩ (Nat.zero_add _) (Nat.zero_add _) ?_
      exact gq_iret hX hQ dX4_describeMotion_128 rfl ⟨by rw [e9]; rfl, by rw [e9]; exact hW6⟩
    · have e9 : desM (K.2.1 0) k i o a = lnA (desM1 (K.2.1 0) k i o a) 33 := if_neg c9
      refine gq_aload_n hX dX4_describeMotion_111 rfl rfl rfl ?_
      refine gq_getf hX dX4_describeMotion_112 rfl fX4_53 hW6.c0 rfl ?_
      refine gq_bipush (v := nI 33) hX dX4_describeMotion_115 rfl (by decide) ?_
      obtain ⟨fs8, hfs8⟩ := hW6.o1 hb
      refine gq_callVw (mc := 1) (ms := 142) (nc1 := 0) (ns1 := 142 * (0)) hX dX4_describeMotion_117 rfl vX4_339 (sl_appC hb hW6 (l := desM1 (K.2.1 0) k i o a) rfl (c := 33) (by decide) (by omega)) rfl hfs8 rfl rfl (Nat.le_of_ble_eq_true rfl) ⟨(Nat.le_of_ble_eq_true rfl), (Nat.le_of_ble_eq_true rfl)⟩ (by omega) (by omega) ?_
      intro M31 hW31
      rw [kTx_2] at hW31
      refine gq_pop hX dX4_describeMotion_120 rfl rfl ?_
      refine gq_aload_n hX dX4_describeMotion_121 rfl rfl rfl ?_
      refine gq_getf hX dX4_describeMotion_122 rfl fX4_53 hW31.c0 rfl ?_
      obtain ⟨fs9, hfs9⟩ := hW31.o1 hb
      refine gq_callVe hX dX4_describeMotion_125 rfl vX4_342 (sl_len hb hW31) rfl hfs9 rfl rfl (Nat.le_of_ble_eq_true rfl) ⟨(Nat.le_of_ble_eq_true rfl), (Nat.le_of_ble_eq_true rfl)⟩ (Nat.zero_add _) (Nat.zero_add _) ?_
      exact gq_iret hX hQ dX4_describeMotion_128 rfl ⟨by rw [e9]; rfl, by rw [e9]; exact hW31⟩
  refine gq_icmp_eq (tgt := 102) hX dX4_describeMotion_80 rfl rfl (fun c80 => ?_) (fun c80 => ?_)
  · have c80p : (K.2.1 0).2 11 k = -1 := c80
    have e1 : desM1 (K.2.1 0) k i o a = desM0 (K.2.1 0) k i o a := if_pos c80p
    exact gq_bud (by decide) (by decide) (k102 _ (by rw [e1]; omega) (by rw [e1]; exact hW20))
  · have c80p : ¬ (K.2.1 0).2 11 k = -1 := c80
    obtain ⟨a2, ha2, e2⟩ := (hse k hk).resolve_left c80p
    have e1 : desM1 (K.2.1 0) k i o a = lnN (lnA (desM0 (K.2.1 0) k i o a) 43) a2 := by unfold desM1; rw [if_neg c80p, e2, nI_clamp (by omega)]
    have h3 : sb_dg a2 = 1 := dg1 (by omega)
    refine gq_aload_n hX dX4_describeMotion_83 rfl rfl rfl ?_
    refine gq_getf hX dX4_describeMotion_84 rfl fX4_53 hW20.c0 rfl ?_
    refine gq_bipush (v := nI 43) hX dX4_describeMotion_87 rfl (by decide) ?_
    obtain ⟨fs8, hfs8⟩ := hW20.o1 hb
    refine gq_callVw (mc := 1) (ms := 142) (nc1 := 2) (ns1 := 142 * (2)) hX dX4_describeMotion_89 rfl vX4_339 (sl_appC hb hW20 (l := desM0 (K.2.1 0) k i o a) rfl (c := 43) (by decide) (by omega)) rfl hfs8 rfl rfl (Nat.le_of_ble_eq_true rfl) ⟨(Nat.le_of_ble_eq_true rfl), (Nat.le_of_ble_eq_true rfl)⟩ (by omega) (by omega) ?_
    intro M21 hW21
    rw [kTx_2] at hW21
    refine gq_aload_n hX dX4_describeMotion_92 rfl rfl rfl ?_
    refine gq_getf hX dX4_describeMotion_93 rfl fX4_229 (hW21.s6 (i := 0) (by decide)) rfl ?_
    refine gq_iload_n hX dX4_describeMotion_96 rfl rfl rfl ?_
    refine gq_ialdN hX dX4_describeMotion_97 rfl (hW21.s11 (i := 0) (by decide)) rfl (by omega) (Nat.le_of_ble_eq_true rfl) ?_
    rw [show (kTx K 1 (lnA (desM0 (K.2.1 0) k i o a) 43)).2.1 0 = K.2.1 0 from rfl, e2]
    obtain ⟨fs9, hfs9⟩ := hW21.o1 hb
    refine gq_callVw (mc := 1) (ms := 142) (nc1 := 1) (ns1 := 142 * (1)) hX dX4_describeMotion_98 rfl vX4_335 (sl_appI hb hW21 (l := lnA (desM0 (K.2.1 0) k i o a) 43) rfl (w := a2) (by omega) (show (desM0 (K.2.1 0) k i o a).2 + 1 + sb_dg a2 ≤ 71 by omega)) rfl hfs9 rfl rfl (Nat.le_of_ble_eq_true rfl) ⟨(Nat.le_of_ble_eq_true rfl), (Nat.le_of_ble_eq_true rfl)⟩ (by omega) (by omega) ?_
    intro M22 hW22
    rw [kTx_2] at hW22
    refine gq_pop hX dX4_describeMotion_101 rfl rfl ?_
    exact k102 _ (by rw [e1]; show (desM0 (K.2.1 0) k i o a).2 + 1 + sb_dg a2 ≤ 20; omega) (by rw [e1]; exact hW22)

set_option maxRecDepth 100000 in
set_option maxHeartbeats 4000000 in
theorem cr_lineAt_1 {E : Ev} {b : Nat → Nat} {K : Kt} {M : Hp} (hb : Lay E 162 b) (hW : Wd E b K M) (c : Int32) (hF : hasI (K.2.2.2.1 1).2 c = 0) : CtX E mX4_lineAt [.ref (b 0), .int c] M NoR (PXe "java/lang/IndexOutOfBoundsException" M) 1 6 := by
  refine CtX.of gmX4_lineAt (ls := [.ref (b 0), .int c]) rfl rfl (Nat.le_of_ble_eq_true rfl) ?_
  intro X hX Q hQ hQ2
  refine gq_iload_n hX dX4_lineAt_0 rfl rfl rfl ?_
  rcases hasI_0 hF with h1 | ⟨h1, h2⟩
  · refine gq_if_ltT (tgt := 15) hX dX4_lineAt_1 rfl h1 ?_
    exact gq_throwW hX hQ2 rfl th94 rfl (List.mem_of_getElem? (i := 30) rfl) dX4_lineAt_15 dX4_lineAt_18 dX4_lineAt_19 dX4_lineAt_22 dX4_lineAt_25 (Nat.le_of_ble_eq_true rfl) (Nat.le_of_ble_eq_true rfl) (Nat.le_of_ble_eq_true rfl) (Nat.le_of_ble_eq_true rfl) ⟨rfl, rfl⟩
  · refine gq_if_ltF (tgt := 15) hX dX4_lineAt_1 rfl rfl h1 ?_
    refine gq_iload_n hX dX4_lineAt_4 rfl rfl rfl ?_
    refine gq_aload_n hX dX4_lineAt_5 rfl rfl rfl ?_
    refine gq_getf hX dX4_lineAt_6 rfl fX4_53 hW.c0 rfl ?_
    obtain ⟨fs1, hfs1⟩ := hW.o1 hb
    refine gq_callVe hX dX4_lineAt_9 rfl vX4_342 (sl_len hb hW) rfl hfs1 rfl rfl (Nat.le_of_ble_eq_true rfl) ⟨(Nat.le_of_ble_eq_true rfl), (Nat.le_of_ble_eq_true rfl)⟩ (Nat.zero_add _) (Nat.zero_add _) ?_
    refine gq_icmp_ltF (tgt := 26) hX dX4_lineAt_12 rfl rfl (i32_lt.mpr h2) ?_
    exact gq_throwW hX hQ2 rfl th94 rfl (List.mem_of_getElem? (i := 30) rfl) dX4_lineAt_15 dX4_lineAt_18 dX4_lineAt_19 dX4_lineAt_22 dX4_lineAt_25 (Nat.le_of_ble_eq_true rfl) (Nat.le_of_ble_eq_true rfl) (Nat.le_of_ble_eq_true rfl) (Nat.le_of_ble_eq_true rfl) ⟨rfl, rfl⟩

set_option maxRecDepth 100000 in
set_option maxHeartbeats 4000000 in
theorem cr_lineAt_ok {E : Ev} {b : Nat → Nat} {K : Kt} {M : Hp} (hb : Lay E 162 b) (hW : Wd E b K M) {j : Nat} (hj : j < (K.2.2.2.1 1).2) (hl : (K.2.2.2.1 1).2 < 1000) : Ct E mX4_lineAt [.ref (b 0), .int (nI j)] M (eqR (some (.int (nI ((K.2.2.2.1 1).1 j)))) M) 0 0 := by
  refine Ct.of gmX4_lineAt (ls := [.ref (b 0), .int (nI j)]) rfl rfl (Nat.le_of_ble_eq_true rfl) ?_
  intro X hX Q hQ
  refine gq_iload_n hX dX4_lineAt_0 rfl rfl rfl ?_
  refine gq_if_ltF (tgt := 15) hX dX4_lineAt_1 rfl rfl (nI_pos (by omega)) ?_
  refine gq_iload_n hX dX4_lineAt_4 rfl rfl rfl ?_
  refine gq_aload_n hX dX4_lineAt_5 rfl rfl rfl ?_
  refine gq_getf hX dX4_lineAt_6 rfl fX4_53 hW.c0 rfl ?_
  obtain ⟨fs1, hfs1⟩ := hW.o1 hb
  refine gq_callVe hX dX4_lineAt_9 rfl vX4_342 (sl_len hb hW) rfl hfs1 rfl rfl (Nat.le_of_ble_eq_true rfl) ⟨(Nat.le_of_ble_eq_true rfl), (Nat.le_of_ble_eq_true rfl)⟩ (Nat.zero_add _) (Nat.zero_add _) ?_
  refine gq_icmp_ltT (tgt := 26) hX dX4_lineAt_12 rfl (nI_lt hj (by omega)) ?_
  refine gq_aload_n hX dX4_lineAt_26 rfl rfl rfl ?_
  refine gq_getf hX dX4_lineAt_27 rfl fX4_53 hW.c0 rfl ?_
  refine gq_iload_n hX dX4_lineAt_30 rfl rfl rfl ?_
  obtain ⟨fs2, hfs2⟩ := hW.o1 hb
  refine gq_callVe hX dX4_lineAt_31 rfl vX4_354 (sl_charAt hb hW hj) rfl hfs2 rfl rfl (Nat.le_of_ble_eq_true rfl) ⟨(Nat.le_of_ble_eq_true rfl), (Nat.le_of_ble_eq_true rfl)⟩ (Nat.zero_add _) (Nat.zero_add _) ?_
  exact gq_zret hX hQ dX4_lineAt_34 rfl (nar_c (sl_lt hb hW hj)) ⟨rfl, rfl⟩

set_option maxRecDepth 100000 in
set_option maxHeartbeats 4000000 in
theorem cc_add {E : Ev} {b : Nat → Nat} {K : Kt} {M : Hp} (hb : Lay E 162 b) (hW : Wd E b K M) {c : Nat} (hc : c < 128) (hl : (K.2.2.2.1 0).2 < 61) : Ct E mX0_addCharacter [.ref (b 3), .int (nI c)] M (WR E b (some (.int (nI ((K.2.2.2.1 0).2 + 1)))) (kTx K 0 (lnA (K.2.2.2.1 0) c))) 1 142 := by
  refine Ct.of gmX0_addCharacter (ls := [.ref (b 3), .int (nI c)]) rfl rfl (Nat.le_of_ble_eq_true rfl) ?_
  intro X hX Q hQ
  refine gq_aload_n hX dX0_addCharacter_0 rfl rfl rfl ?_
  refine gq_getf hX dX0_addCharacter_1 rfl fX0_12 hW.c3 rfl ?_
  refine gq_iload_n hX dX0_addCharacter_4 rfl rfl rfl ?_
  obtain ⟨fs1, hfs1⟩ := hW.o0 hb
  refine gq_callVw (mc := 1) (ms := 142) (nc1 := 0) (ns1 := 142 * (0)) hX dX0_addCharacter_5 rfl vX0_36 (st_appC hb hW rfl hc (by omega)) rfl hfs1 rfl rfl (Nat.le_of_ble_eq_true rfl) ⟨(Nat.le_of_ble_eq_true rfl), (Nat.le_of_ble_eq_true rfl)⟩ (by omega) (by omega) ?_
  intro M2 hW2
  refine gq_pop hX dX0_addCharacter_8 rfl rfl ?_
  refine gq_aload_n hX dX0_addCharacter_9 rfl rfl rfl ?_
  refine gq_getf hX dX0_addCharacter_10 rfl fX0_12 hW2.c3 rfl ?_
  obtain ⟨fs2, hfs2⟩ := hW2.o0 hb
  refine gq_callVe hX dX0_addCharacter_13 rfl vX0_32 (st_len hb hW2) rfl hfs2 rfl rfl (Nat.le_of_ble_eq_true rfl) ⟨(Nat.le_of_ble_eq_true rfl), (Nat.le_of_ble_eq_true rfl)⟩ (Nat.zero_add _) (Nat.zero_add _) ?_
  exact gq_iret hX hQ dX0_addCharacter_16 rfl ⟨rfl, hW2⟩

set_option maxRecDepth 100000 in
set_option maxHeartbeats 4000000 in
theorem cc_full {E : Ev} {b : Nat → Nat} {K : Kt} {M : Hp} (hb : Lay E 162 b) (hW : Wd E b K M)  : Ct E mX0_isFull [.ref (b 3)] M (eqR (some (.int (if nI (K.2.2.2.1 0).2 < nI 60 then nI 0 else nI 1))) M) 0 0 := by
  refine Ct.of gmX0_isFull (ls := [.ref (b 3)]) rfl rfl (Nat.le_of_ble_eq_true rfl) ?_
  intro X hX Q hQ
  refine gq_aload_n hX dX0_isFull_0 rfl rfl rfl ?_
  refine gq_getf hX dX0_isFull_1 rfl fX0_12 hW.c3 rfl ?_
  obtain ⟨fs1, hfs1⟩ := hW.o0 hb
  refine gq_callVe hX dX0_isFull_4 rfl vX0_32 (st_len hb hW) rfl hfs1 rfl rfl (Nat.le_of_ble_eq_true rfl) ⟨(Nat.le_of_ble_eq_true rfl), (Nat.le_of_ble_eq_true rfl)⟩ (Nat.zero_add _) (Nat.zero_add _) ?_
  refine gq_bipush (v := nI 60) hX dX0_isFull_7 rfl (by decide) ?_
  refine gq_icmp_lt (tgt := 16) hX dX0_isFull_9 rfl rfl (fun c9 => ?_) (fun c9 => ?_)
  · refine gq_iconst (v := nI 0) hX dX0_isFull_16 rfl (by decide) ?_
    exact gq_zret hX hQ dX0_isFull_17 rfl rfl ⟨by rw [if_pos (show nI (K.2.2.2.1 0).2 < nI 60 from c9)], rfl⟩
  · refine gq_iconst (v := nI 1) hX dX0_isFull_12 rfl (by decide) ?_
    refine gq_goto (tgt := 17) hX dX0_isFull_13 rfl ?_
    exact gq_zret hX hQ dX0_isFull_17 rfl rfl ⟨by rw [if_neg c9], rfl⟩

set_option maxRecDepth 100000 in
set_option maxHeartbeats 4000000 in
theorem cc_clear {E : Ev} {b : Nat → Nat} {K : Kt} {M : Hp} (hb : Lay E 162 b) (hW : Wd E b K M)  : Ct E mX0_clearText [.ref (b 3)] M (WR E b (none) (kTx K 0 lnz)) 1 142 := by
  refine Ct.of gmX0_clearText (ls := [.ref (b 3)]) rfl rfl (Nat.le_of_ble_eq_true rfl) ?_
  intro X hX Q hQ
  refine gq_aload_n hX dX0_clearText_0 rfl rfl rfl ?_
  refine gq_getf hX dX0_clearText_1 rfl fX0_12 hW.c3 rfl ?_
  refine gq_iconst (v := nI 0) hX dX0_clearText_4 rfl (by decide) ?_
  obtain ⟨fs1, hfs1⟩ := hW.o0 hb
  refine gq_callVw (mc := 1) (ms := 142) (nc1 := 0) (ns1 := 142 * (0)) hX dX0_clearText_5 rfl vX0_40 (st_set0 hb hW) rfl hfs1 rfl rfl (Nat.le_of_ble_eq_true rfl) ⟨(Nat.le_of_ble_eq_true rfl), (Nat.le_of_ble_eq_true rfl)⟩ (by omega) (by omega) ?_
  intro M2 hW2
  exact gq_vret hX hQ dX0_clearText_8 rfl ⟨rfl, hW2⟩

set_option maxRecDepth 100000 in
set_option maxHeartbeats 4000000 in
theorem cr_append_1 {E : Ev} {b : Nat → Nat} {K : Kt} {M : Hp} (hb : Lay E 162 b) (hW : Wd E b K M) (c : Int32) (hF : btw c (nI 32) (nI 126) = 0) : CtX E mX4_append [.ref (b 0), .int c] M NoR (PXe "java/lang/IllegalArgumentException" M) 1 6 := by
  refine CtX.of gmX4_append (ls := [.ref (b 0), .int c]) rfl rfl (Nat.le_of_ble_eq_true rfl) ?_
  intro X hX Q hQ hQ2
  refine gq_iload_n hX dX4_append_0 rfl rfl rfl ?_
  refine gq_bipush (v := nI 32) hX dX4_append_1 rfl (by decide) ?_
  rcases btw_0 hF with h1 | ⟨h1, h2⟩
  · refine gq_icmp_ltT (tgt := 12) hX dX4_append_3 rfl h1 ?_
    exact gq_throwW hX hQ2 rfl th61 rfl (List.mem_of_getElem? (i := 24) rfl) dX4_append_12 dX4_append_15 dX4_append_16 dX4_append_19 dX4_append_22 (Nat.le_of_ble_eq_true rfl) (Nat.le_of_ble_eq_true rfl) (Nat.le_of_ble_eq_true rfl) (Nat.le_of_ble_eq_true rfl) ⟨rfl, rfl⟩
  · refine gq_icmp_ltF (tgt := 12) hX dX4_append_3 rfl rfl h1 ?_
    refine gq_iload_n hX dX4_append_6 rfl rfl rfl ?_
    refine gq_bipush (v := nI 126) hX dX4_append_7 rfl (by decide) ?_
    refine gq_icmp_leF (tgt := 23) hX dX4_append_9 rfl rfl (i32_le.mpr h2) ?_
    exact gq_throwW hX hQ2 rfl th61 rfl (List.mem_of_getElem? (i := 24) rfl) dX4_append_12 dX4_append_15 dX4_append_16 dX4_append_19 dX4_append_22 (Nat.le_of_ble_eq_true rfl) (Nat.le_of_ble_eq_true rfl) (Nat.le_of_ble_eq_true rfl) (Nat.le_of_ble_eq_true rfl) ⟨rfl, rfl⟩

set_option maxRecDepth 100000 in
set_option maxHeartbeats 4000000 in
theorem cr_append_2 {E : Ev} {b : Nat → Nat} {K : Kt} {M : Hp} (hb : Lay E 162 b) (hW : Wd E b K M) (c : Int32) (hF : ¬ btw c (nI 32) (nI 126) = 0) (hl : (K.2.2.2.1 0).2 = 60) : CtX E mX4_append [.ref (b 0), .int c] M NoR (PXe "java/lang/IllegalStateException" M) 1 6 := by
  refine CtX.of gmX4_append (ls := [.ref (b 0), .int c]) rfl rfl (Nat.le_of_ble_eq_true rfl) ?_
  intro X hX Q hQ hQ2
  refine gq_iload_n hX dX4_append_0 rfl rfl rfl ?_
  refine gq_bipush (v := nI 32) hX dX4_append_1 rfl (by decide) ?_
  refine gq_icmp_ltF (tgt := 12) hX dX4_append_3 rfl rfl (btw_1 hF).1 ?_
  refine gq_iload_n hX dX4_append_6 rfl rfl rfl ?_
  refine gq_bipush (v := nI 126) hX dX4_append_7 rfl (by decide) ?_
  refine gq_icmp_leT (tgt := 23) hX dX4_append_9 rfl (i32_lt.mp (btw_1 hF).2) ?_
  refine gq_aload_n hX dX4_append_23 rfl rfl rfl ?_
  refine gq_getf hX dX4_append_24 rfl fX4_36 hW.c0 rfl ?_
  refine gq_callVe hX dX4_append_27 rfl vX4_294 (cc_full hb hW) rfl hW.c3 rfl rfl (Nat.le_of_ble_eq_true rfl) ⟨(Nat.le_of_ble_eq_true rfl), (Nat.le_of_ble_eq_true rfl)⟩ (Nat.zero_add _) (Nat.zero_add _) ?_
  refine gq_if_eqF (tgt := 44) hX dX4_append_30 rfl rfl (by rw [hl]; decide) ?_
  exact gq_throwW hX hQ2 rfl th68 rfl (List.mem_of_getElem? (i := 25) rfl) dX4_append_33 dX4_append_36 dX4_append_37 dX4_append_40 dX4_append_43 (Nat.le_of_ble_eq_true rfl) (Nat.le_of_ble_eq_true rfl) (Nat.le_of_ble_eq_true rfl) (Nat.le_of_ble_eq_true rfl) ⟨rfl, rfl⟩

set_option maxRecDepth 100000 in
set_option maxHeartbeats 4000000 in
theorem cr_append_ok {E : Ev} {b : Nat → Nat} {K : Kt} {M : Hp} (hb : Lay E 162 b) (hW : Wd E b K M) {c : Nat} (hF : ¬ btw (nI c) (nI 32) (nI 126) = 0) (hc : c < 128) (hl : (K.2.2.2.1 0).2 < 60) : Ct E mX4_append [.ref (b 0), .int (nI c)] M (WR E b (some (.int (nI ((K.2.2.2.1 0).2 + 1)))) (kTx K 0 (lnA (K.2.2.2.1 0) c))) 1 142 := by
  refine Ct.of gmX4_append (ls := [.ref (b 0), .int (nI c)]) rfl rfl (Nat.le_of_ble_eq_true rfl) ?_
  intro X hX Q hQ
  refine gq_iload_n hX dX4_append_0 rfl rfl rfl ?_
  refine gq_bipush (v := nI 32) hX dX4_append_1 rfl (by decide) ?_
  refine gq_icmp_ltF (tgt := 12) hX dX4_append_3 rfl rfl (btw_1 hF).1 ?_
  refine gq_iload_n hX dX4_append_6 rfl rfl rfl ?_
  refine gq_bipush (v := nI 126) hX dX4_append_7 rfl (by decide) ?_
  refine gq_icmp_leT (tgt := 23) hX dX4_append_9 rfl (i32_lt.mp (btw_1 hF).2) ?_
  refine gq_aload_n hX dX4_append_23 rfl rfl rfl ?_
  refine gq_getf hX dX4_append_24 rfl fX4_36 hW.c0 rfl ?_
  refine gq_callVe hX dX4_append_27 rfl vX4_294 (cc_full hb hW) rfl hW.c3 rfl rfl (Nat.le_of_ble_eq_true rfl) ⟨(Nat.le_of_ble_eq_true rfl), (Nat.le_of_ble_eq_true rfl)⟩ (Nat.zero_add _) (Nat.zero_add _) ?_
  refine gq_if_eqT (tgt := 44) hX dX4_append_30 rfl (by rw [if_pos (nI_lt hl (by decide))]; rfl) ?_
  refine gq_aload_n hX dX4_append_44 rfl rfl rfl ?_
  refine gq_getf hX dX4_append_45 rfl fX4_36 hW.c0 rfl ?_
  refine gq_iload_n hX dX4_append_48 rfl rfl rfl ?_
  refine gq_callVw (nc1 := 0) (ns1 := 0) hX dX4_append_49 rfl vX4_300 (cc_add hb hW hc (by omega)) rfl hW.c3 rfl rfl (Nat.le_of_ble_eq_true rfl) ⟨(Nat.le_of_ble_eq_true rfl), (Nat.le_of_ble_eq_true rfl)⟩ rfl rfl ?_
  intro M2 hW2
  exact gq_iret hX hQ dX4_append_52 rfl ⟨rfl, hW2⟩

set_option maxRecDepth 100000 in
set_option maxHeartbeats 4000000 in
theorem cq_forecasts {E : Ev} {b : Nat → Nat} {K : Kt} {M : Hp} (hb : Lay E 162 b) (hW : Wd E b K M) {nc nt no : Nat} (hwf : Wf (K.2.1 0) nc nt no) (hn : Nar (K.2.1 0)) (hn1 : Nar (K.2.1 1)) (hag : ∀ (j h : Nat) (S1 : St), Nar S1 → j < nc → h ≤ 24 → (pasS (copS S1 (K.2.1 0) nc nt no) nt nc h).1.2 2 j = ratI (K.2.1 0) nt j (nI h)) : Ct E mX4_forecastsAgree [.ref (b 0)] M (fun r M1 => r = some (.int (nI 1)) ∧ ∃ S1, Nar S1 ∧ Wd E b (kSs K 1 S1) M1) 0 0 := by
  refine Ct.of gmX4_forecastsAgree (ls := [.ref (b 0), hole, hole]) rfl rfl (Nat.le_of_ble_eq_true rfl) ?_
  intro X hX Q hQ
  have hwf2 := hwf
  obtain ⟨hnc, hncl, hnt, hntl, hno, hnol⟩ := hwf2
  refine gq_iconst (v := nI 0) hX dX4_forecastsAgree_0 rfl (by decide) ?_
  refine gq_istore_n hX dX4_forecastsAgree_1 rfl rfl (Nat.le_of_ble_eq_true rfl) rfl ?_
  have loop : ∀ n j : Nat, j + n = nc → ∀ (M5 : Hp) (S5 : St), Nar S5 → Wd E b (kSs K 1 S5) M5 → ∀ z : Value, Gq E X mX4_forecastsAgree Q 2 [.ref (b 0), .int (nI j), z] [] M5 0 0 := by
    intro n
    induction n with
    | zero =>
      intro j hj M5 S5 hn5 hW5 z
      refine gq_iload_n hX dX4_forecastsAgree_2 rfl rfl rfl ?_
      refine gq_aload_n hX dX4_forecastsAgree_3 rfl rfl rfl ?_
      refine gq_getf hX dX4_forecastsAgree_4 rfl fX4_10 hW5.c0 rfl ?_
      refine gq_getf hX dX4_forecastsAgree_7 rfl fX4_117 (hW5.s0 (i := 0) (by decide)) rfl ?_
      refine gq_icmp_geT (tgt := 50) hX dX4_forecastsAgree_10 rfl (cT hnc (by omega) (by omega)) ?_
      have ej : nc = j := by omega
      subst ej
      refine gq_iconst (v := nI 1) hX dX4_forecastsAgree_50 rfl (by decide) ?_
      exact gq_zret hX hQ dX4_forecastsAgree_51 rfl rfl ⟨rfl, S5, hn5, hW5⟩
    | succ n ih =>
      intro j hj M5 S5 hn5 hW5 z
      refine gq_iload_n hX dX4_forecastsAgree_2 rfl rfl rfl ?_
      refine gq_aload_n hX dX4_forecastsAgree_3 rfl rfl rfl ?_
      refine gq_getf hX dX4_forecastsAgree_4 rfl fX4_10 hW5.c0 rfl ?_
      refine gq_getf hX dX4_forecastsAgree_7 rfl fX4_117 (hW5.s0 (i := 0) (by decide)) rfl ?_
      refine gq_icmp_geF (tgt := 50) hX dX4_forecastsAgree_10 rfl rfl (cF hnc (by omega) (by omega)) ?_
      refine gq_iconst (v := nI 0) hX dX4_forecastsAgree_13 rfl (by decide) ?_
      refine gq_istore_n hX dX4_forecastsAgree_14 rfl rfl (Nat.le_of_ble_eq_true rfl) rfl ?_
      have loop2 : ∀ n2 h : Nat, h + n2 = 13 → ∀ (M6 : Hp) (S6 : St), Nar S6 → Wd E b (kSs K 1 S6) M6 → Gq E X mX4_forecastsAgree Q 15 [.ref (b 0), .int (nI j), .int (nI h)] [] M6 0 0 := by
        intro n2
        induction n2 with
        | zero =>
          intro h hi2 M6 S6 hn6 hW6
          have eh : h = 13 := by omega
          subst eh
          refine gq_iload_n hX dX4_forecastsAgree_15 rfl rfl rfl ?_
          refine gq_bipush (v := nI 12) hX dX4_forecastsAgree_16 rfl (by decide) ?_
          refine gq_icmp_gtT (tgt := 44) hX dX4_forecastsAgree_18 rfl (nI_lt (by omega) (by decide)) ?_
          refine gq_iinc hX dX4_forecastsAgree_44 rfl rfl (inc1 _) (Nat.le_of_ble_eq_true rfl) rfl ?_
          refine gq_goto (tgt := 2) hX dX4_forecastsAgree_47 rfl ?_
          exact ih (j + 1) (by omega) _ _ hn6 hW6 _
        | succ n2 ih2 =>
          intro h hi2 M6 S6 hn6 hW6
          refine gq_iload_n hX dX4_forecastsAgree_15 rfl rfl rfl ?_
          refine gq_bipush (v := nI 12) hX dX4_forecastsAgree_16 rfl (by decide) ?_
          refine gq_icmp_gtF (tgt := 44) hX dX4_forecastsAgree_18 rfl rfl (nI_nlt (by omega) (by omega)) ?_
          refine gq_aload_n hX dX4_forecastsAgree_21 rfl rfl rfl ?_
          refine gq_iload_n hX dX4_forecastsAgree_22 rfl rfl rfl ?_
          refine gq_iload_n hX dX4_forecastsAgree_23 rfl rfl rfl ?_
          have hfb : ¬ btw (nI h) (nI 0) (nI 24) = 0 := by
            unfold btw
            rw [if_neg (nI_nlt (Nat.zero_le _) (by omega)), if_neg (nI_nlt (by omega) (by omega))]
            decide
          refine gq_callVw hX dX4_forecastsAgree_24 rfl vX4_414 (cr_arrearsAfter_ok hb hW6 hwf hn (by omega) (by omega) hfb) rfl hW6.c0 rfl rfl (Nat.le_of_ble_eq_true rfl) ⟨(Nat.le_of_ble_eq_true rfl), (Nat.le_of_ble_eq_true rfl)⟩ (Nat.zero_add _) (Nat.zero_add _) ?_
          intro M61 hW61
          unfold aftK at hW61
          rw [kSs_2, kSs_2] at hW61
          refine gq_aload_n hX dX4_forecastsAgree_27 rfl rfl rfl ?_
          refine gq_iload_n hX dX4_forecastsAgree_28 rfl rfl rfl ?_
          refine gq_iload_n hX dX4_forecastsAgree_29 rfl rfl rfl ?_
          refine gq_callVe hX dX4_forecastsAgree_30 rfl vX4_417 (cr_arrearsAfterByRate_ok hb hW61 hwf (by omega) _ hfb) rfl hW61.c0 rfl rfl (Nat.le_of_ble_eq_true rfl) ⟨(Nat.le_of_ble_eq_true rfl), (Nat.le_of_ble_eq_true rfl)⟩ (Nat.zero_add _) (Nat.zero_add _) ?_
          refine gq_icmp_eqT (tgt := 38) hX dX4_forecastsAgree_33 rfl (hag j h S6 hn6 (by omega) (by omega)) ?_
          refine gq_iinc hX dX4_forecastsAgree_38 rfl rfl (inc1 _) (Nat.le_of_ble_eq_true rfl) rfl ?_
          refine gq_goto (tgt := 15) hX dX4_forecastsAgree_41 rfl ?_
          exact ih2 (h + 1) (by omega) _ (pasS (copS S6 (K.2.1 0) nc nt no) nt nc h).1 (pasS_nar (copS_nar hn6 hn)) hW61
      exact loop2 13 0 rfl M5 S5 hn5 hW5
  exact loop nc 0 (by omega) M (K.2.1 1) hn1 (by rw [kSs_id]; exact hW) _

set_option maxRecDepth 100000 in
set_option maxHeartbeats 4000000 in
theorem cr_consistent {E : Ev} {b : Nat → Nat} {K : Kt} {M : Hp} (hb : Lay E 162 b) (hW : Wd E b K M) {nc nt no : Nat} (hwf : Wf (K.2.1 0) nc nt no) (hn : Nar (K.2.1 0)) (hn1 : Nar (K.2.1 1)) (hag : ∀ (j h : Nat) (S1 : St), Nar S1 → j < nc → h ≤ 24 → (pasS (copS S1 (K.2.1 0) nc nt no) nt nc h).1.2 2 j = ratI (K.2.1 0) nt j (nI h)) (hro : RenOk (K.2.1 0) nc nt) (hch : (K.2.1 0).1 6 = (K.2.1 0).1 5 + arrSum (K.2.1 0) nc) (hsu : ∀ k, k < no → ∃ a, a < nc ∧ (K.2.1 0).2 9 k = nI a ∧ sumV (K.2.1 0) nc k a (nI 1) = sumM (K.2.1 0) nc k a) : Ct E mX4_isConsistent [.ref (b 0)] M (fun r M1 => r = some (.int (nI 1)) ∧ ∃ S1, Nar S1 ∧ Wd E b (kSs K 1 S1) M1) 0 0 := by
  refine Ct.of gmX4_isConsistent (ls := [.ref (b 0)]) rfl rfl (Nat.le_of_ble_eq_true rfl) ?_
  intro X hX Q hQ
  have hwf2 := hwf
  obtain ⟨hnc, hncl, hnt, hntl, hno, hnol⟩ := hwf2
  refine gq_aload_n hX dX4_isConsistent_0 rfl rfl rfl ?_
  refine gq_getf hX dX4_isConsistent_1 rfl fX4_10 hW.c0 rfl ?_
  refine gq_getf hX dX4_isConsistent_4 rfl fX4_289 (hW.s0 (i := 0) (by decide)) rfl ?_
  refine gq_aload_n hX dX4_isConsistent_7 rfl rfl rfl ?_
  refine gq_getf hX dX4_isConsistent_8 rfl fX4_10 hW.c0 rfl ?_
  refine gq_getf hX dX4_isConsistent_11 rfl fX4_286 (hW.s0 (i := 0) (by decide)) rfl ?_
  refine gq_aload_n hX dX4_isConsistent_14 rfl rfl rfl ?_
  refine gq_getf hX dX4_isConsistent_15 rfl fX4_10 hW.c0 rfl ?_
  refine gq_callVe hX dX4_isConsistent_18 rfl vX4_363 (Ct.rdS hb hW (i := 0) (by decide) rfl (ct_sumOfArrears (hb.bS (i := 0) (by decide)) hwf)) rfl (hW.s0 (i := 0) (by decide)) rfl rfl (Nat.le_of_ble_eq_true rfl) ⟨(Nat.le_of_ble_eq_true rfl), (Nat.le_of_ble_eq_true rfl)⟩ (Nat.zero_add _) (Nat.zero_add _) ?_
  refine gq_iadd hX dX4_isConsistent_21 rfl ?_
  refine gq_icmp_neF (tgt := 56) hX dX4_isConsistent_22 rfl rfl hch ?_
  refine gq_aload_n hX dX4_isConsistent_25 rfl rfl rfl ?_
  refine gq_getf hX dX4_isConsistent_26 rfl fX4_10 hW.c0 rfl ?_
  refine gq_callVe hX dX4_isConsistent_29 rfl vX4_371 (Ct.rdS hb hW (i := 0) (by decide) rfl (ct_allRentersFly (hb.bS (i := 0) (by decide)) hwf hro)) rfl (hW.s0 (i := 0) (by decide)) rfl rfl (Nat.le_of_ble_eq_true rfl) ⟨(Nat.le_of_ble_eq_true rfl), (Nat.le_of_ble_eq_true rfl)⟩ (Nat.zero_add _) (Nat.zero_add _) ?_
  refine gq_if_eqF (tgt := 56) hX dX4_isConsistent_32 rfl rfl (by decide) ?_
  refine gq_aload_n hX dX4_isConsistent_35 rfl rfl rfl ?_
  refine gq_getf hX dX4_isConsistent_36 rfl fX4_10 hW.c0 rfl ?_
  refine gq_callVe hX dX4_isConsistent_39 rfl vX4_374 (Ct.rdS hb hW (i := 0) (by decide) rfl (ct_sumsForAgree (hb.bS (i := 0) (by decide)) hwf hsu)) rfl (hW.s0 (i := 0) (by decide)) rfl rfl (Nat.le_of_ble_eq_true rfl) ⟨(Nat.le_of_ble_eq_true rfl), (Nat.le_of_ble_eq_true rfl)⟩ (Nat.zero_add _) (Nat.zero_add _) ?_
  refine gq_if_eqF (tgt := 56) hX dX4_isConsistent_42 rfl rfl (by decide) ?_
  refine gq_aload_n hX dX4_isConsistent_45 rfl rfl rfl ?_
  refine gq_callV (nc1 := 0) (ns1 := 0) hX dX4_isConsistent_46 vX4_377 (cq_forecasts hb hW hwf hn hn1 hag) rfl hW.c0 rfl rfl (Nat.le_of_ble_eq_true rfl) ⟨(Nat.le_of_ble_eq_true rfl), (Nat.le_of_ble_eq_true rfl)⟩ rfl rfl ?_
  rintro r M1 ⟨rfl, S1, hn9, hW9⟩
  refine gq_if_eqF (tgt := 56) hX dX4_isConsistent_49 rfl rfl (by decide) ?_
  refine gq_iconst (v := nI 1) hX dX4_isConsistent_52 rfl (by decide) ?_
  refine gq_goto (tgt := 57) hX dX4_isConsistent_53 rfl ?_
  exact gq_zret hX hQ dX4_isConsistent_57 rfl rfl ⟨rfl, S1, hn9, hW9⟩

