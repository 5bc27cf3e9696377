theorem pAll_all {l : Ln} : ∀ (k a : Nat) (e : Nat × List Nat), e ∈ (pAll l k a).2.2 → e.1 < 13 ∧ e.2.length = arN e.1
  | 0, a, e, h => nomatch h
  | k + 1, a, e, h => by
    by_cases hc : (cmdM l a).1 = true
    · rcases Bool.eq_false_or_eq_true (nx l (cmdM l a).2.1 59) with h9 | h9
      · rw [pAll_y hc h9] at h
        rcases List.mem_cons.mp h with h1 | h1
        · subst h1
          exact cm_len hc
        · exact pAll_all k _ e h1
      · rw [pAll_e hc (by rw [h9]; decide)] at h
        rcases List.mem_cons.mp h with h1 | h1
        · subst h1
          exact cm_len hc
        · exact nomatch h1
    · rw [pAll_n hc] at h
      exact nomatch h
theorem exL_cnt : ∀ (cs : List (Nat × List Nat)) (σ : Sg) (i : Nat), (exL cs σ i).2.2 = 0 → (exL cs σ i).2.1 = i + cs.length
  | [], σ, i, _ => rfl
  | c :: cs, σ, i, h => by
    by_cases h0 : xFL σ c = 0
    · have e : exL (c :: cs) σ i = exL cs (xDL σ c) (i + 1) := if_pos h0
      rw [e] at h ⊢
      rw [exL_cnt cs _ _ h, List.length_cons]
      omega
    · have e : exL (c :: cs) σ i = (σ, i, xFL σ c) := if_neg h0
      rw [e] at h
      exact absurd h h0
theorem payC {ds : List (Nat × List Nat)} {kd pm : Nat → Int32} (h : DsP ds kd pm) {q : Nat} (hq : q < ds.length) {e : Nat × List Nat} (he : ds.getD q (0, []) = e) (h13 : e.1 < 13) (hl : e.2.length = arN e.1) (σ : Sg) : kd q = nI e.1 ∧ xF σ e.1 (pm (2 * q)) (pm (2 * q + 1)) = xFL σ e ∧ xD σ e.1 (pm (2 * q)) (pm (2 * q + 1)) = xDL σ e := by
  obtain ⟨g1, g2, g3⟩ := h q hq
  rw [he] at g1 g2 g3
  have h1 : 1 ≤ arN e.1 := by unfold arN; split <;> omega
  have e0 : pm (2 * q) = nI (e.2.getD 0 0) := g3 0 (by omega)
  unfold xFL xDL
  rw [e0]
  by_cases h2 : arN e.1 = 1
  · exact ⟨g1, xF_irr h13 h2, xD_irr h13 h2⟩
  · have e1 := g3 1 (by have := arN_le e.1; omega)
    rw [e1]
    exact ⟨g1, rfl, rfl⟩
theorem getD_in {ds : List (Nat × List Nat)} {q : Nat} (h : q < ds.length) : ds.getD q (0, []) ∈ ds ∧ ds.drop q = ds.getD q (0, []) :: ds.drop (q + 1) := by
  rw [List.getD_eq_getElem?_getD, List.getElem?_eq_getElem h]
  exact ⟨List.getElem_mem h, List.drop_eq_getElem_cons h⟩
/-- the world behind a text that was read and emptied -/
def rnK (K : Kt) (n a : Nat) (kd pm : Nat → Int32) : Kt := kTx (rdK (kSc K 6 (nI n)) a kd pm) 0 lnz

set_option maxRecDepth 100000 in
set_option maxHeartbeats 4000000 in
theorem cr_loop {E : Ev} {b : Nat → Nat} {X : Cx0} {Q : State → Prop} {nc ns : Nat} (hb : Lay E 162 b) (hX : Cx E X mX4_run) {Kc : Kt} {ds : List (Nat × List Nat)} (h6 : Kc.1 6 = nI ds.length) (hn60 : ds.length ≤ 60) (hds : DsP ds (Kc.2.2.1 0) (Kc.2.2.1 1)) (hal : ∀ e, e ∈ ds → e.1 < 13 ∧ e.2.length = arN e.1) {v1 : Int32} {σ0 : Sg}
    (kOk : ∀ M1 z, Wd E b (kSs Kc 0 (exL ds σ0 0).1.1) M1 → (exL ds σ0 0).2.2 = 0 → Gq E X mX4_run Q 132 [.ref (b 0), .int v1, .int (nI ds.length), z] [] M1 nc ns)
    (kF : ∀ M1, Wd E b (kSs Kc 0 (exL ds σ0 0).1.1) M1 → ¬ (exL ds σ0 0).2.2 = 0 → (∃ B, OkS (exL ds σ0 0).1 B) → Gq E X mX4_run Q 82 [.ref (b 0), .int v1, .int (nI (exL ds σ0 0).2.1), .int (exL ds σ0 0).2.2] [] M1 nc ns) :
    ∀ (k i : Nat) (σ : Sg) (B : Nat) (M : Hp) (z : Value), i + k = ds.length → OkS σ B → B + 1000 * k < 2 ^ 28 → exL ds σ0 0 = exL (ds.drop i) σ i → Wd E b (kSs Kc 0 σ.1) M → Gq E X mX4_run Q 54 [.ref (b 0), .int v1, .int (nI i), z] [] M nc ns := by
  intro k
  induction k with
  | zero =>
    intro i σ B M z hik hok hB he hW
    refine gq_iload_n hX dX4_run_54 rfl rfl rfl ?_
    refine gq_aload_n hX dX4_run_55 rfl rfl rfl ?_
    refine gq_getf hX dX4_run_56 rfl fX4_36 hW.c0 rfl ?_
    refine gq_getf hX dX4_run_59 rfl fX4_315 hW.c3 rfl ?_
    rw [show (kSs Kc 0 σ.1).1 6 = nI ds.length from h6]
    refine gq_icmp_geT (tgt := 132) hX dX4_run_62 rfl (nI_le (by omega) (by omega)) ?_
    have hi : i = ds.length := by omega
    subst hi
    rw [List.drop_length] at he
    have he2 : exL ds σ0 0 = (σ, ds.length, nI 0) := he
    exact kOk M z (by rw [he2]; exact hW) (by rw [he2]; rfl)
  | succ k ih =>
    intro i σ B M z hik hok hB he hW
    refine gq_iload_n hX dX4_run_54 rfl rfl rfl ?_
    refine gq_aload_n hX dX4_run_55 rfl rfl rfl ?_
    refine gq_getf hX dX4_run_56 rfl fX4_36 hW.c0 rfl ?_
    refine gq_getf hX dX4_run_59 rfl fX4_315 hW.c3 rfl ?_
    rw [show (kSs Kc 0 σ.1).1 6 = nI ds.length from h6]
    refine gq_icmp_geF (tgt := 132) hX dX4_run_62 rfl rfl (nI_ge (by omega) (by omega)) ?_
    obtain ⟨hin, hdr⟩ := getD_in (ds := ds) (q := i) (by omega)
    obtain ⟨e, hee⟩ : ∃ e, e = ds.getD i (0, []) := ⟨_, rfl⟩
    rw [← hee] at hin hdr
    obtain ⟨h13, hlen⟩ := hal e hin
    obtain ⟨hk, hpf, hpd⟩ := payC hds (by omega) hee.symm h13 hlen σ
    rw [hdr] at he
    have hcn : Ct E mX0_faultOf [.ref (b 3), .int (nI i), .ref (bS b 0 0)] M (eqR (some (.int (xFL σ e))) M) 0 0 := by
      rw [← hpf]
      exact cn_all (nc := σ.2.1) (nt := σ.2.2.1) (no := σ.2.2.2) hb hW hok.1 (by omega) h13 hk rfl rfl
    refine gq_aload_n hX dX4_run_65 rfl rfl rfl ?_
    refine gq_getf hX dX4_run_66 rfl fX4_36 hW.c0 rfl ?_
    refine gq_iload_n hX dX4_run_69 rfl rfl rfl ?_
    refine gq_aload_n hX dX4_run_70 rfl rfl rfl ?_
    refine gq_getf hX dX4_run_71 rfl fX4_10 hW.c0 rfl ?_
    refine gq_callVe hX dX4_run_74 rfl vX4_318 (hcn) rfl hW.c3 rfl rfl (Nat.le_of_ble_eq_true rfl) ⟨(Nat.le_of_ble_eq_true rfl), (Nat.le_of_ble_eq_true rfl)⟩ (Nat.zero_add _) (Nat.zero_add _) ?_
    refine gq_istore_n hX dX4_run_77 rfl rfl (Nat.le_of_ble_eq_true rfl) rfl ?_
    refine gq_iload_n hX dX4_run_78 rfl rfl rfl ?_
    by_cases h0 : xFL σ e = 0
    · have he2 : exL ds σ0 0 = exL (ds.drop (i + 1)) (xDL σ e) (i + 1) := he.trans (if_pos h0)
      have hcd : Ct E mX0_carryOut [.ref (b 3), .int (nI i), .ref (bS b 0 0)] M (WR E b none (kSs Kc 0 (xDL σ e).1)) 0 0 := by
        refine (cd_all (nc := σ.2.1) (nt := σ.2.2.1) (no := σ.2.2.2) (B := B) hb hW hok (q := i) (by omega) h13 hk rfl rfl (hpf.trans h0)).imp ?_
        rintro v M1 ⟨rfl, h⟩
        refine ⟨rfl, ?_⟩
        rw [kSs_2] at h
        rw [← hpd]
        exact h
      refine gq_if_eqT (tgt := 114) hX dX4_run_79 rfl h0 ?_
      refine gq_aload_n hX dX4_run_114 rfl rfl rfl ?_
      refine gq_getf hX dX4_run_115 rfl fX4_36 hW.c0 rfl ?_
      refine gq_iload_n hX dX4_run_118 rfl rfl rfl ?_
      refine gq_aload_n hX dX4_run_119 rfl rfl rfl ?_
      refine gq_getf hX dX4_run_120 rfl fX4_10 hW.c0 rfl ?_
      refine gq_callVw hX dX4_run_123 rfl vX4_324 (hcd) rfl hW.c3 rfl rfl (Nat.le_of_ble_eq_true rfl) ⟨(Nat.le_of_ble_eq_true rfl), (Nat.le_of_ble_eq_true rfl)⟩ (Nat.zero_add _) (Nat.zero_add _) ?_
      intro M11 hW11
      refine gq_iinc hX dX4_run_126 rfl rfl (inc1 _) (Nat.le_of_ble_eq_true rfl) rfl ?_
      refine gq_goto (tgt := 54) hX dX4_run_129 rfl ?_
      exact ih (i + 1) (xDL σ e) (B + 1000) _ _ (by omega) (hok.xD (by omega) h0) (by omega) he2 hW11
    · refine gq_if_eqF (tgt := 114) hX dX4_run_79 rfl rfl h0 ?_
      have he2 : exL ds σ0 0 = (σ, i, xFL σ e) := he.trans (if_neg h0)
      have h9 := kF M (by rw [he2]; exact hW) (by rw [he2]; exact h0) ⟨B, by rw [he2]; exact hok⟩
      rw [he2] at h9
      exact h9

set_option maxRecDepth 100000 in
set_option maxHeartbeats 4000000 in
theorem ck_run_bad {E : Ev} {b : Nat → Nat} {K : Kt} {M : Hp} (hb : Lay E 162 b) (hW : Wd E b K M) (hl : (K.2.2.2.1 0).2 ≤ 60) (hp : (pAll (K.2.2.2.1 0) 60 0).1 = false) : CtX E mX4_run [.ref (b 0)] M NoR (fun y M1 => y = "java/lang/IllegalArgumentException" ∧ ∃ kd pm, Wd E b (kSc (rnK K (pAll (K.2.2.2.1 0) 60 0).2.2.length (pAll (K.2.2.2.1 0) 60 0).2.1 kd pm) 1 (nI (pAll (K.2.2.2.1 0) 60 0).2.1)) M1) 2 148 := by
  refine CtX.of gmX4_run (ls := [.ref (b 0), hole, hole, hole]) rfl rfl (Nat.le_of_ble_eq_true rfl) ?_
  intro X hX Q hQ hQ2
  refine gq_aload_n hX dX4_run_0 rfl rfl rfl ?_
  refine gq_getf hX dX4_run_1 rfl fX4_36 hW.c0 rfl ?_
  refine gq_callV (mc := 0) (ms := 0) (nc1 := 2) (ns1 := 148) hX dX4_run_4 vX4_304 (cp_text hb hW hl) rfl hW.c3 rfl rfl (Nat.le_of_ble_eq_true rfl) ⟨(Nat.le_of_ble_eq_true rfl), (Nat.le_of_ble_eq_true rfl)⟩ rfl rfl ?_
  rintro v M2 ⟨rfl, kd, pm, hW2, hn60, hds⟩
  refine gq_istore_n hX dX4_run_7 rfl rfl (Nat.le_of_ble_eq_true rfl) rfl ?_
  refine gq_aload_n hX dX4_run_8 rfl rfl rfl ?_
  refine gq_getf hX dX4_run_9 rfl fX4_36 hW2.c0 rfl ?_
  refine gq_callVw (mc := 1) (ms := 142) (nc1 := 1) (ns1 := 6) hX dX4_run_12 rfl vX4_307 (cc_clear hb hW2) rfl hW2.c3 rfl rfl (Nat.le_of_ble_eq_true rfl) ⟨(Nat.le_of_ble_eq_true rfl), (Nat.le_of_ble_eq_true rfl)⟩ rfl rfl ?_
  intro M3 hW3
  rw [show kTx (rdK (kSc K 6 (nI (pAll (K.2.2.2.1 0) 60 0).2.2.length)) (pAll (K.2.2.2.1 0) 60 0).2.1 kd pm) 0 lnz = (rnK K (pAll (K.2.2.2.1 0) 60 0).2.2.length (pAll (K.2.2.2.1 0) 60 0).2.1 kd pm) from rfl] at hW3
  refine gq_iload_n hX dX4_run_15 rfl rfl rfl ?_
  rw [hp, if_neg (by decide)]
  refine gq_if_neF (tgt := 41) hX dX4_run_16 rfl rfl rfl ?_
  refine gq_aload_n hX dX4_run_19 rfl rfl rfl ?_
  refine gq_aload_n hX dX4_run_20 rfl rfl rfl ?_
  refine gq_getf hX dX4_run_21 rfl fX4_36 hW3.c0 rfl ?_
  refine gq_getf hX dX4_run_24 rfl fX4_310 hW3.c3 rfl ?_
  rw [show (rnK K (pAll (K.2.2.2.1 0) 60 0).2.2.length (pAll (K.2.2.2.1 0) 60 0).2.1 kd pm).1 7 = nI (pAll (K.2.2.2.1 0) 60 0).2.1 from rfl]
  refine gq_putW hX dX4_run_27 rfl fX4_40 rfl rfl rfl hW3.c0 (Nat.le_of_ble_eq_true rfl) (hb.2 0 (by decide)) (hW3.w0_6 hb _) ?_
  intro M4 hW4
  exact gq_throwW hX hQ2 rfl th61 rfl (List.mem_of_getElem? (i := 26) rfl) dX4_run_30 dX4_run_33 dX4_run_34 dX4_run_37 dX4_run_40 (Nat.le_of_ble_eq_true rfl) (Nat.le_of_ble_eq_true rfl) (Nat.le_of_ble_eq_true rfl) (Nat.le_of_ble_eq_true rfl) ⟨rfl, kd, pm, hW4⟩

set_option maxRecDepth 100000 in
set_option maxHeartbeats 4000000 in
theorem ck_run_ok {E : Ev} {b : Nat → Nat} {K : Kt} {M : Hp} (hb : Lay E 162 b) (hW : Wd E b K M) (hl : (K.2.2.2.1 0).2 ≤ 60) {nc nt no B : Nat} (hok : Ok (K.2.1 0) nc nt no B) (hB : B + 100000 < 2 ^ 28) (hp : (pAll (K.2.2.2.1 0) 60 0).1 = true) (hn1 : Nar (K.2.1 1)) {nx kp : Nat} (hr : RgC K nx kp) (hf : (exL (pAll (K.2.2.2.1 0) 60 0).2.2 ((K.2.1 0), nc, nt, no) 0).2.2 = 0) : Ct E mX4_run [.ref (b 0)] M (fun r M1 => r = some (.int (nI (exL (pAll (K.2.2.2.1 0) 60 0).2.2 ((K.2.1 0), nc, nt, no) 0).2.1)) ∧ ∃ kd pm, Wd E b (keepK (kSs (kSs (rnK K (pAll (K.2.2.2.1 0) 60 0).2.2.length (pAll (K.2.2.2.1 0) 60 0).2.1 kd pm) 1 (copS (K.2.1 1) (K.2.1 0) nc nt no)) 0 (exL (pAll (K.2.2.2.1 0) 60 0).2.2 ((K.2.1 0), nc, nt, no) 0).1.1) 1 nx kp nc nt no) M1) 2 148 := by
  refine Ct.of gmX4_run (ls := [.ref (b 0), hole, hole, hole]) rfl rfl (Nat.le_of_ble_eq_true rfl) ?_
  intro X hX Q hQ
  refine gq_aload_n hX dX4_run_0 rfl rfl rfl ?_
  refine gq_getf hX dX4_run_1 rfl fX4_36 hW.c0 rfl ?_
  refine gq_callV (mc := 0) (ms := 0) (nc1 := 2) (ns1 := 148) hX dX4_run_4 vX4_304 (cp_text hb hW hl) rfl hW.c3 rfl rfl (Nat.le_of_ble_eq_true rfl) ⟨(Nat.le_of_ble_eq_true rfl), (Nat.le_of_ble_eq_true rfl)⟩ rfl rfl ?_
  rintro v M2 ⟨rfl, kd, pm, hW2, hn60, hds⟩
  refine gq_istore_n hX dX4_run_7 rfl rfl (Nat.le_of_ble_eq_true rfl) rfl ?_
  refine gq_aload_n hX dX4_run_8 rfl rfl rfl ?_
  refine gq_getf hX dX4_run_9 rfl fX4_36 hW2.c0 rfl ?_
  refine gq_callVw (mc := 1) (ms := 142) (nc1 := 1) (ns1 := 6) hX dX4_run_12 rfl vX4_307 (cc_clear hb hW2) rfl hW2.c3 rfl rfl (Nat.le_of_ble_eq_true rfl) ⟨(Nat.le_of_ble_eq_true rfl), (Nat.le_of_ble_eq_true rfl)⟩ rfl rfl ?_
  intro M3 hW3
  rw [show kTx (rdK (kSc K 6 (nI (pAll (K.2.2.2.1 0) 60 0).2.2.length)) (pAll (K.2.2.2.1 0) 60 0).2.1 kd pm) 0 lnz = (rnK K (pAll (K.2.2.2.1 0) 60 0).2.2.length (pAll (K.2.2.2.1 0) 60 0).2.1 kd pm) from rfl] at hW3
  refine gq_iload_n hX dX4_run_15 rfl rfl rfl ?_
  rw [hp, if_pos rfl]
  refine gq_if_neT (tgt := 41) hX dX4_run_16 rfl (by decide) ?_
  refine gq_aload_n hX dX4_run_41 rfl rfl rfl ?_
  refine gq_getf hX dX4_run_42 rfl fX4_16 hW3.c0 rfl ?_
  refine gq_aload_n hX dX4_run_45 rfl rfl rfl ?_
  refine gq_getf hX dX4_run_46 rfl fX4_10 hW3.c0 rfl ?_
  refine gq_callVw hX dX4_run_49 rfl vX4_266 (Ct.cpW hb hW3 (i := 1) (j := 0) (by decide) (by decide) (by decide) hok.1 hok.2.1) rfl (hW3.s0 (i := 1) (by decide)) rfl rfl (Nat.le_of_ble_eq_true rfl) ⟨(Nat.le_of_ble_eq_true rfl), (Nat.le_of_ble_eq_true rfl)⟩ (Nat.zero_add _) (Nat.zero_add _) ?_
  intro M4 hW4
  refine gq_iconst (v := nI 0) hX dX4_run_52 rfl (by decide) ?_
  refine gq_istore_n hX dX4_run_53 rfl rfl (Nat.le_of_ble_eq_true rfl) rfl ?_
  obtain ⟨Kc, hKc⟩ : ∃ z, z = (kSs (rnK K (pAll (K.2.2.2.1 0) 60 0).2.2.length (pAll (K.2.2.2.1 0) 60 0).2.1 kd pm) 1 (copS (K.2.1 1) (K.2.1 0) nc nt no)) := ⟨_, rfl⟩
  have hWc : Wd E b (kSs Kc 0 (K.2.1 0)) M4 := by
    have e : kSs Kc 0 (K.2.1 0) = Kc := by
      have e2 : Kc.2.1 0 = (K.2.1 0) := by rw [hKc]; rfl
      rw [← e2]
      exact kSs_id
    rw [e, hKc]
    exact hW4
  have h6 : Kc.1 6 = nI (pAll (K.2.2.2.1 0) 60 0).2.2.length := by rw [hKc]; rfl
  have hds2 : DsP (pAll (K.2.2.2.1 0) 60 0).2.2 (Kc.2.2.1 0) (Kc.2.2.1 1) := by rw [hKc]; exact hds
  refine cr_loop hb hX (Kc := Kc) (ds := (pAll (K.2.2.2.1 0) 60 0).2.2) h6 hn60 hds2 (pAll_all 60 0) (σ0 := ((K.2.1 0), nc, nt, no)) ?_ ?_ (pAll (K.2.2.2.1 0) 60 0).2.2.length 0 ((K.2.1 0), nc, nt, no) B _ _ (by omega) hok (by omega) rfl hWc
  · intro M8 z hW8 h0
    refine gq_aload_n hX dX4_run_132 rfl rfl rfl ?_
    refine gq_getf hX dX4_run_133 rfl fX4_29 hW8.c0 rfl ?_
    refine gq_aload_n hX dX4_run_136 rfl rfl rfl ?_
    refine gq_getf hX dX4_run_137 rfl fX4_16 hW8.c0 rfl ?_
    refine gq_callVw hX dX4_run_140 rfl vX4_73 (ch_keep1 hb hW8 (by show Wf (Kc.2.1 1) nc nt no; rw [hKc]; exact copS_wf hok.1) (by show Nar (Kc.2.1 1); rw [hKc]; exact copS_nar hn1 hok.2.1) (nx := nx) (kp := kp) (by show RgC Kc nx kp; rw [hKc]; exact hr)) rfl hW8.c1 rfl rfl (Nat.le_of_ble_eq_true rfl) ⟨(Nat.le_of_ble_eq_true rfl), (Nat.le_of_ble_eq_true rfl)⟩ (Nat.zero_add _) (Nat.zero_add _) ?_
    intro M9 hW9
    refine gq_aload_n hX dX4_run_143 rfl rfl rfl ?_
    refine gq_getf hX dX4_run_144 rfl fX4_36 hW9.c0 rfl ?_
    refine gq_getf hX dX4_run_147 rfl fX4_315 hW9.c3 rfl ?_
    rw [show (keepK (kSs Kc 0 (exL (pAll (K.2.2.2.1 0) 60 0).2.2 ((K.2.1 0), nc, nt, no) 0).1.1) 1 nx kp nc nt no).1 6 = nI (pAll (K.2.2.2.1 0) 60 0).2.2.length from h6]
    have hc : (exL (pAll (K.2.2.2.1 0) 60 0).2.2 ((K.2.1 0), nc, nt, no) 0).2.1 = (pAll (K.2.2.2.1 0) 60 0).2.2.length := (exL_cnt _ _ _ h0).trans (Nat.zero_add _)
    rw [← hc]
    refine gq_iret hX hQ dX4_run_150 rfl ⟨rfl, kd, pm, ?_⟩
    rw [hKc] at hW9
    exact hW9
  · intro M8 hW8 h0
    exact absurd hf h0

set_option maxRecDepth 100000 in
set_option maxHeartbeats 4000000 in
theorem ck_run_fail {E : Ev} {b : Nat → Nat} {K : Kt} {M : Hp} (hb : Lay E 162 b) (hW : Wd E b K M) (hl : (K.2.2.2.1 0).2 ≤ 60) {nc nt no B : Nat} (hok : Ok (K.2.1 0) nc nt no B) (hB : B + 100000 < 2 ^ 28) (hp : (pAll (K.2.2.2.1 0) 60 0).1 = true) (hn1 : Nar (K.2.1 1)) (hf : ¬ (exL (pAll (K.2.2.2.1 0) 60 0).2.2 ((K.2.1 0), nc, nt, no) 0).2.2 = 0) : CtX E mX4_run [.ref (b 0)] M NoR (fun y M1 => y = "java/lang/IllegalStateException" ∧ ∃ kd pm, Wd E b (kSc (kSc (kSs (kSs (kSs (rnK K (pAll (K.2.2.2.1 0) 60 0).2.2.length (pAll (K.2.2.2.1 0) 60 0).2.1 kd pm) 1 (copS (K.2.1 1) (K.2.1 0) nc nt no)) 0 (exL (pAll (K.2.2.2.1 0) 60 0).2.2 ((K.2.1 0), nc, nt, no) 0).1.1) 0 (copS (exL (pAll (K.2.2.2.1 0) 60 0).2.2 ((K.2.1 0), nc, nt, no) 0).1.1 (copS (K.2.1 1) (K.2.1 0) nc nt no) nc nt no)) 2 (nI (exL (pAll (K.2.2.2.1 0) 60 0).2.2 ((K.2.1 0), nc, nt, no) 0).2.1)) 3 (exL (pAll (K.2.2.2.1 0) 60 0).2.2 ((K.2.1 0), nc, nt, no) 0).2.2) M1) 2 148 := by
  refine CtX.of gmX4_run (ls := [.ref (b 0), hole, hole, hole]) rfl rfl (Nat.le_of_ble_eq_true rfl) ?_
  intro X hX Q hQ hQ2
  refine gq_aload_n hX dX4_run_0 rfl rfl rfl ?_
  refine gq_getf hX dX4_run_1 rfl fX4_36 hW.c0 rfl ?_
  refine gq_callV (mc := 0) (ms := 0) (nc1 := 2) (ns1 := 148) hX dX4_run_4 vX4_304 (cp_text hb hW hl) rfl hW.c3 rfl rfl (Nat.le_of_ble_eq_true rfl) ⟨(Nat.le_of_ble_eq_true rfl), (Nat.le_of_ble_eq_true rfl)⟩ rfl rfl ?_
  rintro v M2 ⟨rfl, kd, pm, hW2, hn60, hds⟩
  refine gq_istore_n hX dX4_run_7 rfl rfl (Nat.le_of_ble_eq_true rfl) rfl ?_
  refine gq_aload_n hX dX4_run_8 rfl rfl rfl ?_
  refine gq_getf hX dX4_run_9 rfl fX4_36 hW2.c0 rfl ?_
  refine gq_callVw (mc := 1) (ms := 142) (nc1 := 1) (ns1 := 6) hX dX4_run_12 rfl vX4_307 (cc_clear hb hW2) rfl hW2.c3 rfl rfl (Nat.le_of_ble_eq_true rfl) ⟨(Nat.le_of_ble_eq_true rfl), (Nat.le_of_ble_eq_true rfl)⟩ rfl rfl ?_
  intro M3 hW3
  rw [show kTx (rdK (kSc K 6 (nI (pAll (K.2.2.2.1 0) 60 0).2.2.length)) (pAll (K.2.2.2.1 0) 60 0).2.1 kd pm) 0 lnz = (rnK K (pAll (K.2.2.2.1 0) 60 0).2.2.length (pAll (K.2.2.2.1 0) 60 0).2.1 kd pm) from rfl] at hW3
  refine gq_iload_n hX dX4_run_15 rfl rfl rfl ?_
  rw [hp, if_pos rfl]
  refine gq_if_neT (tgt := 41) hX dX4_run_16 rfl (by decide) ?_
  refine gq_aload_n hX dX4_run_41 rfl rfl rfl ?_
  refine gq_getf hX dX4_run_42 rfl fX4_16 hW3.c0 rfl ?_
  refine gq_aload_n hX dX4_run_45 rfl rfl rfl ?_
  refine gq_getf hX dX4_run_46 rfl fX4_10 hW3.c0 rfl ?_
  refine gq_callVw hX dX4_run_49 rfl vX4_266 (Ct.cpW hb hW3 (i := 1) (j := 0) (by decide) (by decide) (by decide) hok.1 hok.2.1) rfl (hW3.s0 (i := 1) (by decide)) rfl rfl (Nat.le_of_ble_eq_true rfl) ⟨(Nat.le_of_ble_eq_true rfl), (Nat.le_of_ble_eq_true rfl)⟩ (Nat.zero_add _) (Nat.zero_add _) ?_
  intro M4 hW4
  refine gq_iconst (v := nI 0) hX dX4_run_52 rfl (by decide) ?_
  refine gq_istore_n hX dX4_run_53 rfl rfl (Nat.le_of_ble_eq_true rfl) rfl ?_
  obtain ⟨Kc, hKc⟩ : ∃ z, z = (kSs (rnK K (pAll (K.2.2.2.1 0) 60 0).2.2.length (pAll (K.2.2.2.1 0) 60 0).2.1 kd pm) 1 (copS (K.2.1 1) (K.2.1 0) nc nt no)) := ⟨_, rfl⟩
  have hWc : Wd E b (kSs Kc 0 (K.2.1 0)) M4 := by
    have e : kSs Kc 0 (K.2.1 0) = Kc := by
      have e2 : Kc.2.1 0 = (K.2.1 0) := by rw [hKc]; rfl
      rw [← e2]
      exact kSs_id
    rw [e, hKc]
    exact hW4
  have h6 : Kc.1 6 = nI (pAll (K.2.2.2.1 0) 60 0).2.2.length := by rw [hKc]; rfl
  have hds2 : DsP (pAll (K.2.2.2.1 0) 60 0).2.2 (Kc.2.2.1 0) (Kc.2.2.1 1) := by rw [hKc]; exact hds
  refine cr_loop hb hX (Kc := Kc) (ds := (pAll (K.2.2.2.1 0) 60 0).2.2) h6 hn60 hds2 (pAll_all 60 0) (σ0 := ((K.2.1 0), nc, nt, no)) ?_ ?_ (pAll (K.2.2.2.1 0) 60 0).2.2.length 0 ((K.2.1 0), nc, nt, no) B _ _ (by omega) hok (by omega) rfl hWc
  · intro M8 z hW8 h0
    exact absurd h0 hf
  · intro M8 hW8 h0 hok8
    obtain ⟨B8, hok8⟩ := hok8
    refine gq_aload_n hX dX4_run_82 rfl rfl rfl ?_
    refine gq_getf hX dX4_run_83 rfl fX4_10 hW8.c0 rfl ?_
    refine gq_aload_n hX dX4_run_86 rfl rfl rfl ?_
    refine gq_getf hX dX4_run_87 rfl fX4_16 hW8.c0 rfl ?_
    refine gq_callVw hX dX4_run_90 rfl vX4_266 (Ct.cpW hb hW8 (i := 0) (j := 1) (nc := nc) (nt := nt) (no := no) (by decide) (by decide) (by decide) (by show Wf (Kc.2.1 1) nc nt no; rw [hKc]; exact copS_wf hok.1) (by show Nar (Kc.2.1 1); rw [hKc]; exact copS_nar hn1 hok.2.1)) rfl (hW8.s0 (i := 0) (by decide)) rfl rfl (Nat.le_of_ble_eq_true rfl) ⟨(Nat.le_of_ble_eq_true rfl), (Nat.le_of_ble_eq_true rfl)⟩ (Nat.zero_add _) (Nat.zero_add _) ?_
    intro M9 hW9
    refine gq_aload_n hX dX4_run_93 rfl rfl rfl ?_
    refine gq_iload_n hX dX4_run_94 rfl rfl rfl ?_
    refine gq_putW hX dX4_run_95 rfl fX4_44 rfl rfl rfl hW9.c0 (Nat.le_of_ble_eq_true rfl) (hb.2 0 (by decide)) (hW9.w0_7 hb _) ?_
    intro M10 hW10
    refine gq_aload_n hX dX4_run_98 rfl rfl rfl ?_
    refine gq_iload_n hX dX4_run_99 rfl rfl rfl ?_
    refine gq_putW hX dX4_run_100 rfl fX4_47 rfl rfl rfl hW10.c0 (Nat.le_of_ble_eq_true rfl) (hb.2 0 (by decide)) (hW10.w0_8 hb _) ?_
    intro M11 hW11
    skip
    exact gq_throwW hX hQ2 rfl th68 rfl (List.mem_of_getElem? (i := 27) rfl) dX4_run_103 dX4_run_106 dX4_run_107 dX4_run_110 dX4_run_113 (Nat.le_of_ble_eq_true rfl) (Nat.le_of_ble_eq_true rfl) (Nat.le_of_ble_eq_true rfl) (Nat.le_of_ble_eq_true rfl) ⟨rfl, kd, pm, by rw [hKc] at hW11; exact hW11⟩

