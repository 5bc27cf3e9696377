def itR (u : Nat → Int32) (to : Nat) (g : Nat → Int32) (n : Nat) : Nat → Int32 := fun i => if 91 * to ≤ i ∧ i < 91 * to + n then g (i - 91 * to) else u i
theorem itR_0 {u g : Nat → Int32} {to : Nat} : itR u to g 0 = u := funext fun i => if_neg (by omega)
theorem itR_s {u g : Nat → Int32} {to n : Nat} : upd (itR u to g n) (91 * to + n) (g n) = itR u to g (n + 1) := by
  funext i
  by_cases e : i = 91 * to + n
  · subst e
    rw [upd_s]
    unfold itR
    rw [if_pos (by omega), show 91 * to + n - 91 * to = n by omega]
  · rw [upd_n _ e]
    unfold itR
    by_cases h2 : 91 * to ≤ i ∧ i < 91 * to + n
    · rw [if_pos h2, if_pos (by omega)]
    · rw [if_neg h2, if_neg (by omega)]
def fcN (f c : Nat) : Nat := if c = 8 then (f + 1) % 8 else f
def ccN (c : Nat) : Nat := if c = 8 then 7 else c
/-- a row more in the ring -/
def keepT (T : St) (f c : Nat) : St := setS (setA (setS (setS T 2 (nI (fcN f c))) 1 (nI (ccN c))) 2 (itR (T.2 2) ((fcN f c + ccN c) % 8) (T.2 4) 91)) 1 (nI (ccN c + 1))
def copT1 (T : St) (w : Nat → Int32) : St := setA T 4 (itU w (T.2 4) 91)
def remT (T : St) (w : Nat → Int32) (f c : Nat) : St := keepT (copT1 T w) f c
def RgH (T : St) (f c : Nat) : Prop := T.1 2 = nI f ∧ T.1 1 = nI c ∧ f < 8 ∧ c ≤ 8
theorem setS_self {S : St} {k : Nat} {v : Int32} (h : S.1 k = v) : setS S k v = S := by rw [← h, setS_id]
theorem m8 {a : Nat} (h : a < 100000) : nI a - nI a / nI 8 * nI 8 = nI (a % 8) := pk_rem (by omega) (by decide) (by decide)

set_option maxRecDepth 100000 in
set_option maxHeartbeats 4000000 in
theorem mt_copies {E : Ev} {b : Nat → Nat} {T : St} {w : Nat → Int32} {M : Hp} (hb : Lay E 9 b)  : Ct E mX5_copies [.ref (b 0)] (MdW E b T w M) (eqR (none) (MdW E b (copT1 T w) w M)) 0 0 := by
  refine Ct.of gmX5_copies (ls := [.ref (b 0), hole]) rfl rfl (Nat.le_of_ble_eq_true rfl) ?_
  intro X hX Q hQ
  refine gq_iconst (v := nI 0) hX dX5_copies_0 rfl (by decide) ?_
  refine gq_istore_n hX dX5_copies_1 rfl rfl (Nat.le_of_ble_eq_true rfl) rfl ?_
  have loop : ∀ n j : Nat, j + n = 91 → Gq E X mX5_copies Q 2 [.ref (b 0), .int (nI j)] [] (MdW E b (setA T 4 (itU w (T.2 4) j)) w M) 0 0 := by
    intro n
    induction n with
    | zero =>
      intro j hj
      refine gq_iload_n hX dX5_copies_2 rfl rfl rfl ?_
      refine gq_bipush (v := nI 91) hX dX5_copies_3 rfl (by decide) ?_
      refine gq_icmp_geT (tgt := 26) hX dX5_copies_5 rfl (cT (rfl : nI 91 = nI 91) (by omega) (by omega)) ?_
      have ej : 91 = j := by omega
      subst ej
      exact gq_vret hX hQ dX5_copies_26 rfl ⟨rfl, rfl⟩
    | succ n ih =>
      intro j hj
      refine gq_iload_n hX dX5_copies_2 rfl rfl rfl ?_
      refine gq_bipush (v := nI 91) hX dX5_copies_3 rfl (by decide) ?_
      refine gq_icmp_geF (tgt := 26) hX dX5_copies_5 rfl rfl (cF (rfl : nI 91 = nI 91) (by omega) (by omega)) ?_
      refine gq_aload_n hX dX5_copies_8 rfl rfl rfl ?_
      refine gq_getf hX dX5_copies_9 rfl fX5_19 (mqR0 hb) rfl ?_
      refine gq_iload_n hX dX5_copies_12 rfl rfl rfl ?_
      refine gq_aload_n hX dX5_copies_13 rfl rfl rfl ?_
      refine gq_getf hX dX5_copies_14 rfl fX5_7 (mqR0 hb) rfl ?_
      refine gq_iload_n hX dX5_copies_17 rfl rfl rfl ?_
      refine gq_ialdN hX dX5_copies_18 rfl (mqR1 hb) rfl (by omega) (Nat.le_of_ble_eq_true rfl) ?_
      refine gq_iastN hX dX5_copies_19 rfl (mqR4 hb) rfl (by omega) (Nat.le_of_ble_eq_true rfl) (hb.2 4 (by decide)) (mqW4 hb) ?_
      rw [setA_2, setA_at, itU_s]
      refine gq_iinc hX dX5_copies_20 rfl rfl (inc1 _) (Nat.le_of_ble_eq_true rfl) rfl ?_
      refine gq_goto (tgt := 2) hX dX5_copies_23 rfl ?_
      exact ih (j + 1) (by omega)
  refine gq_ls rfl rfl ?_ (loop 91 0 (by omega))
  rw [itU_0, setA_id]

set_option maxRecDepth 100000 in
set_option maxHeartbeats 4000000 in
theorem mt_goesBack {E : Ev} {b : Nat → Nat} {T : St} {w : Nat → Int32} {M : Hp} (hb : Lay E 9 b)  : Ct E mX5_goesBack [.ref (b 0)] (MdW E b T w M) (eqR (none) (MdW E b T (itU (T.2 4) w 91) M)) 0 0 := by
  refine Ct.of gmX5_goesBack (ls := [.ref (b 0), hole]) rfl rfl (Nat.le_of_ble_eq_true rfl) ?_
  intro X hX Q hQ
  refine gq_iconst (v := nI 0) hX dX5_goesBack_0 rfl (by decide) ?_
  refine gq_istore_n hX dX5_goesBack_1 rfl rfl (Nat.le_of_ble_eq_true rfl) rfl ?_
  have loop : ∀ n j : Nat, j + n = 91 → Gq E X mX5_goesBack Q 2 [.ref (b 0), .int (nI j)] [] (MdW E b T (itU (T.2 4) w j) M) 0 0 := by
    intro n
    induction n with
    | zero =>
      intro j hj
      refine gq_iload_n hX dX5_goesBack_2 rfl rfl rfl ?_
      refine gq_bipush (v := nI 91) hX dX5_goesBack_3 rfl (by decide) ?_
      refine gq_icmp_geT (tgt := 26) hX dX5_goesBack_5 rfl (cT (rfl : nI 91 = nI 91) (by omega) (by omega)) ?_
      have ej : 91 = j := by omega
      subst ej
      exact gq_vret hX hQ dX5_goesBack_26 rfl ⟨rfl, rfl⟩
    | succ n ih =>
      intro j hj
      refine gq_iload_n hX dX5_goesBack_2 rfl rfl rfl ?_
      refine gq_bipush (v := nI 91) hX dX5_goesBack_3 rfl (by decide) ?_
      refine gq_icmp_geF (tgt := 26) hX dX5_goesBack_5 rfl rfl (cF (rfl : nI 91 = nI 91) (by omega) (by omega)) ?_
      refine gq_aload_n hX dX5_goesBack_8 rfl rfl rfl ?_
      refine gq_getf hX dX5_goesBack_9 rfl fX5_7 (mqR0 hb) rfl ?_
      refine gq_iload_n hX dX5_goesBack_12 rfl rfl rfl ?_
      refine gq_aload_n hX dX5_goesBack_13 rfl rfl rfl ?_
      refine gq_getf hX dX5_goesBack_14 rfl fX5_19 (mqR0 hb) rfl ?_
      refine gq_iload_n hX dX5_goesBack_17 rfl rfl rfl ?_
      refine gq_ialdN hX dX5_goesBack_18 rfl (mqR4 hb) rfl (by omega) (Nat.le_of_ble_eq_true rfl) ?_
      refine gq_iastN hX dX5_goesBack_19 rfl (mqR1 hb) rfl (by omega) (Nat.le_of_ble_eq_true rfl) (hb.2 1 (by decide)) (mqW1 hb) ?_
      rw [itU_s]
      refine gq_iinc hX dX5_goesBack_20 rfl rfl (inc1 _) (Nat.le_of_ble_eq_true rfl) rfl ?_
      refine gq_goto (tgt := 2) hX dX5_goesBack_23 rfl ?_
      exact ih (j + 1) (by omega)
  refine gq_ls rfl rfl ?_ (loop 91 0 (by omega))
  rw [itU_0]

set_option maxRecDepth 100000 in
set_option maxHeartbeats 4000000 in
theorem mt_keeps {E : Ev} {b : Nat → Nat} {T : St} {w : Nat → Int32} {M : Hp} (hb : Lay E 9 b) {f c : Nat} (hr : RgH T f c) : Ct E mX5_keeps [.ref (b 0)] (MdW E b T w M) (eqR (none) (MdW E b (keepT T f c) w M)) 0 0 := by
  refine Ct.of gmX5_keeps (ls := [.ref (b 0), hole, hole]) rfl rfl (Nat.le_of_ble_eq_true rfl) ?_
  intro X hX Q hQ
  obtain ⟨hf, hc, hf8, hc8⟩ := hr
  refine gq_aload_n hX dX5_keeps_0 rfl rfl rfl ?_
  refine gq_getf hX dX5_keeps_1 rfl fX5_45 (mqR0 hb) rfl ?_
  refine gq_bipush (v := nI 8) hX dX5_keeps_4 rfl (by decide) ?_
  have tl : ∀ (f1 c1 : Nat) (T1 : St) (v1 v2 : Value), T1.1 2 = nI f1 → T1.1 1 = nI c1 → f1 < 8 → c1 < 8 → Q = Q → (setS (setA T1 2 (itR (T1.2 2) ((f1 + c1) % 8) (T1.2 4) 91)) 1 (nI (c1 + 1)) = keepT T f c) → Gq E X mX5_keeps Q 32 [.ref (b 0), v1, v2] [] (MdW E b T1 w M) 0 0 := by
    intro f1 c1 T1 v1 v2 hf1 hc1 hf18 hc18 _ hend
    rw [← hend] at hQ
    refine gq_aload_n hX dX5_keeps_32 rfl rfl rfl ?_
    refine gq_getf hX dX5_keeps_33 rfl fX5_48 (mqR0 hb) rfl ?_
    refine gq_aload_n hX dX5_keeps_36 rfl rfl rfl ?_
    refine gq_getf hX dX5_keeps_37 rfl fX5_45 (mqR0 hb) rfl ?_
    refine gq_iadd hX dX5_keeps_40 rfl ?_
    rw [hf1, hc1, nI_add]
    refine gq_bipush (v := nI 8) hX dX5_keeps_41 rfl (by decide) ?_
    refine gq_irem hX dX5_keeps_43 rfl (by decide) ?_
    rw [m8 (by omega)]
    refine gq_istore_n hX dX5_keeps_44 rfl rfl (Nat.le_of_ble_eq_true rfl) rfl ?_
    refine gq_iconst (v := nI 0) hX dX5_keeps_45 rfl (by decide) ?_
    refine gq_istore_n hX dX5_keeps_46 rfl rfl (Nat.le_of_ble_eq_true rfl) rfl ?_
    have loop : ∀ n j : Nat, j + n = 91 → Gq E X mX5_keeps Q 47 [.ref (b 0), .int (nI ((f1 + c1) % 8)), .int (nI j)] [] (MdW E b (setA T1 2 (itR (T1.2 2) ((f1 + c1) % 8) (T1.2 4) j)) w M) 0 0 := by
      intro n
      induction n with
      | zero =>
        intro j hj
        refine gq_iload_n hX dX5_keeps_47 rfl rfl rfl ?_
        refine gq_bipush (v := nI 91) hX dX5_keeps_48 rfl (by decide) ?_
        refine gq_icmp_geT (tgt := 76) hX dX5_keeps_50 rfl (cT (rfl : nI 91 = nI 91) (by omega) (by omega)) ?_
        have ej : 91 = j := by omega
        subst ej
        refine gq_aload_n hX dX5_keeps_76 rfl rfl rfl ?_
        refine gq_dup hX dX5_keeps_77 rfl rfl ?_
        refine gq_getf hX dX5_keeps_78 rfl fX5_45 (mqR0 hb) rfl ?_
        refine gq_iconst (v := nI 1) hX dX5_keeps_81 rfl (by decide) ?_
        refine gq_iadd hX dX5_keeps_82 rfl ?_
        rw [show (setA T1 2 (itR (T1.2 2) ((f1 + c1) % 8) (T1.2 4) 91)).1 1 = nI c1 from hc1, inM]
        refine gq_putf hX dX5_keeps_83 rfl fX5_45 rfl rfl rfl (mqR0 hb) (Nat.le_of_ble_eq_true rfl) (hb.2 0 (by decide)) (mqW0_6 hb) ?_
        exact gq_vret hX hQ dX5_keeps_86 rfl ⟨rfl, rfl⟩
      | succ n ih =>
        intro j hj
        refine gq_iload_n hX dX5_keeps_47 rfl rfl rfl ?_
        refine gq_bipush (v := nI 91) hX dX5_keeps_48 rfl (by decide) ?_
        refine gq_icmp_geF (tgt := 76) hX dX5_keeps_50 rfl rfl (cF (rfl : nI 91 = nI 91) (by omega) (by omega)) ?_
        refine gq_aload_n hX dX5_keeps_53 rfl rfl rfl ?_
        refine gq_getf hX dX5_keeps_54 rfl fX5_13 (mqR0 hb) rfl ?_
        refine gq_bipush (v := nI 91) hX dX5_keeps_57 rfl (by decide) ?_
        refine gq_iload_n hX dX5_keeps_59 rfl rfl rfl ?_
        refine gq_imul hX dX5_keeps_60 rfl ?_
        rw [nI_m]
        refine gq_iload_n hX dX5_keeps_61 rfl rfl rfl ?_
        refine gq_iadd hX dX5_keeps_62 rfl ?_
        rw [nI_add]
        refine gq_aload_n hX dX5_keeps_63 rfl rfl rfl ?_
        refine gq_getf hX dX5_keeps_64 rfl fX5_19 (mqR0 hb) rfl ?_
        refine gq_iload_n hX dX5_keeps_67 rfl rfl rfl ?_
        refine gq_ialdN hX dX5_keeps_68 rfl (mqR4 hb) rfl (by omega) (Nat.le_of_ble_eq_true rfl) ?_
        refine gq_iastN hX dX5_keeps_69 rfl (mqR2 hb) rfl (by omega) (Nat.le_of_ble_eq_true rfl) (hb.2 2 (by decide)) (mqW2 hb) ?_
        rw [setA_2, setA_at, setA_off (by decide), itR_s]
        refine gq_iinc hX dX5_keeps_70 rfl rfl (inc1 _) (Nat.le_of_ble_eq_true rfl) rfl ?_
        refine gq_goto (tgt := 47) hX dX5_keeps_73 rfl ?_
        exact ih (j + 1) (by omega)
    refine gq_ls rfl rfl ?_ (loop 91 0 (by omega))
    rw [itR_0, setA_id]
  by_cases h8 : c = 8
  · refine gq_icmp_neF (tgt := 32) hX dX5_keeps_6 rfl rfl (by rw [hc, h8]) ?_
    refine gq_aload_n hX dX5_keeps_9 rfl rfl rfl ?_
    refine gq_aload_n hX dX5_keeps_10 rfl rfl rfl ?_
    refine gq_getf hX dX5_keeps_11 rfl fX5_48 (mqR0 hb) rfl ?_
    refine gq_iconst (v := nI 1) hX dX5_keeps_14 rfl (by decide) ?_
    refine gq_iadd hX dX5_keeps_15 rfl ?_
    rw [hf, inM]
    refine gq_bipush (v := nI 8) hX dX5_keeps_16 rfl (by decide) ?_
    refine gq_irem hX dX5_keeps_18 rfl (by decide) ?_
    rw [m8 (by omega)]
    refine gq_putf hX dX5_keeps_19 rfl fX5_48 rfl rfl rfl (mqR0 hb) (Nat.le_of_ble_eq_true rfl) (hb.2 0 (by decide)) (mqW0_7 hb) ?_
    refine gq_aload_n hX dX5_keeps_22 rfl rfl rfl ?_
    refine gq_dup hX dX5_keeps_23 rfl rfl ?_
    refine gq_getf hX dX5_keeps_24 rfl fX5_45 (mqR0 hb) rfl ?_
    refine gq_iconst (v := nI 1) hX dX5_keeps_27 rfl (by decide) ?_
    refine gq_isub hX dX5_keeps_28 rfl ?_
    rw [show (setS T 2 (nI ((f + 1) % 8))).1 1 = nI 8 from by rw [← h8]; exact hc]
    rw [show nI 8 - nI 1 = nI 7 from by decide]
    refine gq_putf hX dX5_keeps_29 rfl fX5_45 rfl rfl rfl (mqR0 hb) (Nat.le_of_ble_eq_true rfl) (hb.2 0 (by decide)) (mqW0_6 hb) ?_
    refine tl ((f + 1) % 8) 7 _ _ _ rfl rfl (by omega) (by decide) rfl ?_
    unfold keepT fcN ccN
    rw [if_pos h8, if_pos h8]
    rfl
  · refine gq_icmp_neT (tgt := 32) hX dX5_keeps_6 rfl (by rw [hc]; exact fun e => h8 ((nI_eq (by omega) (by decide)).mp e)) ?_
    refine tl f c _ _ _ hf hc hf8 (by omega) rfl ?_
    unfold keepT fcN ccN
    rw [if_neg h8, if_neg h8, setS_self (S := T) hf, setS_self (S := T) hc]

set_option maxRecDepth 100000 in
set_option maxHeartbeats 4000000 in
theorem mt_remem {E : Ev} {b : Nat → Nat} {T : St} {w : Nat → Int32} {M : Hp} (hb : Lay E 9 b) {f c : Nat} (hr : RgH T f c) : Ct E mX5_remembers [.ref (b 0)] (MdW E b T w M) (eqR (none) (MdW E b (remT T w f c) w M)) 0 0 := by
  refine Ct.of gmX5_remembers (ls := [.ref (b 0)]) rfl rfl (Nat.le_of_ble_eq_true rfl) ?_
  intro X hX Q hQ
  refine gq_aload_n hX dX5_remembers_0 rfl rfl rfl ?_
  refine gq_callVe hX dX5_remembers_1 rfl vX5_51 (mt_copies hb) rfl (mqR0 hb) rfl rfl (Nat.le_of_ble_eq_true rfl) ⟨(Nat.le_of_ble_eq_true rfl), (Nat.le_of_ble_eq_true rfl)⟩ (Nat.zero_add _) (Nat.zero_add _) ?_
  refine gq_aload_n hX dX5_remembers_4 rfl rfl rfl ?_
  refine gq_callVe hX dX5_remembers_5 rfl vX5_54 (mt_keeps hb (T := copT1 T w) hr) rfl (mqR0 hb) rfl rfl (Nat.le_of_ble_eq_true rfl) ⟨(Nat.le_of_ble_eq_true rfl), (Nat.le_of_ble_eq_true rfl)⟩ (Nat.zero_add _) (Nat.zero_add _) ?_
  exact gq_vret hX hQ dX5_remembers_8 rfl ⟨rfl, rfl⟩

set_option maxRecDepth 100000 in
set_option maxHeartbeats 4000000 in
theorem mo_addCommittee_bad {E : Ev} {b : Nat → Nat} {T : St} {M : Hp} (hb : Lay E 9 b) {S : St} {nc nt no : Nat} (hwf : Wf S nc nt no) (m : Int32) (hF : ¬ (comF S m) = 0) : Ct E mX5_addCommittee [.ref (b 0), .int m] (MdW E b T (wOf S nc nt no) M) (eqR (some (.int (nI 0))) (MdW E b (setS T 0 (comF S m)) (wOf S nc nt no) M)) 0 0 := by
  refine Ct.of gmX5_addCommittee (ls := [.ref (b 0), .int m, hole]) rfl rfl (Nat.le_of_ble_eq_true rfl) ?_
  intro X hX Q hQ
  have hwf2 := hwf
  obtain ⟨hnc, hncl, hnt, hntl, hno, hnol⟩ := hwf2
  have hw0 : wOf S nc nt no 0 = nI nc := hnc
  have hw1 : wOf S nc nt no 1 = nI nt := hnt
  have hw2 : wOf S nc nt no 2 = nI no := hno
  refine gq_aload_n hX dX5_addCommittee_0 rfl rfl rfl ?_
  refine gq_iconst (v := nI 0) hX dX5_addCommittee_1 rfl (by decide) ?_
  refine gq_putf hX dX5_addCommittee_2 rfl fX5_42 rfl rfl rfl (mqR0 hb) (Nat.le_of_ble_eq_true rfl) (hb.2 0 (by decide)) (mqW0_0 hb) ?_
  refine gq_aload_n hX dX5_addCommittee_5 rfl rfl rfl ?_
  refine gq_iload_n hX dX5_addCommittee_6 rfl rfl rfl ?_
  refine gq_callVe hX dX5_addCommittee_7 rfl vX5_75 (mt_notCom hb hwf _) rfl (mqR0 hb) rfl rfl (Nat.le_of_ble_eq_true rfl) ⟨(Nat.le_of_ble_eq_true rfl), (Nat.le_of_ble_eq_true rfl)⟩ (Nat.zero_add _) (Nat.zero_add _) ?_
  refine gq_istore_n hX dX5_addCommittee_10 rfl rfl (Nat.le_of_ble_eq_true rfl) rfl ?_
  refine gq_iload_n hX dX5_addCommittee_11 rfl rfl rfl ?_
  refine gq_if_eqF (tgt := 21) hX dX5_addCommittee_12 rfl rfl hF ?_
  refine gq_aload_n hX dX5_addCommittee_15 rfl rfl rfl ?_
  refine gq_iload_n hX dX5_addCommittee_16 rfl rfl rfl ?_
  refine gq_callVe hX dX5_addCommittee_17 rfl vX5_79 (mt_fails hb _) rfl (mqR0 hb) rfl rfl (Nat.le_of_ble_eq_true rfl) ⟨(Nat.le_of_ble_eq_true rfl), (Nat.le_of_ble_eq_true rfl)⟩ (Nat.zero_add _) (Nat.zero_add _) ?_
  exact gq_iret hX hQ dX5_addCommittee_20 rfl ⟨rfl, by rw [setS_2]⟩

set_option maxRecDepth 100000 in
set_option maxHeartbeats 4000000 in
theorem mo_addCommittee_ok {E : Ev} {b : Nat → Nat} {T : St} {M : Hp} (hb : Lay E 9 b) {S : St} {nc nt no : Nat} (hwf : Wf S nc nt no) {f c : Nat} (hr : RgH T f c) (m : Int32) (hF : (comF S m) = 0) (hlt : nc < 6) : Ct E mX5_addCommittee [.ref (b 0), .int m] (MdW E b T (wOf S nc nt no) M) (eqR (some (.int (nI nc))) (MdW E b (remT (setS T 0 (nI 0)) (wOf S nc nt no) f c) (wOf (comS S nc m) (nc + 1) nt no) M)) 0 0 := by
  refine Ct.of gmX5_addCommittee (ls := [.ref (b 0), .int m, hole]) rfl rfl (Nat.le_of_ble_eq_true rfl) ?_
  intro X hX Q hQ
  have hwf2 := hwf
  obtain ⟨hnc, hncl, hnt, hntl, hno, hnol⟩ := hwf2
  have hw0 : wOf S nc nt no 0 = nI nc := hnc
  have hw1 : wOf S nc nt no 1 = nI nt := hnt
  have hw2 : wOf S nc nt no 2 = nI no := hno
  refine gq_aload_n hX dX5_addCommittee_0 rfl rfl rfl ?_
  refine gq_iconst (v := nI 0) hX dX5_addCommittee_1 rfl (by decide) ?_
  refine gq_putf hX dX5_addCommittee_2 rfl fX5_42 rfl rfl rfl (mqR0 hb) (Nat.le_of_ble_eq_true rfl) (hb.2 0 (by decide)) (mqW0_0 hb) ?_
  refine gq_aload_n hX dX5_addCommittee_5 rfl rfl rfl ?_
  refine gq_iload_n hX dX5_addCommittee_6 rfl rfl rfl ?_
  refine gq_callVe hX dX5_addCommittee_7 rfl vX5_75 (mt_notCom hb hwf _) rfl (mqR0 hb) rfl rfl (Nat.le_of_ble_eq_true rfl) ⟨(Nat.le_of_ble_eq_true rfl), (Nat.le_of_ble_eq_true rfl)⟩ (Nat.zero_add _) (Nat.zero_add _) ?_
  refine gq_istore_n hX dX5_addCommittee_10 rfl rfl (Nat.le_of_ble_eq_true rfl) rfl ?_
  refine gq_iload_n hX dX5_addCommittee_11 rfl rfl rfl ?_
  refine gq_if_eqT (tgt := 21) hX dX5_addCommittee_12 rfl hF ?_
  refine gq_aload_n hX dX5_addCommittee_21 rfl rfl rfl ?_
  refine gq_callVe hX dX5_addCommittee_22 rfl vX5_82 (mt_remem hb (T := (setS T 0 (nI 0))) hr) rfl (mqR0 hb) rfl rfl (Nat.le_of_ble_eq_true rfl) ⟨(Nat.le_of_ble_eq_true rfl), (Nat.le_of_ble_eq_true rfl)⟩ (Nat.zero_add _) (Nat.zero_add _) ?_
  refine gq_aload_n hX dX5_addCommittee_25 rfl rfl rfl ?_
  refine gq_iload_n hX dX5_addCommittee_26 rfl rfl rfl ?_
  refine gq_callVe hX dX5_addCommittee_27 rfl vX5_85 (mt_addsCom hb hwf hlt _) rfl (mqR0 hb) rfl rfl (Nat.le_of_ble_eq_true rfl) ⟨(Nat.le_of_ble_eq_true rfl), (Nat.le_of_ble_eq_true rfl)⟩ (Nat.zero_add _) (Nat.zero_add _) ?_
  exact gq_iret hX hQ dX5_addCommittee_30 rfl ⟨rfl, rfl⟩

set_option maxRecDepth 100000 in
set_option maxHeartbeats 4000000 in
theorem mo_addTail_bad {E : Ev} {b : Nat → Nat} {T : St} {M : Hp} (hb : Lay E 9 b) {S : St} {nc nt no : Nat} (hwf : Wf S nc nt no) (m : Int32) (hF : ¬ (taiF S m) = 0) : Ct E mX5_addTail [.ref (b 0), .int m] (MdW E b T (wOf S nc nt no) M) (eqR (some (.int (nI 0))) (MdW E b (setS T 0 (taiF S m)) (wOf S nc nt no) M)) 0 0 := by
  refine Ct.of gmX5_addTail (ls := [.ref (b 0), .int m, hole]) rfl rfl (Nat.le_of_ble_eq_true rfl) ?_
  intro X hX Q hQ
  have hwf2 := hwf
  obtain ⟨hnc, hncl, hnt, hntl, hno, hnol⟩ := hwf2
  have hw0 : wOf S nc nt no 0 = nI nc := hnc
  have hw1 : wOf S nc nt no 1 = nI nt := hnt
  have hw2 : wOf S nc nt no 2 = nI no := hno
  refine gq_aload_n hX dX5_addTail_0 rfl rfl rfl ?_
  refine gq_iconst (v := nI 0) hX dX5_addTail_1 rfl (by decide) ?_
  refine gq_putf hX dX5_addTail_2 rfl fX5_42 rfl rfl rfl (mqR0 hb) (Nat.le_of_ble_eq_true rfl) (hb.2 0 (by decide)) (mqW0_0 hb) ?_
  refine gq_aload_n hX dX5_addTail_5 rfl rfl rfl ?_
  refine gq_iload_n hX dX5_addTail_6 rfl rfl rfl ?_
  refine gq_callVe hX dX5_addTail_7 rfl vX5_88 (mt_notTail hb hwf _) rfl (mqR0 hb) rfl rfl (Nat.le_of_ble_eq_true rfl) ⟨(Nat.le_of_ble_eq_true rfl), (Nat.le_of_ble_eq_true rfl)⟩ (Nat.zero_add _) (Nat.zero_add _) ?_
  refine gq_istore_n hX dX5_addTail_10 rfl rfl (Nat.le_of_ble_eq_true rfl) rfl ?_
  refine gq_iload_n hX dX5_addTail_11 rfl rfl rfl ?_
  refine gq_if_eqF (tgt := 21) hX dX5_addTail_12 rfl rfl hF ?_
  refine gq_aload_n hX dX5_addTail_15 rfl rfl rfl ?_
  refine gq_iload_n hX dX5_addTail_16 rfl rfl rfl ?_
  refine gq_callVe hX dX5_addTail_17 rfl vX5_79 (mt_fails hb _) rfl (mqR0 hb) rfl rfl (Nat.le_of_ble_eq_true rfl) ⟨(Nat.le_of_ble_eq_true rfl), (Nat.le_of_ble_eq_true rfl)⟩ (Nat.zero_add _) (Nat.zero_add _) ?_
  exact gq_iret hX hQ dX5_addTail_20 rfl ⟨rfl, by rw [setS_2]⟩

set_option maxRecDepth 100000 in
set_option maxHeartbeats 4000000 in
theorem mo_addTail_ok {E : Ev} {b : Nat → Nat} {T : St} {M : Hp} (hb : Lay E 9 b) {S : St} {nc nt no : Nat} (hwf : Wf S nc nt no) {f c : Nat} (hr : RgH T f c) (m : Int32) (hF : (taiF S m) = 0) (hlt : nt < 8) : Ct E mX5_addTail [.ref (b 0), .int m] (MdW E b T (wOf S nc nt no) M) (eqR (some (.int (nI nt))) (MdW E b (remT (setS T 0 (nI 0)) (wOf S nc nt no) f c) (wOf (taiS S nt m) nc (nt + 1) no) M)) 0 0 := by
  refine Ct.of gmX5_addTail (ls := [.ref (b 0), .int m, hole]) rfl rfl (Nat.le_of_ble_eq_true rfl) ?_
  intro X hX Q hQ
  have hwf2 := hwf
  obtain ⟨hnc, hncl, hnt, hntl, hno, hnol⟩ := hwf2
  have hw0 : wOf S nc nt no 0 = nI nc := hnc
  have hw1 : wOf S nc nt no 1 = nI nt := hnt
  have hw2 : wOf S nc nt no 2 = nI no := hno
  refine gq_aload_n hX dX5_addTail_0 rfl rfl rfl ?_
  refine gq_iconst (v := nI 0) hX dX5_addTail_1 rfl (by decide) ?_
  refine gq_putf hX dX5_addTail_2 rfl fX5_42 rfl rfl rfl (mqR0 hb) (Nat.le_of_ble_eq_true rfl) (hb.2 0 (by decide)) (mqW0_0 hb) ?_
  refine gq_aload_n hX dX5_addTail_5 rfl rfl rfl ?_
  refine gq_iload_n hX dX5_addTail_6 rfl rfl rfl ?_
  refine gq_callVe hX dX5_addTail_7 rfl vX5_88 (mt_notTail hb hwf _) rfl (mqR0 hb) rfl rfl (Nat.le_of_ble_eq_true rfl) ⟨(Nat.le_of_ble_eq_true rfl), (Nat.le_of_ble_eq_true rfl)⟩ (Nat.zero_add _) (Nat.zero_add _) ?_
  refine gq_istore_n hX dX5_addTail_10 rfl rfl (Nat.le_of_ble_eq_true rfl) rfl ?_
  refine gq_iload_n hX dX5_addTail_11 rfl rfl rfl ?_
  refine gq_if_eqT (tgt := 21) hX dX5_addTail_12 rfl hF ?_
  refine gq_aload_n hX dX5_addTail_21 rfl rfl rfl ?_
  refine gq_callVe hX dX5_addTail_22 rfl vX5_82 (mt_remem hb (T := (setS T 0 (nI 0))) hr) rfl (mqR0 hb) rfl rfl (Nat.le_of_ble_eq_true rfl) ⟨(Nat.le_of_ble_eq_true rfl), (Nat.le_of_ble_eq_true rfl)⟩ (Nat.zero_add _) (Nat.zero_add _) ?_
  refine gq_aload_n hX dX5_addTail_25 rfl rfl rfl ?_
  refine gq_iload_n hX dX5_addTail_26 rfl rfl rfl ?_
  refine gq_callVe hX dX5_addTail_27 rfl vX5_91 (mt_addsTail hb hwf hlt _) rfl (mqR0 hb) rfl rfl (Nat.le_of_ble_eq_true rfl) ⟨(Nat.le_of_ble_eq_true rfl), (Nat.le_of_ble_eq_true rfl)⟩ (Nat.zero_add _) (Nat.zero_add _) ?_
  exact gq_iret hX hQ dX5_addTail_30 rfl ⟨rfl, rfl⟩

set_option maxRecDepth 100000 in
set_option maxHeartbeats 4000000 in
theorem mo_pay_bad {E : Ev} {b : Nat → Nat} {T : St} {M : Hp} (hb : Lay E 9 b) {S : St} {nc nt no : Nat} (hwf : Wf S nc nt no) (c0 x : Int32) (hF : ¬ (payF S nc c0 x) = 0) : Ct E mX5_pay [.ref (b 0), .int c0, .int x] (MdW E b T (wOf S nc nt no) M) (eqR (some (.int (nI 0))) (MdW E b (setS T 0 (payF S nc c0 x)) (wOf S nc nt no) M)) 0 0 := by
  refine Ct.of gmX5_pay (ls := [.ref (b 0), .int c0, .int x, hole]) rfl rfl (Nat.le_of_ble_eq_true rfl) ?_
  intro X hX Q hQ
  have hwf2 := hwf
  obtain ⟨hnc, hncl, hnt, hntl, hno, hnol⟩ := hwf2
  have hw0 : wOf S nc nt no 0 = nI nc := hnc
  have hw1 : wOf S nc nt no 1 = nI nt := hnt
  have hw2 : wOf S nc nt no 2 = nI no := hno
  refine gq_aload_n hX dX5_pay_0 rfl rfl rfl ?_
  refine gq_iconst (v := nI 0) hX dX5_pay_1 rfl (by decide) ?_
  refine gq_putf hX dX5_pay_2 rfl fX5_42 rfl rfl rfl (mqR0 hb) (Nat.le_of_ble_eq_true rfl) (hb.2 0 (by decide)) (mqW0_0 hb) ?_
  refine gq_aload_n hX dX5_pay_5 rfl rfl rfl ?_
  refine gq_iload_n hX dX5_pay_6 rfl rfl rfl ?_
  refine gq_iload_n hX dX5_pay_7 rfl rfl rfl ?_
  refine gq_callVe hX dX5_pay_8 rfl vX5_98 (mt_notPay hb hwf _ _) rfl (mqR0 hb) rfl rfl (Nat.le_of_ble_eq_true rfl) ⟨(Nat.le_of_ble_eq_true rfl), (Nat.le_of_ble_eq_true rfl)⟩ (Nat.zero_add _) (Nat.zero_add _) ?_
  refine gq_istore_n hX dX5_pay_11 rfl rfl (Nat.le_of_ble_eq_true rfl) rfl ?_
  refine gq_iload_n hX dX5_pay_12 rfl rfl rfl ?_
  refine gq_if_eqF (tgt := 22) hX dX5_pay_13 rfl rfl hF ?_
  refine gq_aload_n hX dX5_pay_16 rfl rfl rfl ?_
  refine gq_iload_n hX dX5_pay_17 rfl rfl rfl ?_
  refine gq_callVe hX dX5_pay_18 rfl vX5_79 (mt_fails hb _) rfl (mqR0 hb) rfl rfl (Nat.le_of_ble_eq_true rfl) ⟨(Nat.le_of_ble_eq_true rfl), (Nat.le_of_ble_eq_true rfl)⟩ (Nat.zero_add _) (Nat.zero_add _) ?_
  exact gq_iret hX hQ dX5_pay_21 rfl ⟨rfl, by rw [setS_2]⟩

set_option maxRecDepth 100000 in
set_option maxHeartbeats 4000000 in
theorem mo_pay_ok {E : Ev} {b : Nat → Nat} {T : St} {M : Hp} (hb : Lay E 9 b) {S : St} {nc nt no : Nat} (hwf : Wf S nc nt no) {f c : Nat} (hr : RgH T f c) (c0 x : Int32) (hF : (payF S nc c0 x) = 0) {j : Nat} (hj : j < nc) (hcj : c0 = nI j) : Ct E mX5_pay [.ref (b 0), .int c0, .int x] (MdW E b T (wOf S nc nt no) M) (eqR (some (.int (S.2 2 j - x))) (MdW E b (remT (setS T 0 (nI 0)) (wOf S nc nt no) f c) (wOf (payS S j x) nc nt no) M)) 0 0 := by
  refine Ct.of gmX5_pay (ls := [.ref (b 0), .int c0, .int x, hole]) rfl rfl (Nat.le_of_ble_eq_true rfl) ?_
  intro X hX Q hQ
  have hwf2 := hwf
  obtain ⟨hnc, hncl, hnt, hntl, hno, hnol⟩ := hwf2
  have hw0 : wOf S nc nt no 0 = nI nc := hnc
  have hw1 : wOf S nc nt no 1 = nI nt := hnt
  have hw2 : wOf S nc nt no 2 = nI no := hno
  subst hcj
  refine gq_aload_n hX dX5_pay_0 rfl rfl rfl ?_
  refine gq_iconst (v := nI 0) hX dX5_pay_1 rfl (by decide) ?_
  refine gq_putf hX dX5_pay_2 rfl fX5_42 rfl rfl rfl (mqR0 hb) (Nat.le_of_ble_eq_true rfl) (hb.2 0 (by decide)) (mqW0_0 hb) ?_
  refine gq_aload_n hX dX5_pay_5 rfl rfl rfl ?_
  refine gq_iload_n hX dX5_pay_6 rfl rfl rfl ?_
  refine gq_iload_n hX dX5_pay_7 rfl rfl rfl ?_
  refine gq_callVe hX dX5_pay_8 rfl vX5_98 (mt_notPay hb hwf _ _) rfl (mqR0 hb) rfl rfl (Nat.le_of_ble_eq_true rfl) ⟨(Nat.le_of_ble_eq_true rfl), (Nat.le_of_ble_eq_true rfl)⟩ (Nat.zero_add _) (Nat.zero_add _) ?_
  refine gq_istore_n hX dX5_pay_11 rfl rfl (Nat.le_of_ble_eq_true rfl) rfl ?_
  refine gq_iload_n hX dX5_pay_12 rfl rfl rfl ?_
  refine gq_if_eqT (tgt := 22) hX dX5_pay_13 rfl hF ?_
  refine gq_aload_n hX dX5_pay_22 rfl rfl rfl ?_
  refine gq_callVe hX dX5_pay_23 rfl vX5_82 (mt_remem hb (T := (setS T 0 (nI 0))) hr) rfl (mqR0 hb) rfl rfl (Nat.le_of_ble_eq_true rfl) ⟨(Nat.le_of_ble_eq_true rfl), (Nat.le_of_ble_eq_true rfl)⟩ (Nat.zero_add _) (Nat.zero_add _) ?_
  refine gq_aload_n hX dX5_pay_26 rfl rfl rfl ?_
  refine gq_iload_n hX dX5_pay_27 rfl rfl rfl ?_
  refine gq_iload_n hX dX5_pay_28 rfl rfl rfl ?_
  refine gq_callVe hX dX5_pay_29 rfl vX5_101 (mt_pays hb hwf hj _) rfl (mqR0 hb) rfl rfl (Nat.le_of_ble_eq_true rfl) ⟨(Nat.le_of_ble_eq_true rfl), (Nat.le_of_ble_eq_true rfl)⟩ (Nat.zero_add _) (Nat.zero_add _) ?_
  exact gq_iret hX hQ dX5_pay_32 rfl ⟨rfl, rfl⟩

set_option maxRecDepth 100000 in
set_option maxHeartbeats 4000000 in
theorem mo_launch_bad {E : Ev} {b : Nat → Nat} {T : St} {M : Hp} (hb : Lay E 9 b) {S : St} {nc nt no : Nat} (hwf : Wf S nc nt no) (hn : Nar S) (c0 : Int32) (hF : ¬ (lauF S nc c0) = 0) : Ct E mX5_launch [.ref (b 0), .int c0] (MdW E b T (wOf S nc nt no) M) (eqR (some (.int (nI 0))) (MdW E b (setS T 0 (lauF S nc c0)) (wOf S nc nt no) M)) 0 0 := by
  refine Ct.of gmX5_launch (ls := [.ref (b 0), .int c0, hole]) rfl rfl (Nat.le_of_ble_eq_true rfl) ?_
  intro X hX Q hQ
  have hwf2 := hwf
  obtain ⟨hnc, hncl, hnt, hntl, hno, hnol⟩ := hwf2
  have hw0 : wOf S nc nt no 0 = nI nc := hnc
  have hw1 : wOf S nc nt no 1 = nI nt := hnt
  have hw2 : wOf S nc nt no 2 = nI no := hno
  refine gq_aload_n hX dX5_launch_0 rfl rfl rfl ?_
  refine gq_iconst (v := nI 0) hX dX5_launch_1 rfl (by decide) ?_
  refine gq_putf hX dX5_launch_2 rfl fX5_42 rfl rfl rfl (mqR0 hb) (Nat.le_of_ble_eq_true rfl) (hb.2 0 (by decide)) (mqW0_0 hb) ?_
  refine gq_aload_n hX dX5_launch_5 rfl rfl rfl ?_
  refine gq_iload_n hX dX5_launch_6 rfl rfl rfl ?_
  refine gq_callVe hX dX5_launch_7 rfl vX5_111 (mt_notLaunch hb hwf hn _) rfl (mqR0 hb) rfl rfl (Nat.le_of_ble_eq_true rfl) ⟨(Nat.le_of_ble_eq_true rfl), (Nat.le_of_ble_eq_true rfl)⟩ (Nat.zero_add _) (Nat.zero_add _) ?_
  refine gq_istore_n hX dX5_launch_10 rfl rfl (Nat.le_of_ble_eq_true rfl) rfl ?_
  refine gq_iload_n hX dX5_launch_11 rfl rfl rfl ?_
  refine gq_if_eqF (tgt := 21) hX dX5_launch_12 rfl rfl hF ?_
  refine gq_aload_n hX dX5_launch_15 rfl rfl rfl ?_
  refine gq_iload_n hX dX5_launch_16 rfl rfl rfl ?_
  refine gq_callVe hX dX5_launch_17 rfl vX5_79 (mt_fails hb _) rfl (mqR0 hb) rfl rfl (Nat.le_of_ble_eq_true rfl) ⟨(Nat.le_of_ble_eq_true rfl), (Nat.le_of_ble_eq_true rfl)⟩ (Nat.zero_add _) (Nat.zero_add _) ?_
  exact gq_iret hX hQ dX5_launch_20 rfl ⟨rfl, by rw [setS_2]⟩

set_option maxRecDepth 100000 in
set_option maxHeartbeats 4000000 in
theorem mo_launch_ok {E : Ev} {b : Nat → Nat} {T : St} {M : Hp} (hb : Lay E 9 b) {S : St} {nc nt no : Nat} (hwf : Wf S nc nt no) {f c : Nat} (hr : RgH T f c) (hn : Nar S) (c0 : Int32) (hF : (lauF S nc c0) = 0) {j : Nat} (hj : j < nc) (hcj : c0 = nI j) : Ct E mX5_launch [.ref (b 0), .int c0] (MdW E b T (wOf S nc nt no) M) (eqR (some (.int (cntFly (flyS S j) nc))) (MdW E b (remT (setS T 0 (nI 0)) (wOf S nc nt no) f c) (wOf (flyS S j) nc nt no) M)) 0 0 := by
  refine Ct.of gmX5_launch (ls := [.ref (b 0), .int c0, hole]) rfl rfl (Nat.le_of_ble_eq_true rfl) ?_
  intro X hX Q hQ
  have hwf2 := hwf
  obtain ⟨hnc, hncl, hnt, hntl, hno, hnol⟩ := hwf2
  have hw0 : wOf S nc nt no 0 = nI nc := hnc
  have hw1 : wOf S nc nt no 1 = nI nt := hnt
  have hw2 : wOf S nc nt no 2 = nI no := hno
  subst hcj
  refine gq_aload_n hX dX5_launch_0 rfl rfl rfl ?_
  refine gq_iconst (v := nI 0) hX dX5_launch_1 rfl (by decide) ?_
  refine gq_putf hX dX5_launch_2 rfl fX5_42 rfl rfl rfl (mqR0 hb) (Nat.le_of_ble_eq_true rfl) (hb.2 0 (by decide)) (mqW0_0 hb) ?_
  refine gq_aload_n hX dX5_launch_5 rfl rfl rfl ?_
  refine gq_iload_n hX dX5_launch_6 rfl rfl rfl ?_
  refine gq_callVe hX dX5_launch_7 rfl vX5_111 (mt_notLaunch hb hwf hn _) rfl (mqR0 hb) rfl rfl (Nat.le_of_ble_eq_true rfl) ⟨(Nat.le_of_ble_eq_true rfl), (Nat.le_of_ble_eq_true rfl)⟩ (Nat.zero_add _) (Nat.zero_add _) ?_
  refine gq_istore_n hX dX5_launch_10 rfl rfl (Nat.le_of_ble_eq_true rfl) rfl ?_
  refine gq_iload_n hX dX5_launch_11 rfl rfl rfl ?_
  refine gq_if_eqT (tgt := 21) hX dX5_launch_12 rfl hF ?_
  refine gq_aload_n hX dX5_launch_21 rfl rfl rfl ?_
  refine gq_callVe hX dX5_launch_22 rfl vX5_82 (mt_remem hb (T := (setS T 0 (nI 0))) hr) rfl (mqR0 hb) rfl rfl (Nat.le_of_ble_eq_true rfl) ⟨(Nat.le_of_ble_eq_true rfl), (Nat.le_of_ble_eq_true rfl)⟩ (Nat.zero_add _) (Nat.zero_add _) ?_
  refine gq_aload_n hX dX5_launch_25 rfl rfl rfl ?_
  refine gq_iload_n hX dX5_launch_26 rfl rfl rfl ?_
  refine gq_callVe hX dX5_launch_27 rfl vX5_114 (mt_launches hb hwf hn hj) rfl (mqR0 hb) rfl rfl (Nat.le_of_ble_eq_true rfl) ⟨(Nat.le_of_ble_eq_true rfl), (Nat.le_of_ble_eq_true rfl)⟩ (Nat.zero_add _) (Nat.zero_add _) ?_
  exact gq_iret hX hQ dX5_launch_30 rfl ⟨rfl, rfl⟩

set_option maxRecDepth 100000 in
set_option maxHeartbeats 4000000 in
theorem mo_second_bad {E : Ev} {b : Nat → Nat} {T : St} {M : Hp} (hb : Lay E 9 b) {S : St} {nc nt no : Nat} (hwf : Wf S nc nt no) (hse : SecOk S nc no) (c0 id : Int32) (hF : ¬ (secF S nc no c0 id) = 0) : Ct E mX5_second [.ref (b 0), .int c0, .int id] (MdW E b T (wOf S nc nt no) M) (eqR (some (.int (nI 0))) (MdW E b (setS T 0 (secF S nc no c0 id)) (wOf S nc nt no) M)) 0 0 := by
  refine Ct.of gmX5_second (ls := [.ref (b 0), .int c0, .int id, hole]) rfl rfl (Nat.le_of_ble_eq_true rfl) ?_
  intro X hX Q hQ
  have hwf2 := hwf
  obtain ⟨hnc, hncl, hnt, hntl, hno, hnol⟩ := hwf2
  have hw0 : wOf S nc nt no 0 = nI nc := hnc
  have hw1 : wOf S nc nt no 1 = nI nt := hnt
  have hw2 : wOf S nc nt no 2 = nI no := hno
  refine gq_aload_n hX dX5_second_0 rfl rfl rfl ?_
  refine gq_iconst (v := nI 0) hX dX5_second_1 rfl (by decide) ?_
  refine gq_putf hX dX5_second_2 rfl fX5_42 rfl rfl rfl (mqR0 hb) (Nat.le_of_ble_eq_true rfl) (hb.2 0 (by decide)) (mqW0_0 hb) ?_
  refine gq_aload_n hX dX5_second_5 rfl rfl rfl ?_
  refine gq_iload_n hX dX5_second_6 rfl rfl rfl ?_
  refine gq_iload_n hX dX5_second_7 rfl rfl rfl ?_
  refine gq_callVe hX dX5_second_8 rfl vX5_136 (mt_notSecond hb hwf hse _ _) rfl (mqR0 hb) rfl rfl (Nat.le_of_ble_eq_true rfl) ⟨(Nat.le_of_ble_eq_true rfl), (Nat.le_of_ble_eq_true rfl)⟩ (Nat.zero_add _) (Nat.zero_add _) ?_
  refine gq_istore_n hX dX5_second_11 rfl rfl (Nat.le_of_ble_eq_true rfl) rfl ?_
  refine gq_iload_n hX dX5_second_12 rfl rfl rfl ?_
  refine gq_if_eqF (tgt := 22) hX dX5_second_13 rfl rfl hF ?_
  refine gq_aload_n hX dX5_second_16 rfl rfl rfl ?_
  refine gq_iload_n hX dX5_second_17 rfl rfl rfl ?_
  refine gq_callVe hX dX5_second_18 rfl vX5_79 (mt_fails hb _) rfl (mqR0 hb) rfl rfl (Nat.le_of_ble_eq_true rfl) ⟨(Nat.le_of_ble_eq_true rfl), (Nat.le_of_ble_eq_true rfl)⟩ (Nat.zero_add _) (Nat.zero_add _) ?_
  exact gq_iret hX hQ dX5_second_21 rfl ⟨rfl, by rw [setS_2]⟩

set_option maxRecDepth 100000 in
set_option maxHeartbeats 4000000 in
theorem mo_second_ok {E : Ev} {b : Nat → Nat} {T : St} {M : Hp} (hb : Lay E 9 b) {S : St} {nc nt no : Nat} (hwf : Wf S nc nt no) {f c : Nat} (hr : RgH T f c) (hse : SecOk S nc no) (c0 id : Int32) (hF : (secF S nc no c0 id) = 0) {k : Nat} (ho : slotO S no id = some k) (hc : ∃ a, a < nc ∧ c0 = nI a) : Ct E mX5_second [.ref (b 0), .int c0, .int id] (MdW E b T (wOf S nc nt no) M) (eqR (some (.int (cntSec (sedS S k c0) no))) (MdW E b (remT (setS T 0 (nI 0)) (wOf S nc nt no) f c) (wOf (sedS S k c0) nc nt no) M)) 0 0 := by
  refine Ct.of gmX5_second (ls := [.ref (b 0), .int c0, .int id, hole]) rfl rfl (Nat.le_of_ble_eq_true rfl) ?_
  intro X hX Q hQ
  have hwf2 := hwf
  obtain ⟨hnc, hncl, hnt, hntl, hno, hnol⟩ := hwf2
  have hw0 : wOf S nc nt no 0 = nI nc := hnc
  have hw1 : wOf S nc nt no 1 = nI nt := hnt
  have hw2 : wOf S nc nt no 2 = nI no := hno
  refine gq_aload_n hX dX5_second_0 rfl rfl rfl ?_
  refine gq_iconst (v := nI 0) hX dX5_second_1 rfl (by decide) ?_
  refine gq_putf hX dX5_second_2 rfl fX5_42 rfl rfl rfl (mqR0 hb) (Nat.le_of_ble_eq_true rfl) (hb.2 0 (by decide)) (mqW0_0 hb) ?_
  refine gq_aload_n hX dX5_second_5 rfl rfl rfl ?_
  refine gq_iload_n hX dX5_second_6 rfl rfl rfl ?_
  refine gq_iload_n hX dX5_second_7 rfl rfl rfl ?_
  refine gq_callVe hX dX5_second_8 rfl vX5_136 (mt_notSecond hb hwf hse _ _) rfl (mqR0 hb) rfl rfl (Nat.le_of_ble_eq_true rfl) ⟨(Nat.le_of_ble_eq_true rfl), (Nat.le_of_ble_eq_true rfl)⟩ (Nat.zero_add _) (Nat.zero_add _) ?_
  refine gq_istore_n hX dX5_second_11 rfl rfl (Nat.le_of_ble_eq_true rfl) rfl ?_
  refine gq_iload_n hX dX5_second_12 rfl rfl rfl ?_
  refine gq_if_eqT (tgt := 22) hX dX5_second_13 rfl hF ?_
  refine gq_aload_n hX dX5_second_22 rfl rfl rfl ?_
  refine gq_callVe hX dX5_second_23 rfl vX5_82 (mt_remem hb (T := (setS T 0 (nI 0))) hr) rfl (mqR0 hb) rfl rfl (Nat.le_of_ble_eq_true rfl) ⟨(Nat.le_of_ble_eq_true rfl), (Nat.le_of_ble_eq_true rfl)⟩ (Nat.zero_add _) (Nat.zero_add _) ?_
  refine gq_aload_n hX dX5_second_26 rfl rfl rfl ?_
  refine gq_iload_n hX dX5_second_27 rfl rfl rfl ?_
  refine gq_iload_n hX dX5_second_28 rfl rfl rfl ?_
  refine gq_callVe hX dX5_second_29 rfl vX5_139 (mt_seconds hb hwf ho hse hc) rfl (mqR0 hb) rfl rfl (Nat.le_of_ble_eq_true rfl) ⟨(Nat.le_of_ble_eq_true rfl), (Nat.le_of_ble_eq_true rfl)⟩ (Nat.zero_add _) (Nat.zero_add _) ?_
  exact gq_iret hX hQ dX5_second_32 rfl ⟨rfl, rfl⟩

set_option maxRecDepth 100000 in
set_option maxHeartbeats 4000000 in
theorem mo_untable_bad {E : Ev} {b : Nat → Nat} {T : St} {M : Hp} (hb : Lay E 9 b) {S : St} {nc nt no : Nat} (hwf : Wf S nc nt no) (id : Int32) (hF : ¬ (untF S no id) = 0) : Ct E mX5_untable [.ref (b 0), .int id] (MdW E b T (wOf S nc nt no) M) (eqR (some (.int (nI 0))) (MdW E b (setS T 0 (untF S no id)) (wOf S nc nt no) M)) 0 0 := by
  refine Ct.of gmX5_untable (ls := [.ref (b 0), .int id, hole]) rfl rfl (Nat.le_of_ble_eq_true rfl) ?_
  intro X hX Q hQ
  have hwf2 := hwf
  obtain ⟨hnc, hncl, hnt, hntl, hno, hnol⟩ := hwf2
  have hw0 : wOf S nc nt no 0 = nI nc := hnc
  have hw1 : wOf S nc nt no 1 = nI nt := hnt
  have hw2 : wOf S nc nt no 2 = nI no := hno
  refine gq_aload_n hX dX5_untable_0 rfl rfl rfl ?_
  refine gq_iconst (v := nI 0) hX dX5_untable_1 rfl (by decide) ?_
  refine gq_putf hX dX5_untable_2 rfl fX5_42 rfl rfl rfl (mqR0 hb) (Nat.le_of_ble_eq_true rfl) (hb.2 0 (by decide)) (mqW0_0 hb) ?_
  refine gq_aload_n hX dX5_untable_5 rfl rfl rfl ?_
  refine gq_iload_n hX dX5_untable_6 rfl rfl rfl ?_
  refine gq_callVe hX dX5_untable_7 rfl vX5_146 (mt_notUntable hb hwf _) rfl (mqR0 hb) rfl rfl (Nat.le_of_ble_eq_true rfl) ⟨(Nat.le_of_ble_eq_true rfl), (Nat.le_of_ble_eq_true rfl)⟩ (Nat.zero_add _) (Nat.zero_add _) ?_
  refine gq_istore_n hX dX5_untable_10 rfl rfl (Nat.le_of_ble_eq_true rfl) rfl ?_
  refine gq_iload_n hX dX5_untable_11 rfl rfl rfl ?_
  refine gq_if_eqF (tgt := 21) hX dX5_untable_12 rfl rfl hF ?_
  refine gq_aload_n hX dX5_untable_15 rfl rfl rfl ?_
  refine gq_iload_n hX dX5_untable_16 rfl rfl rfl ?_
  refine gq_callVe hX dX5_untable_17 rfl vX5_79 (mt_fails hb _) rfl (mqR0 hb) rfl rfl (Nat.le_of_ble_eq_true rfl) ⟨(Nat.le_of_ble_eq_true rfl), (Nat.le_of_ble_eq_true rfl)⟩ (Nat.zero_add _) (Nat.zero_add _) ?_
  exact gq_iret hX hQ dX5_untable_20 rfl ⟨rfl, by rw [setS_2]⟩

set_option maxRecDepth 100000 in
set_option maxHeartbeats 4000000 in
theorem mo_untable_ok {E : Ev} {b : Nat → Nat} {T : St} {M : Hp} (hb : Lay E 9 b) {S : St} {nc nt no : Nat} (hwf : Wf S nc nt no) {f c : Nat} (hr : RgH T f c) (id : Int32) (hF : (untF S no id) = 0) {k a : Nat} (ho : slotO S no id = some k) (hmv : S.2 9 k = nI a) (ha : a < nc) : Ct E mX5_untable [.ref (b 0), .int id] (MdW E b T (wOf S nc nt no) M) (eqR (some (.int (S.2 2 a + nI 1))) (MdW E b (remT (setS T 0 (nI 0)) (wOf S nc nt no) f c) (wOf (untS S k a) nc nt no) M)) 0 0 := by
  refine Ct.of gmX5_untable (ls := [.ref (b 0), .int id, hole]) rfl rfl (Nat.le_of_ble_eq_true rfl) ?_
  intro X hX Q hQ
  have hwf2 := hwf
  obtain ⟨hnc, hncl, hnt, hntl, hno, hnol⟩ := hwf2
  have hw0 : wOf S nc nt no 0 = nI nc := hnc
  have hw1 : wOf S nc nt no 1 = nI nt := hnt
  have hw2 : wOf S nc nt no 2 = nI no := hno
  refine gq_aload_n hX dX5_untable_0 rfl rfl rfl ?_
  refine gq_iconst (v := nI 0) hX dX5_untable_1 rfl (by decide) ?_
  refine gq_putf hX dX5_untable_2 rfl fX5_42 rfl rfl rfl (mqR0 hb) (Nat.le_of_ble_eq_true rfl) (hb.2 0 (by decide)) (mqW0_0 hb) ?_
  refine gq_aload_n hX dX5_untable_5 rfl rfl rfl ?_
  refine gq_iload_n hX dX5_untable_6 rfl rfl rfl ?_
  refine gq_callVe hX dX5_untable_7 rfl vX5_146 (mt_notUntable hb hwf _) rfl (mqR0 hb) rfl rfl (Nat.le_of_ble_eq_true rfl) ⟨(Nat.le_of_ble_eq_true rfl), (Nat.le_of_ble_eq_true rfl)⟩ (Nat.zero_add _) (Nat.zero_add _) ?_
  refine gq_istore_n hX dX5_untable_10 rfl rfl (Nat.le_of_ble_eq_true rfl) rfl ?_
  refine gq_iload_n hX dX5_untable_11 rfl rfl rfl ?_
  refine gq_if_eqT (tgt := 21) hX dX5_untable_12 rfl hF ?_
  refine gq_aload_n hX dX5_untable_21 rfl rfl rfl ?_
  refine gq_callVe hX dX5_untable_22 rfl vX5_82 (mt_remem hb (T := (setS T 0 (nI 0))) hr) rfl (mqR0 hb) rfl rfl (Nat.le_of_ble_eq_true rfl) ⟨(Nat.le_of_ble_eq_true rfl), (Nat.le_of_ble_eq_true rfl)⟩ (Nat.zero_add _) (Nat.zero_add _) ?_
  refine gq_aload_n hX dX5_untable_25 rfl rfl rfl ?_
  refine gq_iload_n hX dX5_untable_26 rfl rfl rfl ?_
  refine gq_callVe hX dX5_untable_27 rfl vX5_149 (mt_untables hb hwf ho hmv ha) rfl (mqR0 hb) rfl rfl (Nat.le_of_ble_eq_true rfl) ⟨(Nat.le_of_ble_eq_true rfl), (Nat.le_of_ble_eq_true rfl)⟩ (Nat.zero_add _) (Nat.zero_add _) ?_
  exact gq_iret hX hQ dX5_untable_30 rfl ⟨rfl, rfl⟩

set_option maxRecDepth 100000 in
set_option maxHeartbeats 4000000 in
theorem mo_withdraw_bad {E : Ev} {b : Nat → Nat} {T : St} {M : Hp} (hb : Lay E 9 b) {S : St} {nc nt no : Nat} (hwf : Wf S nc nt no) (id : Int32) (hF : ¬ (witF S no id) = 0) : Ct E mX5_withdraw [.ref (b 0), .int id] (MdW E b T (wOf S nc nt no) M) (eqR (some (.int (nI 0))) (MdW E b (setS T 0 (witF S no id)) (wOf S nc nt no) M)) 0 0 := by
  refine Ct.of gmX5_withdraw (ls := [.ref (b 0), .int id, hole]) rfl rfl (Nat.le_of_ble_eq_true rfl) ?_
  intro X hX Q hQ
  have hwf2 := hwf
  obtain ⟨hnc, hncl, hnt, hntl, hno, hnol⟩ := hwf2
  have hw0 : wOf S nc nt no 0 = nI nc := hnc
  have hw1 : wOf S nc nt no 1 = nI nt := hnt
  have hw2 : wOf S nc nt no 2 = nI no := hno
  refine gq_aload_n hX dX5_withdraw_0 rfl rfl rfl ?_
  refine gq_iconst (v := nI 0) hX dX5_withdraw_1 rfl (by decide) ?_
  refine gq_putf hX dX5_withdraw_2 rfl fX5_42 rfl rfl rfl (mqR0 hb) (Nat.le_of_ble_eq_true rfl) (hb.2 0 (by decide)) (mqW0_0 hb) ?_
  refine gq_aload_n hX dX5_withdraw_5 rfl rfl rfl ?_
  refine gq_iload_n hX dX5_withdraw_6 rfl rfl rfl ?_
  refine gq_callVe hX dX5_withdraw_7 rfl vX5_156 (mt_notWithdraw hb hwf _) rfl (mqR0 hb) rfl rfl (Nat.le_of_ble_eq_true rfl) ⟨(Nat.le_of_ble_eq_true rfl), (Nat.le_of_ble_eq_true rfl)⟩ (Nat.zero_add _) (Nat.zero_add _) ?_
  refine gq_istore_n hX dX5_withdraw_10 rfl rfl (Nat.le_of_ble_eq_true rfl) rfl ?_
  refine gq_iload_n hX dX5_withdraw_11 rfl rfl rfl ?_
  refine gq_if_eqF (tgt := 21) hX dX5_withdraw_12 rfl rfl hF ?_
  refine gq_aload_n hX dX5_withdraw_15 rfl rfl rfl ?_
  refine gq_iload_n hX dX5_withdraw_16 rfl rfl rfl ?_
  refine gq_callVe hX dX5_withdraw_17 rfl vX5_79 (mt_fails hb _) rfl (mqR0 hb) rfl rfl (Nat.le_of_ble_eq_true rfl) ⟨(Nat.le_of_ble_eq_true rfl), (Nat.le_of_ble_eq_true rfl)⟩ (Nat.zero_add _) (Nat.zero_add _) ?_
  exact gq_iret hX hQ dX5_withdraw_20 rfl ⟨rfl, by rw [setS_2]⟩

set_option maxRecDepth 100000 in
set_option maxHeartbeats 4000000 in
theorem mo_withdraw_ok {E : Ev} {b : Nat → Nat} {T : St} {M : Hp} (hb : Lay E 9 b) {S : St} {nc nt no : Nat} (hwf : Wf S nc nt no) {f c : Nat} (hr : RgH T f c) (id : Int32) (hF : (witF S no id) = 0) {k : Nat} (ho : slotO S no id = some k) : Ct E mX5_withdraw [.ref (b 0), .int id] (MdW E b T (wOf S nc nt no) M) (eqR (some (.int ((cloS S no k).1 7))) (MdW E b (remT (setS T 0 (nI 0)) (wOf S nc nt no) f c) (wOf (cloS S no k) nc nt (no - 1)) M)) 0 0 := by
  refine Ct.of gmX5_withdraw (ls := [.ref (b 0), .int id, hole]) rfl rfl (Nat.le_of_ble_eq_true rfl) ?_
  intro X hX Q hQ
  have hwf2 := hwf
  obtain ⟨hnc, hncl, hnt, hntl, hno, hnol⟩ := hwf2
  have hw0 : wOf S nc nt no 0 = nI nc := hnc
  have hw1 : wOf S nc nt no 1 = nI nt := hnt
  have hw2 : wOf S nc nt no 2 = nI no := hno
  refine gq_aload_n hX dX5_withdraw_0 rfl rfl rfl ?_
  refine gq_iconst (v := nI 0) hX dX5_withdraw_1 rfl (by decide) ?_
  refine gq_putf hX dX5_withdraw_2 rfl fX5_42 rfl rfl rfl (mqR0 hb) (Nat.le_of_ble_eq_true rfl) (hb.2 0 (by decide)) (mqW0_0 hb) ?_
  refine gq_aload_n hX dX5_withdraw_5 rfl rfl rfl ?_
  refine gq_iload_n hX dX5_withdraw_6 rfl rfl rfl ?_
  refine gq_callVe hX dX5_withdraw_7 rfl vX5_156 (mt_notWithdraw hb hwf _) rfl (mqR0 hb) rfl rfl (Nat.le_of_ble_eq_true rfl) ⟨(Nat.le_of_ble_eq_true rfl), (Nat.le_of_ble_eq_true rfl)⟩ (Nat.zero_add _) (Nat.zero_add _) ?_
  refine gq_istore_n hX dX5_withdraw_10 rfl rfl (Nat.le_of_ble_eq_true rfl) rfl ?_
  refine gq_iload_n hX dX5_withdraw_11 rfl rfl rfl ?_
  refine gq_if_eqT (tgt := 21) hX dX5_withdraw_12 rfl hF ?_
  refine gq_aload_n hX dX5_withdraw_21 rfl rfl rfl ?_
  refine gq_callVe hX dX5_withdraw_22 rfl vX5_82 (mt_remem hb (T := (setS T 0 (nI 0))) hr) rfl (mqR0 hb) rfl rfl (Nat.le_of_ble_eq_true rfl) ⟨(Nat.le_of_ble_eq_true rfl), (Nat.le_of_ble_eq_true rfl)⟩ (Nat.zero_add _) (Nat.zero_add _) ?_
  refine gq_aload_n hX dX5_withdraw_25 rfl rfl rfl ?_
  refine gq_iload_n hX dX5_withdraw_26 rfl rfl rfl ?_
  refine gq_callVe hX dX5_withdraw_27 rfl vX5_159 (mt_withdraws hb hwf ho) rfl (mqR0 hb) rfl rfl (Nat.le_of_ble_eq_true rfl) ⟨(Nat.le_of_ble_eq_true rfl), (Nat.le_of_ble_eq_true rfl)⟩ (Nat.zero_add _) (Nat.zero_add _) ?_
  exact gq_iret hX hQ dX5_withdraw_30 rfl ⟨rfl, rfl⟩

theorem carI_01 (S : St) (nc k a o : Nat) : carI S nc k a o = nI 0 ∨ carI S nc k a o = nI 1 := by
  unfold carI
  split
  · exact Or.inl rfl
  · split
    · exact Or.inl rfl
    · exact Or.inr rfl

set_option maxRecDepth 100000 in
set_option maxHeartbeats 4000000 in
theorem mo_vote_bad {E : Ev} {b : Nat → Nat} {T : St} {M : Hp} (hb : Lay E 9 b) {S : St} {nc nt no : Nat} (hwf : Wf S nc nt no) (hn : Nar S) (id : Int32) (hF : ¬ (votF S no id) = 0) : Ct E mX5_vote [.ref (b 0), .int id] (MdW E b T (wOf S nc nt no) M) (eqR (some (.int (nI 0))) (MdW E b (setS T 0 (votF S no id)) (wOf S nc nt no) M)) 0 0 := by
  refine Ct.of gmX5_vote (ls := [.ref (b 0), .int id, hole]) rfl rfl (Nat.le_of_ble_eq_true rfl) ?_
  intro X hX Q hQ
  have hwf2 := hwf
  obtain ⟨hnc, hncl, hnt, hntl, hno, hnol⟩ := hwf2
  have hw0 : wOf S nc nt no 0 = nI nc := hnc
  have hw1 : wOf S nc nt no 1 = nI nt := hnt
  have hw2 : wOf S nc nt no 2 = nI no := hno
  refine gq_aload_n hX dX5_vote_0 rfl rfl rfl ?_
  refine gq_iconst (v := nI 0) hX dX5_vote_1 rfl (by decide) ?_
  refine gq_putf hX dX5_vote_2 rfl fX5_42 rfl rfl rfl (mqR0 hb) (Nat.le_of_ble_eq_true rfl) (hb.2 0 (by decide)) (mqW0_0 hb) ?_
  refine gq_aload_n hX dX5_vote_5 rfl rfl rfl ?_
  refine gq_iload_n hX dX5_vote_6 rfl rfl rfl ?_
  refine gq_callVe hX dX5_vote_7 rfl vX5_177 (mt_notVote hb hwf hn _) rfl (mqR0 hb) rfl rfl (Nat.le_of_ble_eq_true rfl) ⟨(Nat.le_of_ble_eq_true rfl), (Nat.le_of_ble_eq_true rfl)⟩ (Nat.zero_add _) (Nat.zero_add _) ?_
  refine gq_istore_n hX dX5_vote_10 rfl rfl (Nat.le_of_ble_eq_true rfl) rfl ?_
  refine gq_iload_n hX dX5_vote_11 rfl rfl rfl ?_
  refine gq_if_eqF (tgt := 29) hX dX5_vote_12 rfl rfl hF ?_
  refine gq_aload_n hX dX5_vote_15 rfl rfl rfl ?_
  refine gq_iload_n hX dX5_vote_16 rfl rfl rfl ?_
  refine gq_callVe hX dX5_vote_17 rfl vX5_79 (mt_fails hb _) rfl (mqR0 hb) rfl rfl (Nat.le_of_ble_eq_true rfl) ⟨(Nat.le_of_ble_eq_true rfl), (Nat.le_of_ble_eq_true rfl)⟩ (Nat.zero_add _) (Nat.zero_add _) ?_
  refine gq_if_le (tgt := 27) hX dX5_vote_20 rfl rfl (fun cz => ?_) (fun cz => ?_)
  · refine gq_iconst (v := nI 0) hX dX5_vote_27 rfl (by decide) ?_
    exact gq_zret hX hQ dX5_vote_28 rfl rfl ⟨rfl, by rw [setS_2]⟩
  · exact absurd (show (nI 0 : Int32) ≤ 0 from by decide) cz

set_option maxRecDepth 100000 in
set_option maxHeartbeats 4000000 in
theorem mo_vote_ok {E : Ev} {b : Nat → Nat} {T : St} {M : Hp} (hb : Lay E 9 b) {S : St} {nc nt no : Nat} (hwf : Wf S nc nt no) {f c : Nat} (hr : RgH T f c) (hn : Nar S) (id : Int32) (hF : (votF S no id) = 0) {k a o : Nat} (ho : slotO S no id = some k) (hmv : S.2 9 k = nI a) (ha : a < nc) (ho2 : ObjOk S nc nt k o) : Ct E mX5_vote [.ref (b 0), .int id] (MdW E b T (wOf S nc nt no) M) (eqR (some (.int (carI S nc k a o))) (MdW E b (remT (setS T 0 (nI 0)) (wOf S nc nt no) f c) (wOf (votS S nc nt no k a o) nc nt (no - 1)) M)) 0 0 := by
  refine Ct.of gmX5_vote (ls := [.ref (b 0), .int id, hole]) rfl rfl (Nat.le_of_ble_eq_true rfl) ?_
  intro X hX Q hQ
  have hwf2 := hwf
  obtain ⟨hnc, hncl, hnt, hntl, hno, hnol⟩ := hwf2
  have hw0 : wOf S nc nt no 0 = nI nc := hnc
  have hw1 : wOf S nc nt no 1 = nI nt := hnt
  have hw2 : wOf S nc nt no 2 = nI no := hno
  refine gq_aload_n hX dX5_vote_0 rfl rfl rfl ?_
  refine gq_iconst (v := nI 0) hX dX5_vote_1 rfl (by decide) ?_
  refine gq_putf hX dX5_vote_2 rfl fX5_42 rfl rfl rfl (mqR0 hb) (Nat.le_of_ble_eq_true rfl) (hb.2 0 (by decide)) (mqW0_0 hb) ?_
  refine gq_aload_n hX dX5_vote_5 rfl rfl rfl ?_
  refine gq_iload_n hX dX5_vote_6 rfl rfl rfl ?_
  refine gq_callVe hX dX5_vote_7 rfl vX5_177 (mt_notVote hb hwf hn _) rfl (mqR0 hb) rfl rfl (Nat.le_of_ble_eq_true rfl) ⟨(Nat.le_of_ble_eq_true rfl), (Nat.le_of_ble_eq_true rfl)⟩ (Nat.zero_add _) (Nat.zero_add _) ?_
  refine gq_istore_n hX dX5_vote_10 rfl rfl (Nat.le_of_ble_eq_true rfl) rfl ?_
  refine gq_iload_n hX dX5_vote_11 rfl rfl rfl ?_
  refine gq_if_eqT (tgt := 29) hX dX5_vote_12 rfl hF ?_
  refine gq_aload_n hX dX5_vote_29 rfl rfl rfl ?_
  refine gq_callVe hX dX5_vote_30 rfl vX5_82 (mt_remem hb (T := (setS T 0 (nI 0))) hr) rfl (mqR0 hb) rfl rfl (Nat.le_of_ble_eq_true rfl) ⟨(Nat.le_of_ble_eq_true rfl), (Nat.le_of_ble_eq_true rfl)⟩ (Nat.zero_add _) (Nat.zero_add _) ?_
  refine gq_aload_n hX dX5_vote_33 rfl rfl rfl ?_
  refine gq_iload_n hX dX5_vote_34 rfl rfl rfl ?_
  refine gq_callVe hX dX5_vote_35 rfl vX5_180 (mt_votesOn hb hwf ho hn hmv ha ho2) rfl (mqR0 hb) rfl rfl (Nat.le_of_ble_eq_true rfl) ⟨(Nat.le_of_ble_eq_true rfl), (Nat.le_of_ble_eq_true rfl)⟩ (Nat.zero_add _) (Nat.zero_add _) ?_
  refine gq_iconst (v := nI 1) hX dX5_vote_38 rfl (by decide) ?_
  refine gq_icmp_ne (tgt := 46) hX dX5_vote_39 rfl rfl (fun cz => ?_) (fun cz => ?_)
  · have h01 : carI S nc k a o = nI 0 := (carI_01 S nc k a o).resolve_right cz
    refine gq_iconst (v := nI 0) hX dX5_vote_46 rfl (by decide) ?_
    exact gq_zret hX hQ dX5_vote_47 rfl rfl ⟨by rw [h01], rfl⟩
  · refine gq_iconst (v := nI 1) hX dX5_vote_42 rfl (by decide) ?_
    refine gq_goto (tgt := 47) hX dX5_vote_43 rfl ?_
    exact gq_zret hX hQ dX5_vote_47 rfl rfl ⟨by rw [show carI S nc k a o = nI 1 from cz], rfl⟩

set_option maxRecDepth 100000 in
set_option maxHeartbeats 4000000 in
theorem mo_gust_bad {E : Ev} {b : Nat → Nat} {T : St} {M : Hp} (hb : Lay E 9 b) {S : St} {nc nt no : Nat} (hwf : Wf S nc nt no) (s : Int32) (hF : ¬ (gusF s) = 0) : Ct E mX5_gust [.ref (b 0), .int s] (MdW E b T (wOf S nc nt no) M) (eqR (some (.int (nI 0))) (MdW E b (setS T 0 (nI 1)) (wOf S nc nt no) M)) 0 0 := by
  refine Ct.of gmX5_gust (ls := [.ref (b 0), .int s]) rfl rfl (Nat.le_of_ble_eq_true rfl) ?_
  intro X hX Q hQ
  have hwf2 := hwf
  obtain ⟨hnc, hncl, hnt, hntl, hno, hnol⟩ := hwf2
  have hw0 : wOf S nc nt no 0 = nI nc := hnc
  have hw1 : wOf S nc nt no 1 = nI nt := hnt
  have hw2 : wOf S nc nt no 2 = nI no := hno
  refine gq_aload_n hX dX5_gust_0 rfl rfl rfl ?_
  refine gq_iconst (v := nI 0) hX dX5_gust_1 rfl (by decide) ?_
  refine gq_putf hX dX5_gust_2 rfl fX5_42 rfl rfl rfl (mqR0 hb) (Nat.le_of_ble_eq_true rfl) (hb.2 0 (by decide)) (mqW0_0 hb) ?_
  refine gq_iload_n hX dX5_gust_5 rfl rfl rfl ?_
  refine gq_callSe hX dX5_gust_6 rfl vX5_186 (mt_notGust _) rfl rfl (Nat.le_of_ble_eq_true rfl) ⟨(Nat.le_of_ble_eq_true rfl), (Nat.le_of_ble_eq_true rfl)⟩ (Nat.zero_add _) (Nat.zero_add _) ?_
  refine gq_if_eqF (tgt := 18) hX dX5_gust_9 rfl rfl hF ?_
  refine gq_aload_n hX dX5_gust_12 rfl rfl rfl ?_
  refine gq_iconst (v := nI 1) hX dX5_gust_13 rfl (by decide) ?_
  refine gq_callVe hX dX5_gust_14 rfl vX5_79 (mt_fails hb _) rfl (mqR0 hb) rfl rfl (Nat.le_of_ble_eq_true rfl) ⟨(Nat.le_of_ble_eq_true rfl), (Nat.le_of_ble_eq_true rfl)⟩ (Nat.zero_add _) (Nat.zero_add _) ?_
  exact gq_iret hX hQ dX5_gust_17 rfl ⟨rfl, by rw [setS_2]⟩

set_option maxRecDepth 100000 in
set_option maxHeartbeats 4000000 in
theorem mo_gust_ok {E : Ev} {b : Nat → Nat} {T : St} {M : Hp} (hb : Lay E 9 b) {S : St} {nc nt no : Nat} (hwf : Wf S nc nt no) {f c : Nat} (hr : RgH T f c) (s : Int32) (hF : (gusF s) = 0) (hn : Nar S) (hmo : ∀ k, k < no → ∃ a, a < nc ∧ S.2 9 k = nI a) : Ct E mX5_gust [.ref (b 0), .int s] (MdW E b T (wOf S nc nt no) M) (eqR (some (.int (gusS S nt no s).2)) (MdW E b (remT (setS T 0 (nI 0)) (wOf S nc nt no) f c) (wOf (gusS S nt no s).1 nc nt no) M)) 0 0 := by
  refine Ct.of gmX5_gust (ls := [.ref (b 0), .int s]) rfl rfl (Nat.le_of_ble_eq_true rfl) ?_
  intro X hX Q hQ
  have hwf2 := hwf
  obtain ⟨hnc, hncl, hnt, hntl, hno, hnol⟩ := hwf2
  have hw0 : wOf S nc nt no 0 = nI nc := hnc
  have hw1 : wOf S nc nt no 1 = nI nt := hnt
  have hw2 : wOf S nc nt no 2 = nI no := hno
  refine gq_aload_n hX dX5_gust_0 rfl rfl rfl ?_
  refine gq_iconst (v := nI 0) hX dX5_gust_1 rfl (by decide) ?_
  refine gq_putf hX dX5_gust_2 rfl fX5_42 rfl rfl rfl (mqR0 hb) (Nat.le_of_ble_eq_true rfl) (hb.2 0 (by decide)) (mqW0_0 hb) ?_
  refine gq_iload_n hX dX5_gust_5 rfl rfl rfl ?_
  refine gq_callSe hX dX5_gust_6 rfl vX5_186 (mt_notGust _) rfl rfl (Nat.le_of_ble_eq_true rfl) ⟨(Nat.le_of_ble_eq_true rfl), (Nat.le_of_ble_eq_true rfl)⟩ (Nat.zero_add _) (Nat.zero_add _) ?_
  refine gq_if_eqT (tgt := 18) hX dX5_gust_9 rfl hF ?_
  refine gq_aload_n hX dX5_gust_18 rfl rfl rfl ?_
  refine gq_callVe hX dX5_gust_19 rfl vX5_82 (mt_remem hb (T := (setS T 0 (nI 0))) hr) rfl (mqR0 hb) rfl rfl (Nat.le_of_ble_eq_true rfl) ⟨(Nat.le_of_ble_eq_true rfl), (Nat.le_of_ble_eq_true rfl)⟩ (Nat.zero_add _) (Nat.zero_add _) ?_
  refine gq_aload_n hX dX5_gust_22 rfl rfl rfl ?_
  refine gq_iload_n hX dX5_gust_23 rfl rfl rfl ?_
  refine gq_callVe hX dX5_gust_24 rfl vX5_189 (mt_blows hb hwf hn hmo _) rfl (mqR0 hb) rfl rfl (Nat.le_of_ble_eq_true rfl) ⟨(Nat.le_of_ble_eq_true rfl), (Nat.le_of_ble_eq_true rfl)⟩ (Nat.zero_add _) (Nat.zero_add _) ?_
  exact gq_iret hX hQ dX5_gust_27 rfl ⟨rfl, rfl⟩

set_option maxRecDepth 100000 in
set_option maxHeartbeats 4000000 in
theorem mo_pass_bad {E : Ev} {b : Nat → Nat} {T : St} {M : Hp} (hb : Lay E 9 b) {S : St} {nc nt no : Nat} (hwf : Wf S nc nt no) (s : Int32) (hF : ¬ (pasF s) = 0) : Ct E mX5_pass [.ref (b 0), .int s] (MdW E b T (wOf S nc nt no) M) (eqR (some (.int (nI 0))) (MdW E b (setS T 0 (nI 1)) (wOf S nc nt no) M)) 0 0 := by
  refine Ct.of gmX5_pass (ls := [.ref (b 0), .int s]) rfl rfl (Nat.le_of_ble_eq_true rfl) ?_
  intro X hX Q hQ
  have hwf2 := hwf
  obtain ⟨hnc, hncl, hnt, hntl, hno, hnol⟩ := hwf2
  have hw0 : wOf S nc nt no 0 = nI nc := hnc
  have hw1 : wOf S nc nt no 1 = nI nt := hnt
  have hw2 : wOf S nc nt no 2 = nI no := hno
  refine gq_aload_n hX dX5_pass_0 rfl rfl rfl ?_
  refine gq_iconst (v := nI 0) hX dX5_pass_1 rfl (by decide) ?_
  refine gq_putf hX dX5_pass_2 rfl fX5_42 rfl rfl rfl (mqR0 hb) (Nat.le_of_ble_eq_true rfl) (hb.2 0 (by decide)) (mqW0_0 hb) ?_
  refine gq_iload_n hX dX5_pass_5 rfl rfl rfl ?_
  refine gq_callSe hX dX5_pass_6 rfl vX5_195 (mt_notPass _) rfl rfl (Nat.le_of_ble_eq_true rfl) ⟨(Nat.le_of_ble_eq_true rfl), (Nat.le_of_ble_eq_true rfl)⟩ (Nat.zero_add _) (Nat.zero_add _) ?_
  refine gq_if_eqF (tgt := 18) hX dX5_pass_9 rfl rfl hF ?_
  refine gq_aload_n hX dX5_pass_12 rfl rfl rfl ?_
  refine gq_iconst (v := nI 1) hX dX5_pass_13 rfl (by decide) ?_
  refine gq_callVe hX dX5_pass_14 rfl vX5_79 (mt_fails hb _) rfl (mqR0 hb) rfl rfl (Nat.le_of_ble_eq_true rfl) ⟨(Nat.le_of_ble_eq_true rfl), (Nat.le_of_ble_eq_true rfl)⟩ (Nat.zero_add _) (Nat.zero_add _) ?_
  exact gq_iret hX hQ dX5_pass_17 rfl ⟨rfl, by rw [setS_2]⟩

set_option maxRecDepth 100000 in
set_option maxHeartbeats 4000000 in
theorem mo_pass_ok {E : Ev} {b : Nat → Nat} {T : St} {M : Hp} (hb : Lay E 9 b) {S : St} {nc nt no : Nat} (hwf : Wf S nc nt no) {f c : Nat} (hr : RgH T f c) (s : Int32) (hF : (pasF s) = 0) (hn : Nar S) {h : Nat} (hh : h < 1000) (hsh : s = nI h) : Ct E mX5_pass [.ref (b 0), .int s] (MdW E b T (wOf S nc nt no) M) (eqR (some (.int (pasS S nt nc h).2)) (MdW E b (remT (setS T 0 (nI 0)) (wOf S nc nt no) f c) (wOf (pasS S nt nc h).1 nc nt no) M)) 0 0 := by
  refine Ct.of gmX5_pass (ls := [.ref (b 0), .int s]) rfl rfl (Nat.le_of_ble_eq_true rfl) ?_
  intro X hX Q hQ
  have hwf2 := hwf
  obtain ⟨hnc, hncl, hnt, hntl, hno, hnol⟩ := hwf2
  have hw0 : wOf S nc nt no 0 = nI nc := hnc
  have hw1 : wOf S nc nt no 1 = nI nt := hnt
  have hw2 : wOf S nc nt no 2 = nI no := hno
  subst hsh
  refine gq_aload_n hX dX5_pass_0 rfl rfl rfl ?_
  refine gq_iconst (v := nI 0) hX dX5_pass_1 rfl (by decide) ?_
  refine gq_putf hX dX5_pass_2 rfl fX5_42 rfl rfl rfl (mqR0 hb) (Nat.le_of_ble_eq_true rfl) (hb.2 0 (by decide)) (mqW0_0 hb) ?_
  refine gq_iload_n hX dX5_pass_5 rfl rfl rfl ?_
  refine gq_callSe hX dX5_pass_6 rfl vX5_195 (mt_notPass _) rfl rfl (Nat.le_of_ble_eq_true rfl) ⟨(Nat.le_of_ble_eq_true rfl), (Nat.le_of_ble_eq_true rfl)⟩ (Nat.zero_add _) (Nat.zero_add _) ?_
  refine gq_if_eqT (tgt := 18) hX dX5_pass_9 rfl hF ?_
  refine gq_aload_n hX dX5_pass_18 rfl rfl rfl ?_
  refine gq_callVe hX dX5_pass_19 rfl vX5_82 (mt_remem hb (T := (setS T 0 (nI 0))) hr) rfl (mqR0 hb) rfl rfl (Nat.le_of_ble_eq_true rfl) ⟨(Nat.le_of_ble_eq_true rfl), (Nat.le_of_ble_eq_true rfl)⟩ (Nat.zero_add _) (Nat.zero_add _) ?_
  refine gq_aload_n hX dX5_pass_22 rfl rfl rfl ?_
  refine gq_iload_n hX dX5_pass_23 rfl rfl rfl ?_
  refine gq_callVe hX dX5_pass_24 rfl vX5_198 (mt_passes hb hwf hn hh) rfl (mqR0 hb) rfl rfl (Nat.le_of_ble_eq_true rfl) ⟨(Nat.le_of_ble_eq_true rfl), (Nat.le_of_ble_eq_true rfl)⟩ (Nat.zero_add _) (Nat.zero_add _) ?_
  exact gq_iret hX hQ dX5_pass_27 rfl ⟨rfl, rfl⟩

set_option maxRecDepth 100000 in
set_option maxHeartbeats 4000000 in
theorem mv_rent_bad {E : Ev} {b : Nat → Nat} {T : St} {M : Hp} (hb : Lay E 9 b) {S : St} {nc nt no : Nat} (hwf : Wf S nc nt no) (c0 o : Int32) (hF : ¬ tmoF S nc nt c0 o = 0) : Ct E mX5_moves [.ref (b 0), .int c0, .int (nI 0), .int o] (MdW E b T (wOf S nc nt no) M) (eqR (some (.int (nI 0))) (MdW E b (setS T 0 (tmoF S nc nt c0 o)) (wOf S nc nt no) M)) 0 0 := by
  refine Ct.of gmX5_moves (ls := [.ref (b 0), .int c0, .int (nI 0), .int o, hole]) rfl rfl (Nat.le_of_ble_eq_true rfl) ?_
  intro X hX Q hQ
  have hwf2 := hwf
  obtain ⟨hnc, hncl, hnt, hntl, hno, hnol⟩ := hwf2
  have hw0 : wOf S nc nt no 0 = nI nc := hnc
  have hw1 : wOf S nc nt no 1 = nI nt := hnt
  have hw2 : wOf S nc nt no 2 = nI no := hno
  refine gq_aload_n hX dX5_moves_0 rfl rfl rfl ?_
  refine gq_iconst (v := nI 0) hX dX5_moves_1 rfl (by decide) ?_
  refine gq_putf hX dX5_moves_2 rfl fX5_42 rfl rfl rfl (mqR0 hb) (Nat.le_of_ble_eq_true rfl) (hb.2 0 (by decide)) (mqW0_0 hb) ?_
  refine gq_aload_n hX dX5_moves_5 rfl rfl rfl ?_
  refine gq_iload_n hX dX5_moves_6 rfl rfl rfl ?_
  refine gq_iload_n hX dX5_moves_7 rfl rfl rfl ?_
  refine gq_iload_n hX dX5_moves_8 rfl rfl rfl ?_
  refine gq_callVe hX dX5_moves_9 rfl vX5_123 (mt_notMove0 hb hwf _ _) rfl (mqR0 hb) rfl rfl (Nat.le_of_ble_eq_true rfl) ⟨(Nat.le_of_ble_eq_true rfl), (Nat.le_of_ble_eq_true rfl)⟩ (Nat.zero_add _) (Nat.zero_add _) ?_
  refine gq_istore hX dX5_moves_12 rfl (Nat.le_of_ble_eq_true rfl) rfl ?_
  refine gq_iload hX dX5_moves_14 rfl rfl ?_
  refine gq_if_eqF (tgt := 26) hX dX5_moves_16 rfl rfl hF ?_
  refine gq_aload_n hX dX5_moves_19 rfl rfl rfl ?_
  refine gq_iload hX dX5_moves_20 rfl rfl ?_
  refine gq_callVe hX dX5_moves_22 rfl vX5_79 (mt_fails hb _) rfl (mqR0 hb) rfl rfl (Nat.le_of_ble_eq_true rfl) ⟨(Nat.le_of_ble_eq_true rfl), (Nat.le_of_ble_eq_true rfl)⟩ (Nat.zero_add _) (Nat.zero_add _) ?_
  exact gq_iret hX hQ dX5_moves_25 rfl ⟨rfl, by rw [setS_2]⟩

set_option maxRecDepth 100000 in
set_option maxHeartbeats 4000000 in
theorem mv_rent_ok {E : Ev} {b : Nat → Nat} {T : St} {M : Hp} (hb : Lay E 9 b) {S : St} {nc nt no : Nat} (hwf : Wf S nc nt no) {f c : Nat} (hr : RgH T f c) (c0 o : Int32) (hF : tmoF S nc nt c0 o = 0) (hlt : no < 8) : Ct E mX5_moves [.ref (b 0), .int c0, .int (nI 0), .int o] (MdW E b T (wOf S nc nt no) M) (eqR (some (.int (S.1 8))) (MdW E b (remT (setS T 0 (nI 0)) (wOf S nc nt no) f c) (wOf (motS S no (nI 114) c0 o) nc nt (no + 1)) M)) 0 0 := by
  refine Ct.of gmX5_moves (ls := [.ref (b 0), .int c0, .int (nI 0), .int o, hole]) rfl rfl (Nat.le_of_ble_eq_true rfl) ?_
  intro X hX Q hQ
  have hwf2 := hwf
  obtain ⟨hnc, hncl, hnt, hntl, hno, hnol⟩ := hwf2
  have hw0 : wOf S nc nt no 0 = nI nc := hnc
  have hw1 : wOf S nc nt no 1 = nI nt := hnt
  have hw2 : wOf S nc nt no 2 = nI no := hno
  refine gq_aload_n hX dX5_moves_0 rfl rfl rfl ?_
  refine gq_iconst (v := nI 0) hX dX5_moves_1 rfl (by decide) ?_
  refine gq_putf hX dX5_moves_2 rfl fX5_42 rfl rfl rfl (mqR0 hb) (Nat.le_of_ble_eq_true rfl) (hb.2 0 (by decide)) (mqW0_0 hb) ?_
  refine gq_aload_n hX dX5_moves_5 rfl rfl rfl ?_
  refine gq_iload_n hX dX5_moves_6 rfl rfl rfl ?_
  refine gq_iload_n hX dX5_moves_7 rfl rfl rfl ?_
  refine gq_iload_n hX dX5_moves_8 rfl rfl rfl ?_
  refine gq_callVe hX dX5_moves_9 rfl vX5_123 (mt_notMove0 hb hwf _ _) rfl (mqR0 hb) rfl rfl (Nat.le_of_ble_eq_true rfl) ⟨(Nat.le_of_ble_eq_true rfl), (Nat.le_of_ble_eq_true rfl)⟩ (Nat.zero_add _) (Nat.zero_add _) ?_
  refine gq_istore hX dX5_moves_12 rfl (Nat.le_of_ble_eq_true rfl) rfl ?_
  refine gq_iload hX dX5_moves_14 rfl rfl ?_
  refine gq_if_eqT (tgt := 26) hX dX5_moves_16 rfl hF ?_
  refine gq_aload_n hX dX5_moves_26 rfl rfl rfl ?_
  refine gq_callVe hX dX5_moves_27 rfl vX5_82 (mt_remem hb (T := (setS T 0 (nI 0))) hr) rfl (mqR0 hb) rfl rfl (Nat.le_of_ble_eq_true rfl) ⟨(Nat.le_of_ble_eq_true rfl), (Nat.le_of_ble_eq_true rfl)⟩ (Nat.zero_add _) (Nat.zero_add _) ?_
  refine gq_aload_n hX dX5_moves_30 rfl rfl rfl ?_
  refine gq_iload_n hX dX5_moves_31 rfl rfl rfl ?_
  refine gq_iload_n hX dX5_moves_32 rfl rfl rfl ?_
  refine gq_iload_n hX dX5_moves_33 rfl rfl rfl ?_
  refine gq_callVe hX dX5_moves_34 rfl vX5_127 (mt_moves hb hwf hlt (kd := nI 114) (by decide)) rfl (mqR0 hb) rfl rfl (Nat.le_of_ble_eq_true rfl) ⟨(Nat.le_of_ble_eq_true rfl), (Nat.le_of_ble_eq_true rfl)⟩ (Nat.zero_add _) (Nat.zero_add _) ?_
  exact gq_iret hX hQ dX5_moves_37 rfl ⟨rfl, rfl⟩

set_option maxRecDepth 100000 in
set_option maxHeartbeats 4000000 in
theorem mo_rent_bad {E : Ev} {b : Nat → Nat} {T : St} {M : Hp} (hb : Lay E 9 b) {S : St} {nc nt no : Nat} (hwf : Wf S nc nt no) (c0 o : Int32) (hF : ¬ tmoF S nc nt c0 o = 0) : Ct E mX5_moveToRent [.ref (b 0), .int c0, .int o] (MdW E b T (wOf S nc nt no) M) (eqR (some (.int (nI 0))) (MdW E b (setS T 0 (tmoF S nc nt c0 o)) (wOf S nc nt no) M)) 0 0 := by
  refine Ct.of gmX5_moveToRent (ls := [.ref (b 0), .int c0, .int o]) rfl rfl (Nat.le_of_ble_eq_true rfl) ?_
  intro X hX Q hQ
  refine gq_aload_n hX dX5_moveToRent_0 rfl rfl rfl ?_
  refine gq_iload_n hX dX5_moveToRent_1 rfl rfl rfl ?_
  refine gq_iconst (v := nI 0) hX dX5_moveToRent_2 rfl (by decide) ?_
  refine gq_iload_n hX dX5_moveToRent_3 rfl rfl rfl ?_
  refine gq_callVe hX dX5_moveToRent_4 rfl vX5_130 (mv_rent_bad hb hwf _ _ hF) rfl (mqR0 hb) rfl rfl (Nat.le_of_ble_eq_true rfl) ⟨(Nat.le_of_ble_eq_true rfl), (Nat.le_of_ble_eq_true rfl)⟩ (Nat.zero_add _) (Nat.zero_add _) ?_
  exact gq_iret hX hQ dX5_moveToRent_7 rfl ⟨rfl, rfl⟩

set_option maxRecDepth 100000 in
set_option maxHeartbeats 4000000 in
theorem mo_rent_ok {E : Ev} {b : Nat → Nat} {T : St} {M : Hp} (hb : Lay E 9 b) {S : St} {nc nt no : Nat} (hwf : Wf S nc nt no) {f c : Nat} (hr : RgH T f c) (c0 o : Int32) (hF : tmoF S nc nt c0 o = 0) (hlt : no < 8) : Ct E mX5_moveToRent [.ref (b 0), .int c0, .int o] (MdW E b T (wOf S nc nt no) M) (eqR (some (.int (S.1 8))) (MdW E b (remT (setS T 0 (nI 0)) (wOf S nc nt no) f c) (wOf (motS S no (nI 114) c0 o) nc nt (no + 1)) M)) 0 0 := by
  refine Ct.of gmX5_moveToRent (ls := [.ref (b 0), .int c0, .int o]) rfl rfl (Nat.le_of_ble_eq_true rfl) ?_
  intro X hX Q hQ
  refine gq_aload_n hX dX5_moveToRent_0 rfl rfl rfl ?_
  refine gq_iload_n hX dX5_moveToRent_1 rfl rfl rfl ?_
  refine gq_iconst (v := nI 0) hX dX5_moveToRent_2 rfl (by decide) ?_
  refine gq_iload_n hX dX5_moveToRent_3 rfl rfl rfl ?_
  refine gq_callVe hX dX5_moveToRent_4 rfl vX5_130 (mv_rent_ok hb hwf hr _ _ hF hlt) rfl (mqR0 hb) rfl rfl (Nat.le_of_ble_eq_true rfl) ⟨(Nat.le_of_ble_eq_true rfl), (Nat.le_of_ble_eq_true rfl)⟩ (Nat.zero_add _) (Nat.zero_add _) ?_
  exact gq_iret hX hQ dX5_moveToRent_7 rfl ⟨rfl, rfl⟩

set_option maxRecDepth 100000 in
set_option maxHeartbeats 4000000 in
theorem mv_return_bad {E : Ev} {b : Nat → Nat} {T : St} {M : Hp} (hb : Lay E 9 b) {S : St} {nc nt no : Nat} (hwf : Wf S nc nt no) (c0 o : Int32) (hF : ¬ tmoF S nc nt c0 o = 0) : Ct E mX5_moves [.ref (b 0), .int c0, .int (nI 1), .int o] (MdW E b T (wOf S nc nt no) M) (eqR (some (.int (nI 0))) (MdW E b (setS T 0 (tmoF S nc nt c0 o)) (wOf S nc nt no) M)) 0 0 := by
  refine Ct.of gmX5_moves (ls := [.ref (b 0), .int c0, .int (nI 1), .int o, hole]) rfl rfl (Nat.le_of_ble_eq_true rfl) ?_
  intro X hX Q hQ
  have hwf2 := hwf
  obtain ⟨hnc, hncl, hnt, hntl, hno, hnol⟩ := hwf2
  have hw0 : wOf S nc nt no 0 = nI nc := hnc
  have hw1 : wOf S nc nt no 1 = nI nt := hnt
  have hw2 : wOf S nc nt no 2 = nI no := hno
  refine gq_aload_n hX dX5_moves_0 rfl rfl rfl ?_
  refine gq_iconst (v := nI 0) hX dX5_moves_1 rfl (by decide) ?_
  refine gq_putf hX dX5_moves_2 rfl fX5_42 rfl rfl rfl (mqR0 hb) (Nat.le_of_ble_eq_true rfl) (hb.2 0 (by decide)) (mqW0_0 hb) ?_
  refine gq_aload_n hX dX5_moves_5 rfl rfl rfl ?_
  refine gq_iload_n hX dX5_moves_6 rfl rfl rfl ?_
  refine gq_iload_n hX dX5_moves_7 rfl rfl rfl ?_
  refine gq_iload_n hX dX5_moves_8 rfl rfl rfl ?_
  refine gq_callVe hX dX5_moves_9 rfl vX5_123 (mt_notMove1 hb hwf _ _) rfl (mqR0 hb) rfl rfl (Nat.le_of_ble_eq_true rfl) ⟨(Nat.le_of_ble_eq_true rfl), (Nat.le_of_ble_eq_true rfl)⟩ (Nat.zero_add _) (Nat.zero_add _) ?_
  refine gq_istore hX dX5_moves_12 rfl (Nat.le_of_ble_eq_true rfl) rfl ?_
  refine gq_iload hX dX5_moves_14 rfl rfl ?_
  refine gq_if_eqF (tgt := 26) hX dX5_moves_16 rfl rfl hF ?_
  refine gq_aload_n hX dX5_moves_19 rfl rfl rfl ?_
  refine gq_iload hX dX5_moves_20 rfl rfl ?_
  refine gq_callVe hX dX5_moves_22 rfl vX5_79 (mt_fails hb _) rfl (mqR0 hb) rfl rfl (Nat.le_of_ble_eq_true rfl) ⟨(Nat.le_of_ble_eq_true rfl), (Nat.le_of_ble_eq_true rfl)⟩ (Nat.zero_add _) (Nat.zero_add _) ?_
  exact gq_iret hX hQ dX5_moves_25 rfl ⟨rfl, by rw [setS_2]⟩

set_option maxRecDepth 100000 in
set_option maxHeartbeats 4000000 in
theorem mv_return_ok {E : Ev} {b : Nat → Nat} {T : St} {M : Hp} (hb : Lay E 9 b) {S : St} {nc nt no : Nat} (hwf : Wf S nc nt no) {f c : Nat} (hr : RgH T f c) (c0 o : Int32) (hF : tmoF S nc nt c0 o = 0) (hlt : no < 8) : Ct E mX5_moves [.ref (b 0), .int c0, .int (nI 1), .int o] (MdW E b T (wOf S nc nt no) M) (eqR (some (.int (S.1 8))) (MdW E b (remT (setS T 0 (nI 0)) (wOf S nc nt no) f c) (wOf (motS S no (nI 116) c0 o) nc nt (no + 1)) M)) 0 0 := by
  refine Ct.of gmX5_moves (ls := [.ref (b 0), .int c0, .int (nI 1), .int o, hole]) rfl rfl (Nat.le_of_ble_eq_true rfl) ?_
  intro X hX Q hQ
  have hwf2 := hwf
  obtain ⟨hnc, hncl, hnt, hntl, hno, hnol⟩ := hwf2
  have hw0 : wOf S nc nt no 0 = nI nc := hnc
  have hw1 : wOf S nc nt no 1 = nI nt := hnt
  have hw2 : wOf S nc nt no 2 = nI no := hno
  refine gq_aload_n hX dX5_moves_0 rfl rfl rfl ?_
  refine gq_iconst (v := nI 0) hX dX5_moves_1 rfl (by decide) ?_
  refine gq_putf hX dX5_moves_2 rfl fX5_42 rfl rfl rfl (mqR0 hb) (Nat.le_of_ble_eq_true rfl) (hb.2 0 (by decide)) (mqW0_0 hb) ?_
  refine gq_aload_n hX dX5_moves_5 rfl rfl rfl ?_
  refine gq_iload_n hX dX5_moves_6 rfl rfl rfl ?_
  refine gq_iload_n hX dX5_moves_7 rfl rfl rfl ?_
  refine gq_iload_n hX dX5_moves_8 rfl rfl rfl ?_
  refine gq_callVe hX dX5_moves_9 rfl vX5_123 (mt_notMove1 hb hwf _ _) rfl (mqR0 hb) rfl rfl (Nat.le_of_ble_eq_true rfl) ⟨(Nat.le_of_ble_eq_true rfl), (Nat.le_of_ble_eq_true rfl)⟩ (Nat.zero_add _) (Nat.zero_add _) ?_
  refine gq_istore hX dX5_moves_12 rfl (Nat.le_of_ble_eq_true rfl) rfl ?_
  refine gq_iload hX dX5_moves_14 rfl rfl ?_
  refine gq_if_eqT (tgt := 26) hX dX5_moves_16 rfl hF ?_
  refine gq_aload_n hX dX5_moves_26 rfl rfl rfl ?_
  refine gq_callVe hX dX5_moves_27 rfl vX5_82 (mt_remem hb (T := (setS T 0 (nI 0))) hr) rfl (mqR0 hb) rfl rfl (Nat.le_of_ble_eq_true rfl) ⟨(Nat.le_of_ble_eq_true rfl), (Nat.le_of_ble_eq_true rfl)⟩ (Nat.zero_add _) (Nat.zero_add _) ?_
  refine gq_aload_n hX dX5_moves_30 rfl rfl rfl ?_
  refine gq_iload_n hX dX5_moves_31 rfl rfl rfl ?_
  refine gq_iload_n hX dX5_moves_32 rfl rfl rfl ?_
  refine gq_iload_n hX dX5_moves_33 rfl rfl rfl ?_
  refine gq_callVe hX dX5_moves_34 rfl vX5_127 (mt_moves hb hwf hlt (kd := nI 116) (by decide)) rfl (mqR0 hb) rfl rfl (Nat.le_of_ble_eq_true rfl) ⟨(Nat.le_of_ble_eq_true rfl), (Nat.le_of_ble_eq_true rfl)⟩ (Nat.zero_add _) (Nat.zero_add _) ?_
  exact gq_iret hX hQ dX5_moves_37 rfl ⟨rfl, rfl⟩

set_option maxRecDepth 100000 in
set_option maxHeartbeats 4000000 in
theorem mo_return_bad {E : Ev} {b : Nat → Nat} {T : St} {M : Hp} (hb : Lay E 9 b) {S : St} {nc nt no : Nat} (hwf : Wf S nc nt no) (c0 o : Int32) (hF : ¬ tmoF S nc nt c0 o = 0) : Ct E mX5_moveToReturn [.ref (b 0), .int c0, .int o] (MdW E b T (wOf S nc nt no) M) (eqR (some (.int (nI 0))) (MdW E b (setS T 0 (tmoF S nc nt c0 o)) (wOf S nc nt no) M)) 0 0 := by
  refine Ct.of gmX5_moveToReturn (ls := [.ref (b 0), .int c0, .int o]) rfl rfl (Nat.le_of_ble_eq_true rfl) ?_
  intro X hX Q hQ
  refine gq_aload_n hX dX5_moveToReturn_0 rfl rfl rfl ?_
  refine gq_iload_n hX dX5_moveToReturn_1 rfl rfl rfl ?_
  refine gq_iconst (v := nI 1) hX dX5_moveToReturn_2 rfl (by decide) ?_
  refine gq_iload_n hX dX5_moveToReturn_3 rfl rfl rfl ?_
  refine gq_callVe hX dX5_moveToReturn_4 rfl vX5_130 (mv_return_bad hb hwf _ _ hF) rfl (mqR0 hb) rfl rfl (Nat.le_of_ble_eq_true rfl) ⟨(Nat.le_of_ble_eq_true rfl), (Nat.le_of_ble_eq_true rfl)⟩ (Nat.zero_add _) (Nat.zero_add _) ?_
  exact gq_iret hX hQ dX5_moveToReturn_7 rfl ⟨rfl, rfl⟩

set_option maxRecDepth 100000 in
set_option maxHeartbeats 4000000 in
theorem mo_return_ok {E : Ev} {b : Nat → Nat} {T : St} {M : Hp} (hb : Lay E 9 b) {S : St} {nc nt no : Nat} (hwf : Wf S nc nt no) {f c : Nat} (hr : RgH T f c) (c0 o : Int32) (hF : tmoF S nc nt c0 o = 0) (hlt : no < 8) : Ct E mX5_moveToReturn [.ref (b 0), .int c0, .int o] (MdW E b T (wOf S nc nt no) M) (eqR (some (.int (S.1 8))) (MdW E b (remT (setS T 0 (nI 0)) (wOf S nc nt no) f c) (wOf (motS S no (nI 116) c0 o) nc nt (no + 1)) M)) 0 0 := by
  refine Ct.of gmX5_moveToReturn (ls := [.ref (b 0), .int c0, .int o]) rfl rfl (Nat.le_of_ble_eq_true rfl) ?_
  intro X hX Q hQ
  refine gq_aload_n hX dX5_moveToReturn_0 rfl rfl rfl ?_
  refine gq_iload_n hX dX5_moveToReturn_1 rfl rfl rfl ?_
  refine gq_iconst (v := nI 1) hX dX5_moveToReturn_2 rfl (by decide) ?_
  refine gq_iload_n hX dX5_moveToReturn_3 rfl rfl rfl ?_
  refine gq_callVe hX dX5_moveToReturn_4 rfl vX5_130 (mv_return_ok hb hwf hr _ _ hF hlt) rfl (mqR0 hb) rfl rfl (Nat.le_of_ble_eq_true rfl) ⟨(Nat.le_of_ble_eq_true rfl), (Nat.le_of_ble_eq_true rfl)⟩ (Nat.zero_add _) (Nat.zero_add _) ?_
  exact gq_iret hX hQ dX5_moveToReturn_7 rfl ⟨rfl, rfl⟩

set_option maxRecDepth 100000 in
set_option maxHeartbeats 4000000 in
theorem mv_ground_bad {E : Ev} {b : Nat → Nat} {T : St} {M : Hp} (hb : Lay E 9 b) {S : St} {nc nt no : Nat} (hwf : Wf S nc nt no) (c0 o : Int32) (hF : ¬ gmoF S nc c0 o = 0) : Ct E mX5_moves [.ref (b 0), .int c0, .int (nI 2), .int o] (MdW E b T (wOf S nc nt no) M) (eqR (some (.int (nI 0))) (MdW E b (setS T 0 (gmoF S nc c0 o)) (wOf S nc nt no) M)) 0 0 := by
  refine Ct.of gmX5_moves (ls := [.ref (b 0), .int c0, .int (nI 2), .int o, hole]) rfl rfl (Nat.le_of_ble_eq_true rfl) ?_
  intro X hX Q hQ
  have hwf2 := hwf
  obtain ⟨hnc, hncl, hnt, hntl, hno, hnol⟩ := hwf2
  have hw0 : wOf S nc nt no 0 = nI nc := hnc
  have hw1 : wOf S nc nt no 1 = nI nt := hnt
  have hw2 : wOf S nc nt no 2 = nI no := hno
  refine gq_aload_n hX dX5_moves_0 rfl rfl rfl ?_
  refine gq_iconst (v := nI 0) hX dX5_moves_1 rfl (by decide) ?_
  refine gq_putf hX dX5_moves_2 rfl fX5_42 rfl rfl rfl (mqR0 hb) (Nat.le_of_ble_eq_true rfl) (hb.2 0 (by decide)) (mqW0_0 hb) ?_
  refine gq_aload_n hX dX5_moves_5 rfl rfl rfl ?_
  refine gq_iload_n hX dX5_moves_6 rfl rfl rfl ?_
  refine gq_iload_n hX dX5_moves_7 rfl rfl rfl ?_
  refine gq_iload_n hX dX5_moves_8 rfl rfl rfl ?_
  refine gq_callVe hX dX5_moves_9 rfl vX5_123 (mt_notMove2 hb hwf _ _) rfl (mqR0 hb) rfl rfl (Nat.le_of_ble_eq_true rfl) ⟨(Nat.le_of_ble_eq_true rfl), (Nat.le_of_ble_eq_true rfl)⟩ (Nat.zero_add _) (Nat.zero_add _) ?_
  refine gq_istore hX dX5_moves_12 rfl (Nat.le_of_ble_eq_true rfl) rfl ?_
  refine gq_iload hX dX5_moves_14 rfl rfl ?_
  refine gq_if_eqF (tgt := 26) hX dX5_moves_16 rfl rfl hF ?_
  refine gq_aload_n hX dX5_moves_19 rfl rfl rfl ?_
  refine gq_iload hX dX5_moves_20 rfl rfl ?_
  refine gq_callVe hX dX5_moves_22 rfl vX5_79 (mt_fails hb _) rfl (mqR0 hb) rfl rfl (Nat.le_of_ble_eq_true rfl) ⟨(Nat.le_of_ble_eq_true rfl), (Nat.le_of_ble_eq_true rfl)⟩ (Nat.zero_add _) (Nat.zero_add _) ?_
  exact gq_iret hX hQ dX5_moves_25 rfl ⟨rfl, by rw [setS_2]⟩

set_option maxRecDepth 100000 in
set_option maxHeartbeats 4000000 in
theorem mv_ground_ok {E : Ev} {b : Nat → Nat} {T : St} {M : Hp} (hb : Lay E 9 b) {S : St} {nc nt no : Nat} (hwf : Wf S nc nt no) {f c : Nat} (hr : RgH T f c) (c0 o : Int32) (hF : gmoF S nc c0 o = 0) (hlt : no < 8) : Ct E mX5_moves [.ref (b 0), .int c0, .int (nI 2), .int o] (MdW E b T (wOf S nc nt no) M) (eqR (some (.int (S.1 8))) (MdW E b (remT (setS T 0 (nI 0)) (wOf S nc nt no) f c) (wOf (motS S no (nI 103) c0 o) nc nt (no + 1)) M)) 0 0 := by
  refine Ct.of gmX5_moves (ls := [.ref (b 0), .int c0, .int (nI 2), .int o, hole]) rfl rfl (Nat.le_of_ble_eq_true rfl) ?_
  intro X hX Q hQ
  have hwf2 := hwf
  obtain ⟨hnc, hncl, hnt, hntl, hno, hnol⟩ := hwf2
  have hw0 : wOf S nc nt no 0 = nI nc := hnc
  have hw1 : wOf S nc nt no 1 = nI nt := hnt
  have hw2 : wOf S nc nt no 2 = nI no := hno
  refine gq_aload_n hX dX5_moves_0 rfl rfl rfl ?_
  refine gq_iconst (v := nI 0) hX dX5_moves_1 rfl (by decide) ?_
  refine gq_putf hX dX5_moves_2 rfl fX5_42 rfl rfl rfl (mqR0 hb) (Nat.le_of_ble_eq_true rfl) (hb.2 0 (by decide)) (mqW0_0 hb) ?_
  refine gq_aload_n hX dX5_moves_5 rfl rfl rfl ?_
  refine gq_iload_n hX dX5_moves_6 rfl rfl rfl ?_
  refine gq_iload_n hX dX5_moves_7 rfl rfl rfl ?_
  refine gq_iload_n hX dX5_moves_8 rfl rfl rfl ?_
  refine gq_callVe hX dX5_moves_9 rfl vX5_123 (mt_notMove2 hb hwf _ _) rfl (mqR0 hb) rfl rfl (Nat.le_of_ble_eq_true rfl) ⟨(Nat.le_of_ble_eq_true rfl), (Nat.le_of_ble_eq_true rfl)⟩ (Nat.zero_add _) (Nat.zero_add _) ?_
  refine gq_istore hX dX5_moves_12 rfl (Nat.le_of_ble_eq_true rfl) rfl ?_
  refine gq_iload hX dX5_moves_14 rfl rfl ?_
  refine gq_if_eqT (tgt := 26) hX dX5_moves_16 rfl hF ?_
  refine gq_aload_n hX dX5_moves_26 rfl rfl rfl ?_
  refine gq_callVe hX dX5_moves_27 rfl vX5_82 (mt_remem hb (T := (setS T 0 (nI 0))) hr) rfl (mqR0 hb) rfl rfl (Nat.le_of_ble_eq_true rfl) ⟨(Nat.le_of_ble_eq_true rfl), (Nat.le_of_ble_eq_true rfl)⟩ (Nat.zero_add _) (Nat.zero_add _) ?_
  refine gq_aload_n hX dX5_moves_30 rfl rfl rfl ?_
  refine gq_iload_n hX dX5_moves_31 rfl rfl rfl ?_
  refine gq_iload_n hX dX5_moves_32 rfl rfl rfl ?_
  refine gq_iload_n hX dX5_moves_33 rfl rfl rfl ?_
  refine gq_callVe hX dX5_moves_34 rfl vX5_127 (mt_moves hb hwf hlt (kd := nI 103) (by decide)) rfl (mqR0 hb) rfl rfl (Nat.le_of_ble_eq_true rfl) ⟨(Nat.le_of_ble_eq_true rfl), (Nat.le_of_ble_eq_true rfl)⟩ (Nat.zero_add _) (Nat.zero_add _) ?_
  exact gq_iret hX hQ dX5_moves_37 rfl ⟨rfl, rfl⟩

set_option maxRecDepth 100000 in
set_option maxHeartbeats 4000000 in
theorem mo_ground_bad {E : Ev} {b : Nat → Nat} {T : St} {M : Hp} (hb : Lay E 9 b) {S : St} {nc nt no : Nat} (hwf : Wf S nc nt no) (c0 o : Int32) (hF : ¬ gmoF S nc c0 o = 0) : Ct E mX5_moveToGround [.ref (b 0), .int c0, .int o] (MdW E b T (wOf S nc nt no) M) (eqR (some (.int (nI 0))) (MdW E b (setS T 0 (gmoF S nc c0 o)) (wOf S nc nt no) M)) 0 0 := by
  refine Ct.of gmX5_moveToGround (ls := [.ref (b 0), .int c0, .int o]) rfl rfl (Nat.le_of_ble_eq_true rfl) ?_
  intro X hX Q hQ
  refine gq_aload_n hX dX5_moveToGround_0 rfl rfl rfl ?_
  refine gq_iload_n hX dX5_moveToGround_1 rfl rfl rfl ?_
  refine gq_iconst (v := nI 2) hX dX5_moveToGround_2 rfl (by decide) ?_
  refine gq_iload_n hX dX5_moveToGround_3 rfl rfl rfl ?_
  refine gq_callVe hX dX5_moveToGround_4 rfl vX5_130 (mv_ground_bad hb hwf _ _ hF) rfl (mqR0 hb) rfl rfl (Nat.le_of_ble_eq_true rfl) ⟨(Nat.le_of_ble_eq_true rfl), (Nat.le_of_ble_eq_true rfl)⟩ (Nat.zero_add _) (Nat.zero_add _) ?_
  exact gq_iret hX hQ dX5_moveToGround_7 rfl ⟨rfl, rfl⟩

set_option maxRecDepth 100000 in
set_option maxHeartbeats 4000000 in
theorem mo_ground_ok {E : Ev} {b : Nat → Nat} {T : St} {M : Hp} (hb : Lay E 9 b) {S : St} {nc nt no : Nat} (hwf : Wf S nc nt no) {f c : Nat} (hr : RgH T f c) (c0 o : Int32) (hF : gmoF S nc c0 o = 0) (hlt : no < 8) : Ct E mX5_moveToGround [.ref (b 0), .int c0, .int o] (MdW E b T (wOf S nc nt no) M) (eqR (some (.int (S.1 8))) (MdW E b (remT (setS T 0 (nI 0)) (wOf S nc nt no) f c) (wOf (motS S no (nI 103) c0 o) nc nt (no + 1)) M)) 0 0 := by
  refine Ct.of gmX5_moveToGround (ls := [.ref (b 0), .int c0, .int o]) rfl rfl (Nat.le_of_ble_eq_true rfl) ?_
  intro X hX Q hQ
  refine gq_aload_n hX dX5_moveToGround_0 rfl rfl rfl ?_
  refine gq_iload_n hX dX5_moveToGround_1 rfl rfl rfl ?_
  refine gq_iconst (v := nI 2) hX dX5_moveToGround_2 rfl (by decide) ?_
  refine gq_iload_n hX dX5_moveToGround_3 rfl rfl rfl ?_
  refine gq_callVe hX dX5_moveToGround_4 rfl vX5_130 (mv_ground_ok hb hwf hr _ _ hF hlt) rfl (mqR0 hb) rfl rfl (Nat.le_of_ble_eq_true rfl) ⟨(Nat.le_of_ble_eq_true rfl), (Nat.le_of_ble_eq_true rfl)⟩ (Nat.zero_add _) (Nat.zero_add _) ?_
  exact gq_iret hX hQ dX5_moveToGround_7 rfl ⟨rfl, rfl⟩

set_option maxRecDepth 100000 in
set_option maxHeartbeats 4000000 in
theorem mo_undo_ok {E : Ev} {b : Nat → Nat} {T : St} {w : Nat → Int32} {M : Hp} (hb : Lay E 9 b) {f c : Nat} (hr : RgH T f (c + 1)) : Ct E mX5_undo [.ref (b 0)] (MdW E b T w M) (eqR (some (.int (nI c))) (MdW E b (setS (setS T 0 (nI 0)) 1 (nI c)) (itU (fun i => T.2 2 (91 * ((f + c) % 8) + i)) w 91) M)) 0 0 := by
  refine Ct.of gmX5_undo (ls := [.ref (b 0), hole, hole]) rfl rfl (Nat.le_of_ble_eq_true rfl) ?_
  intro X hX Q hQ
  obtain ⟨hf, hc, hf8, hc8⟩ := hr
  refine gq_aload_n hX dX5_undo_0 rfl rfl rfl ?_
  refine gq_iconst (v := nI 0) hX dX5_undo_1 rfl (by decide) ?_
  refine gq_putf hX dX5_undo_2 rfl fX5_42 rfl rfl rfl (mqR0 hb) (Nat.le_of_ble_eq_true rfl) (hb.2 0 (by decide)) (mqW0_0 hb) ?_
  refine gq_aload_n hX dX5_undo_5 rfl rfl rfl ?_
  refine gq_getf hX dX5_undo_6 rfl fX5_45 (mqR0 hb) rfl ?_
  refine gq_if_neT (tgt := 18) hX dX5_undo_9 rfl (by rw [show (setS T 0 (nI 0)).1 1 = T.1 1 from rfl, hc]; exact fun e => by have := (nI_eq (by omega) (by decide)).mp (show nI (c + 1) = nI 0 from e); omega) ?_
  refine gq_aload_n hX dX5_undo_18 rfl rfl rfl ?_
  refine gq_dup hX dX5_undo_19 rfl rfl ?_
  refine gq_getf hX dX5_undo_20 rfl fX5_45 (mqR0 hb) rfl ?_
  refine gq_iconst (v := nI 1) hX dX5_undo_23 rfl (by decide) ?_
  refine gq_isub hX dX5_undo_24 rfl ?_
  rw [show (setS T 0 (nI 0)).1 1 = T.1 1 from rfl, hc, dcm]
  refine gq_putf hX dX5_undo_25 rfl fX5_45 rfl rfl rfl (mqR0 hb) (Nat.le_of_ble_eq_true rfl) (hb.2 0 (by decide)) (mqW0_6 hb) ?_
  refine gq_aload_n hX dX5_undo_28 rfl rfl rfl ?_
  refine gq_getf hX dX5_undo_29 rfl fX5_48 (mqR0 hb) rfl ?_
  refine gq_aload_n hX dX5_undo_32 rfl rfl rfl ?_
  refine gq_getf hX dX5_undo_33 rfl fX5_45 (mqR0 hb) rfl ?_
  refine gq_iadd hX dX5_undo_36 rfl ?_
  rw [show (setS (setS T 0 (nI 0)) 1 (nI c)).1 2 = T.1 2 from rfl, hf, show (setS (setS T 0 (nI 0)) 1 (nI c)).1 1 = nI c from rfl, nI_add]
  refine gq_bipush (v := nI 8) hX dX5_undo_37 rfl (by decide) ?_
  refine gq_irem hX dX5_undo_39 rfl (by decide) ?_
  rw [m8 (by omega)]
  refine gq_istore_n hX dX5_undo_40 rfl rfl (Nat.le_of_ble_eq_true rfl) rfl ?_
  refine gq_iconst (v := nI 0) hX dX5_undo_41 rfl (by decide) ?_
  refine gq_istore_n hX dX5_undo_42 rfl rfl (Nat.le_of_ble_eq_true rfl) rfl ?_
  have loop : ∀ n j : Nat, j + n = 91 → Gq E X mX5_undo Q 43 [.ref (b 0), .int (nI ((f + c) % 8)), .int (nI j)] [] (MdW E b (setS (setS T 0 (nI 0)) 1 (nI c)) (itU (fun i => T.2 2 (91 * ((f + c) % 8) + i)) w j) M) 0 0 := by
    intro n
    induction n with
    | zero =>
      intro j hj
      refine gq_iload_n hX dX5_undo_43 rfl rfl rfl ?_
      refine gq_bipush (v := nI 91) hX dX5_undo_44 rfl (by decide) ?_
      refine gq_icmp_geT (tgt := 72) hX dX5_undo_46 rfl (cT (rfl : nI 91 = nI 91) (by omega) (by omega)) ?_
      have ej : 91 = j := by omega
      subst ej
      refine gq_aload_n hX dX5_undo_72 rfl rfl rfl ?_
      refine gq_getf hX dX5_undo_73 rfl fX5_45 (mqR0 hb) rfl ?_
      exact gq_iret hX hQ dX5_undo_76 rfl ⟨rfl, rfl⟩
    | succ n ih =>
      intro j hj
      refine gq_iload_n hX dX5_undo_43 rfl rfl rfl ?_
      refine gq_bipush (v := nI 91) hX dX5_undo_44 rfl (by decide) ?_
      refine gq_icmp_geF (tgt := 72) hX dX5_undo_46 rfl rfl (cF (rfl : nI 91 = nI 91) (by omega) (by omega)) ?_
      refine gq_aload_n hX dX5_undo_49 rfl rfl rfl ?_
      refine gq_getf hX dX5_undo_50 rfl fX5_7 (mqR0 hb) rfl ?_
      refine gq_iload_n hX dX5_undo_53 rfl rfl rfl ?_
      refine gq_aload_n hX dX5_undo_54 rfl rfl rfl ?_
      refine gq_getf hX dX5_undo_55 rfl fX5_13 (mqR0 hb) rfl ?_
      refine gq_bipush (v := nI 91) hX dX5_undo_58 rfl (by decide) ?_
      refine gq_iload_n hX dX5_undo_60 rfl rfl rfl ?_
      refine gq_imul hX dX5_undo_61 rfl ?_
      rw [nI_m]
      refine gq_iload_n hX dX5_undo_62 rfl rfl rfl ?_
      refine gq_iadd hX dX5_undo_63 rfl ?_
      rw [nI_add]
      refine gq_ialdN hX dX5_undo_64 rfl (mqR2 hb) rfl (by omega) (Nat.le_of_ble_eq_true rfl) ?_
      refine gq_iastN hX dX5_undo_65 rfl (mqR1 hb) rfl (by omega) (Nat.le_of_ble_eq_true rfl) (hb.2 1 (by decide)) (mqW1 hb) ?_
      refine gq_ls (M' := MdW E b (setS (setS T 0 (nI 0)) 1 (nI c)) (itU (fun i => T.2 2 (91 * ((f + c) % 8) + i)) w (j + 1)) M) rfl rfl (congrArg (fun z => MdW E b _ z M) (itU_s (f := fun i => T.2 2 (91 * ((f + c) % 8) + i))).symm) ?_
      refine gq_iinc hX dX5_undo_66 rfl rfl (inc1 _) (Nat.le_of_ble_eq_true rfl) rfl ?_
      refine gq_goto (tgt := 43) hX dX5_undo_69 rfl ?_
      exact ih (j + 1) (by omega)
  refine gq_ls rfl rfl ?_ (loop 91 0 (by omega))
  rw [itU_0]

set_option maxRecDepth 100000 in
set_option maxHeartbeats 4000000 in
theorem mo_undo_bad {E : Ev} {b : Nat → Nat} {T : St} {w : Nat → Int32} {M : Hp} (hb : Lay E 9 b) (hc : T.1 1 = nI 0) : Ct E mX5_undo [.ref (b 0)] (MdW E b T w M) (eqR (some (.int (nI 0))) (MdW E b (setS T 0 (nI 1)) w M)) 0 0 := by
  refine Ct.of gmX5_undo (ls := [.ref (b 0), hole, hole]) rfl rfl (Nat.le_of_ble_eq_true rfl) ?_
  intro X hX Q hQ
  refine gq_aload_n hX dX5_undo_0 rfl rfl rfl ?_
  refine gq_iconst (v := nI 0) hX dX5_undo_1 rfl (by decide) ?_
  refine gq_putf hX dX5_undo_2 rfl fX5_42 rfl rfl rfl (mqR0 hb) (Nat.le_of_ble_eq_true rfl) (hb.2 0 (by decide)) (mqW0_0 hb) ?_
  refine gq_aload_n hX dX5_undo_5 rfl rfl rfl ?_
  refine gq_getf hX dX5_undo_6 rfl fX5_45 (mqR0 hb) rfl ?_
  refine gq_if_neF (tgt := 18) hX dX5_undo_9 rfl rfl hc ?_
  refine gq_aload_n hX dX5_undo_12 rfl rfl rfl ?_
  refine gq_iconst (v := nI 1) hX dX5_undo_13 rfl (by decide) ?_
  refine gq_callVe hX dX5_undo_14 rfl vX5_79 (mt_fails hb _) rfl (mqR0 hb) rfl rfl (Nat.le_of_ble_eq_true rfl) ⟨(Nat.le_of_ble_eq_true rfl), (Nat.le_of_ble_eq_true rfl)⟩ (Nat.zero_add _) (Nat.zero_add _) ?_
  exact gq_iret hX hQ dX5_undo_17 rfl ⟨rfl, by rw [setS_2]⟩

set_option maxRecDepth 100000 in
set_option maxHeartbeats 4000000 in
theorem mo_save {E : Ev} {b : Nat → Nat} {T : St} {w : Nat → Int32} {M : Hp} (hb : Lay E 9 b)  : Ct E mX5_save [.ref (b 0)] (MdW E b T w M) (eqR (some (.int (w 2))) (MdW E b (setS (setA (setS T 0 (nI 0)) 3 (itU w (T.2 3) 91)) 3 (nI 1)) w M)) 0 0 := by
  refine Ct.of gmX5_save (ls := [.ref (b 0), hole]) rfl rfl (Nat.le_of_ble_eq_true rfl) ?_
  intro X hX Q hQ
  refine gq_aload_n hX dX5_save_0 rfl rfl rfl ?_
  refine gq_iconst (v := nI 0) hX dX5_save_1 rfl (by decide) ?_
  refine gq_putf hX dX5_save_2 rfl fX5_42 rfl rfl rfl (mqR0 hb) (Nat.le_of_ble_eq_true rfl) (hb.2 0 (by decide)) (mqW0_0 hb) ?_
  refine gq_iconst (v := nI 0) hX dX5_save_5 rfl (by decide) ?_
  refine gq_istore_n hX dX5_save_6 rfl rfl (Nat.le_of_ble_eq_true rfl) rfl ?_
  have loop : ∀ n j : Nat, j + n = 91 → Gq E X mX5_save Q 7 [.ref (b 0), .int (nI j)] [] (MdW E b (setA (setS T 0 (nI 0)) 3 (itU w (T.2 3) j)) w M) 0 0 := by
    intro n
    induction n with
    | zero =>
      intro j hj
      refine gq_iload_n hX dX5_save_7 rfl rfl rfl ?_
      refine gq_bipush (v := nI 91) hX dX5_save_8 rfl (by decide) ?_
      refine gq_icmp_geT (tgt := 31) hX dX5_save_10 rfl (cT (rfl : nI 91 = nI 91) (by omega) (by omega)) ?_
      have ej : 91 = j := by omega
      subst ej
      refine gq_aload_n hX dX5_save_31 rfl rfl rfl ?_
      refine gq_iconst (v := nI 1) hX dX5_save_32 rfl (by decide) ?_
      refine gq_putf hX dX5_save_33 rfl fX5_305 rfl rfl rfl (mqR0 hb) (Nat.le_of_ble_eq_true rfl) (hb.2 0 (by decide)) (mqW0_8 hb) ?_
      refine gq_aload_n hX dX5_save_36 rfl rfl rfl ?_
      refine gq_getf hX dX5_save_37 rfl fX5_7 (mqR0 hb) rfl ?_
      refine gq_iconst (v := nI 2) hX dX5_save_40 rfl (by decide) ?_
      refine gq_ialdN hX dX5_save_41 rfl (mqR1 hb) rfl (by omega) (Nat.le_of_ble_eq_true rfl) ?_
      exact gq_iret hX hQ dX5_save_42 rfl ⟨rfl, rfl⟩
    | succ n ih =>
      intro j hj
      refine gq_iload_n hX dX5_save_7 rfl rfl rfl ?_
      refine gq_bipush (v := nI 91) hX dX5_save_8 rfl (by decide) ?_
      refine gq_icmp_geF (tgt := 31) hX dX5_save_10 rfl rfl (cF (rfl : nI 91 = nI 91) (by omega) (by omega)) ?_
      refine gq_aload_n hX dX5_save_13 rfl rfl rfl ?_
      refine gq_getf hX dX5_save_14 rfl fX5_16 (mqR0 hb) rfl ?_
      refine gq_iload_n hX dX5_save_17 rfl rfl rfl ?_
      refine gq_aload_n hX dX5_save_18 rfl rfl rfl ?_
      refine gq_getf hX dX5_save_19 rfl fX5_7 (mqR0 hb) rfl ?_
      refine gq_iload_n hX dX5_save_22 rfl rfl rfl ?_
      refine gq_ialdN hX dX5_save_23 rfl (mqR1 hb) rfl (by omega) (Nat.le_of_ble_eq_true rfl) ?_
      refine gq_iastN hX dX5_save_24 rfl (mqR3 hb) rfl (by omega) (Nat.le_of_ble_eq_true rfl) (hb.2 3 (by decide)) (mqW3 hb) ?_
      rw [setA_2, setA_at, itU_s]
      refine gq_iinc hX dX5_save_25 rfl rfl (inc1 _) (Nat.le_of_ble_eq_true rfl) rfl ?_
      refine gq_goto (tgt := 7) hX dX5_save_28 rfl ?_
      exact ih (j + 1) (by omega)
  refine gq_ls rfl rfl ?_ (loop 91 0 (by omega))
  rw [itU_0]
  exact congrArg (fun z => MdW E b z w M) (setA_id (S := setS T 0 (nI 0)))

set_option maxRecDepth 100000 in
set_option maxHeartbeats 4000000 in
theorem mo_restore_ok {E : Ev} {b : Nat → Nat} {T : St} {w : Nat → Int32} {M : Hp} (hb : Lay E 9 b) (hs : ¬ T.1 3 = 0) : Ct E mX5_restore [.ref (b 0)] (MdW E b T w M) (eqR (some (.int (itU (T.2 3) w 91 2))) (MdW E b (setS (setS (setS T 0 (nI 0)) 1 (nI 0)) 2 (nI 0)) (itU (T.2 3) w 91) M)) 0 0 := by
  refine Ct.of gmX5_restore (ls := [.ref (b 0), hole]) rfl rfl (Nat.le_of_ble_eq_true rfl) ?_
  intro X hX Q hQ
  refine gq_aload_n hX dX5_restore_0 rfl rfl rfl ?_
  refine gq_iconst (v := nI 0) hX dX5_restore_1 rfl (by decide) ?_
  refine gq_putf hX dX5_restore_2 rfl fX5_42 rfl rfl rfl (mqR0 hb) (Nat.le_of_ble_eq_true rfl) (hb.2 0 (by decide)) (mqW0_0 hb) ?_
  refine gq_aload_n hX dX5_restore_5 rfl rfl rfl ?_
  refine gq_getf hX dX5_restore_6 rfl fX5_305 (mqR0 hb) rfl ?_
  refine gq_if_neT (tgt := 18) hX dX5_restore_9 rfl hs ?_
  refine gq_iconst (v := nI 0) hX dX5_restore_18 rfl (by decide) ?_
  refine gq_istore_n hX dX5_restore_19 rfl rfl (Nat.le_of_ble_eq_true rfl) rfl ?_
  have loop : ∀ n j : Nat, j + n = 91 → Gq E X mX5_restore Q 20 [.ref (b 0), .int (nI j)] [] (MdW E b (setS T 0 (nI 0)) (itU (T.2 3) w j) M) 0 0 := by
    intro n
    induction n with
    | zero =>
      intro j hj
      refine gq_iload_n hX dX5_restore_20 rfl rfl rfl ?_
      refine gq_bipush (v := nI 91) hX dX5_restore_21 rfl (by decide) ?_
      refine gq_icmp_geT (tgt := 44) hX dX5_restore_23 rfl (cT (rfl : nI 91 = nI 91) (by omega) (by omega)) ?_
      have ej : 91 = j := by omega
      subst ej
      refine gq_aload_n hX dX5_restore_44 rfl rfl rfl ?_
      refine gq_iconst (v := nI 0) hX dX5_restore_45 rfl (by decide) ?_
      refine gq_putf hX dX5_restore_46 rfl fX5_45 rfl rfl rfl (mqR0 hb) (Nat.le_of_ble_eq_true rfl) (hb.2 0 (by decide)) (mqW0_6 hb) ?_
      refine gq_aload_n hX dX5_restore_49 rfl rfl rfl ?_
      refine gq_iconst (v := nI 0) hX dX5_restore_50 rfl (by decide) ?_
      refine gq_putf hX dX5_restore_51 rfl fX5_48 rfl rfl rfl (mqR0 hb) (Nat.le_of_ble_eq_true rfl) (hb.2 0 (by decide)) (mqW0_7 hb) ?_
      refine gq_aload_n hX dX5_restore_54 rfl rfl rfl ?_
      refine gq_getf hX dX5_restore_55 rfl fX5_7 (mqR0 hb) rfl ?_
      refine gq_iconst (v := nI 2) hX dX5_restore_58 rfl (by decide) ?_
      refine gq_ialdN hX dX5_restore_59 rfl (mqR1 hb) rfl (by omega) (Nat.le_of_ble_eq_true rfl) ?_
      exact gq_iret hX hQ dX5_restore_60 rfl ⟨rfl, rfl⟩
    | succ n ih =>
      intro j hj
      refine gq_iload_n hX dX5_restore_20 rfl rfl rfl ?_
      refine gq_bipush (v := nI 91) hX dX5_restore_21 rfl (by decide) ?_
      refine gq_icmp_geF (tgt := 44) hX dX5_restore_23 rfl rfl (cF (rfl : nI 91 = nI 91) (by omega) (by omega)) ?_
      refine gq_aload_n hX dX5_restore_26 rfl rfl rfl ?_
      refine gq_getf hX dX5_restore_27 rfl fX5_7 (mqR0 hb) rfl ?_
      refine gq_iload_n hX dX5_restore_30 rfl rfl rfl ?_
      refine gq_aload_n hX dX5_restore_31 rfl rfl rfl ?_
      refine gq_getf hX dX5_restore_32 rfl fX5_16 (mqR0 hb) rfl ?_
      refine gq_iload_n hX dX5_restore_35 rfl rfl rfl ?_
      refine gq_ialdN hX dX5_restore_36 rfl (mqR3 hb) rfl (by omega) (Nat.le_of_ble_eq_true rfl) ?_
      refine gq_iastN hX dX5_restore_37 rfl (mqR1 hb) rfl (by omega) (Nat.le_of_ble_eq_true rfl) (hb.2 1 (by decide)) (mqW1 hb) ?_
      refine gq_ls (M' := MdW E b (setS T 0 (nI 0)) (itU (T.2 3) w (j + 1)) M) rfl rfl (congrArg (fun z => MdW E b _ z M) (itU_s (f := T.2 3)).symm) ?_
      refine gq_iinc hX dX5_restore_38 rfl rfl (inc1 _) (Nat.le_of_ble_eq_true rfl) rfl ?_
      refine gq_goto (tgt := 20) hX dX5_restore_41 rfl ?_
      exact ih (j + 1) (by omega)
  refine gq_ls rfl rfl ?_ (loop 91 0 (by omega))
  rw [itU_0]

set_option maxRecDepth 100000 in
set_option maxHeartbeats 4000000 in
theorem mo_restore_bad {E : Ev} {b : Nat → Nat} {T : St} {w : Nat → Int32} {M : Hp} (hb : Lay E 9 b) (hs : T.1 3 = 0) : Ct E mX5_restore [.ref (b 0)] (MdW E b T w M) (eqR (some (.int (nI 0))) (MdW E b (setS T 0 (nI 1)) w M)) 0 0 := by
  refine Ct.of gmX5_restore (ls := [.ref (b 0), hole]) rfl rfl (Nat.le_of_ble_eq_true rfl) ?_
  intro X hX Q hQ
  refine gq_aload_n hX dX5_restore_0 rfl rfl rfl ?_
  refine gq_iconst (v := nI 0) hX dX5_restore_1 rfl (by decide) ?_
  refine gq_putf hX dX5_restore_2 rfl fX5_42 rfl rfl rfl (mqR0 hb) (Nat.le_of_ble_eq_true rfl) (hb.2 0 (by decide)) (mqW0_0 hb) ?_
  refine gq_aload_n hX dX5_restore_5 rfl rfl rfl ?_
  refine gq_getf hX dX5_restore_6 rfl fX5_305 (mqR0 hb) rfl ?_
  refine gq_if_neF (tgt := 18) hX dX5_restore_9 rfl rfl hs ?_
  refine gq_aload_n hX dX5_restore_12 rfl rfl rfl ?_
  refine gq_iconst (v := nI 1) hX dX5_restore_13 rfl (by decide) ?_
  refine gq_callVe hX dX5_restore_14 rfl vX5_79 (mt_fails hb _) rfl (mqR0 hb) rfl rfl (Nat.le_of_ble_eq_true rfl) ⟨(Nat.le_of_ble_eq_true rfl), (Nat.le_of_ble_eq_true rfl)⟩ (Nat.zero_add _) (Nat.zero_add _) ?_
  exact gq_iret hX hQ dX5_restore_17 rfl ⟨rfl, by rw [setS_2]⟩

