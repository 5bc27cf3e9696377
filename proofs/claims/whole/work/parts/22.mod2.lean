theorem btw_if {α : Type} {x lo hi : Int32} (A B : α) : (if x < lo then A else if x ≤ hi then B else A) = if btw x lo hi = 0 then A else B := by
  unfold btw
  by_cases h1 : x < lo
  · rw [if_pos h1, if_pos h1, if_pos nI_0]
  · rw [if_neg h1, if_neg h1]
    by_cases h2 : x ≤ hi
    · rw [if_pos h2, if_neg (i32_lt.mpr h2), if_neg (by decide)]
    · rw [if_neg h2, if_pos (i32_le.mp h2), if_pos nI_0]
theorem ltN {a n : Nat} {A B : Int32} (h : a ≤ n) (hn : n < 100000) : (if nI a < nI n then A else B) = if nI a = nI n then B else A := by
  by_cases e : a = n
  · subst e
    rw [if_neg (nI_nlt (Nat.le_refl _) (by omega)), if_pos rfl]
  · rw [if_pos (nI_lt (by omega) (by omega)), if_neg (fun z => e ((nI_eq (by omega) (by omega)).mp z))]
theorem n1 : ¬ nI 1 = 0 := by decide
theorem comF_m {S : St} {nc nt no : Nat} (h : Wf S nc nt no) (m : Int32) : comF S m = if btw m (nI 1) (nI 9) = 0 then nI 1 else if nI nc = nI 6 then nI 2 else nI 0 := by
  obtain ⟨h1, h2, -⟩ := h
  rw [comF, btw_if, h1, ltN h2 (by decide)]
theorem taiF_m {S : St} {nc nt no : Nat} (h : Wf S nc nt no) (m : Int32) : taiF S m = if btw m (nI 1) (nI 9) = 0 then nI 1 else if nI nt = nI 8 then nI 2 else nI 0 := by
  obtain ⟨-, -, h1, h2, -⟩ := h
  rw [taiF, btw_if, h1, ltN h2 (by decide)]
theorem fulF_m {S : St} {nc nt no : Nat} (h : Wf S nc nt no) : fulF S = if nI no = nI 8 then nI 1 else nI 0 := by
  obtain ⟨-, -, -, -, h1, h2⟩ := h
  rw [fulF, h1, ltN h2 (by decide)]
theorem gusF_m (s : Int32) : gusF s = if btw s (nI 0) (nI 20) = 0 then nI 1 else nI 0 := btw_if (lo := nI 0) _ _
theorem pasF_m (s : Int32) : pasF s = if btw s (nI 1) (nI 12) = 0 then nI 1 else nI 0 := btw_if _ _
/-- who seconds -/
def SecOk (S : St) (nc no : Nat) : Prop := ∀ k, k < no → S.2 11 k = -1 ∨ ∃ a, a < nc ∧ S.2 11 k = nI a
theorem sec_le {x : Int32} {nc : Nat} (h : x = -1 ∨ ∃ a, a < nc ∧ x = nI a) (hn : nc < 1000) : x + nI 1 ≤ 0 ↔ x = -1 := by
  rcases h with rfl | ⟨a, h1, rfl⟩
  · exact ⟨fun _ => rfl, fun _ => by decide⟩
  · rw [inM]
    exact ⟨fun h => absurd h (nI_nle (by omega) (by omega)), fun h => absurd h (nI_m1 (by omega))⟩

set_option maxRecDepth 100000 in
set_option maxHeartbeats 4000000 in
theorem mt_notCom {E : Ev} {b : Nat → Nat} {T : St} {M : Hp} (hb : Lay E 9 b) {S : St} {nc nt no : Nat} (hwf : Wf S nc nt no) (m : Int32) : Ct E mX5_notCommittee [.ref (b 0), .int m] (MdW E b T (wOf S nc nt no) M) (eqR (some (.int (comF S m))) (MdW E b T (wOf S nc nt no) M)) 0 0 := by
  refine Ct.of gmX5_notCommittee (ls := [.ref (b 0), .int m]) rfl rfl (Nat.le_of_ble_eq_true rfl) ?_
  intro X hX Q hQ
  have hwf2 := hwf
  obtain ⟨hnc, hncl, hnt, hntl, hno, hnol⟩ := hwf2
  have hw0 : wOf S nc nt no 0 = nI nc := hnc
  have hw1 : wOf S nc nt no 1 = nI nt := hnt
  have hw2 : wOf S nc nt no 2 = nI no := hno
  refine gq_iload_n hX dX5_notCommittee_0 rfl rfl rfl ?_
  refine gq_iconst (v := nI 1) hX dX5_notCommittee_1 rfl (by decide) ?_
  refine gq_bipush (v := nI 9) hX dX5_notCommittee_2 rfl (by decide) ?_
  refine gq_callSe hX dX5_notCommittee_4 rfl vX5_57 (mt_btw _ _ _) rfl rfl (Nat.le_of_ble_eq_true rfl) ⟨(Nat.le_of_ble_eq_true rfl), (Nat.le_of_ble_eq_true rfl)⟩ (Nat.zero_add _) (Nat.zero_add _) ?_
  refine gq_if_ne (tgt := 12) hX dX5_notCommittee_7 rfl rfl (fun c7 => ?_) (fun c7 => ?_)
  · refine gq_aload_n hX dX5_notCommittee_12 rfl rfl rfl ?_
    refine gq_getf hX dX5_notCommittee_13 rfl fX5_7 (mqR0 hb) rfl ?_
    refine gq_iconst (v := nI 0) hX dX5_notCommittee_16 rfl (by decide) ?_
    refine gq_ialdN hX dX5_notCommittee_17 rfl (mqR1 hb) rfl (by omega) (Nat.le_of_ble_eq_true rfl) ?_
    rw [hw0]
    refine gq_bipush (v := nI 6) hX dX5_notCommittee_18 rfl (by decide) ?_
    refine gq_icmp_ne (tgt := 27) hX dX5_notCommittee_20 rfl rfl (fun c20 => ?_) (fun c20 => ?_)
    · refine gq_iconst (v := nI 0) hX dX5_notCommittee_27 rfl (by decide) ?_
      exact gq_iret hX hQ dX5_notCommittee_28 rfl ⟨congrArg (fun z => some (Value.int z)) (by rw [comF_m hwf]; simp [*]), rfl⟩
    · refine gq_iconst (v := nI 2) hX dX5_notCommittee_23 rfl (by decide) ?_
      refine gq_goto (tgt := 28) hX dX5_notCommittee_24 rfl ?_
      exact gq_iret hX hQ dX5_notCommittee_28 rfl ⟨congrArg (fun z => some (Value.int z)) (by rw [comF_m hwf]; simp [*]), rfl⟩
  · refine gq_iconst (v := nI 1) hX dX5_notCommittee_10 rfl (by decide) ?_
    exact gq_iret hX hQ dX5_notCommittee_11 rfl ⟨congrArg (fun z => some (Value.int z)) (by rw [comF_m hwf]; simp [*]), rfl⟩

set_option maxRecDepth 100000 in
set_option maxHeartbeats 4000000 in
theorem mt_notTail {E : Ev} {b : Nat → Nat} {T : St} {M : Hp} (hb : Lay E 9 b) {S : St} {nc nt no : Nat} (hwf : Wf S nc nt no) (m : Int32) : Ct E mX5_notTail [.ref (b 0), .int m] (MdW E b T (wOf S nc nt no) M) (eqR (some (.int (taiF S m))) (MdW E b T (wOf S nc nt no) M)) 0 0 := by
  refine Ct.of gmX5_notTail (ls := [.ref (b 0), .int m]) rfl rfl (Nat.le_of_ble_eq_true rfl) ?_
  intro X hX Q hQ
  have hwf2 := hwf
  obtain ⟨hnc, hncl, hnt, hntl, hno, hnol⟩ := hwf2
  have hw0 : wOf S nc nt no 0 = nI nc := hnc
  have hw1 : wOf S nc nt no 1 = nI nt := hnt
  have hw2 : wOf S nc nt no 2 = nI no := hno
  refine gq_iload_n hX dX5_notTail_0 rfl rfl rfl ?_
  refine gq_iconst (v := nI 1) hX dX5_notTail_1 rfl (by decide) ?_
  refine gq_bipush (v := nI 9) hX dX5_notTail_2 rfl (by decide) ?_
  refine gq_callSe hX dX5_notTail_4 rfl vX5_57 (mt_btw _ _ _) rfl rfl (Nat.le_of_ble_eq_true rfl) ⟨(Nat.le_of_ble_eq_true rfl), (Nat.le_of_ble_eq_true rfl)⟩ (Nat.zero_add _) (Nat.zero_add _) ?_
  refine gq_if_ne (tgt := 12) hX dX5_notTail_7 rfl rfl (fun c7 => ?_) (fun c7 => ?_)
  · refine gq_aload_n hX dX5_notTail_12 rfl rfl rfl ?_
    refine gq_getf hX dX5_notTail_13 rfl fX5_7 (mqR0 hb) rfl ?_
    refine gq_iconst (v := nI 1) hX dX5_notTail_16 rfl (by decide) ?_
    refine gq_ialdN hX dX5_notTail_17 rfl (mqR1 hb) rfl (by omega) (Nat.le_of_ble_eq_true rfl) ?_
    rw [hw1]
    refine gq_bipush (v := nI 8) hX dX5_notTail_18 rfl (by decide) ?_
    refine gq_icmp_ne (tgt := 27) hX dX5_notTail_20 rfl rfl (fun c20 => ?_) (fun c20 => ?_)
    · refine gq_iconst (v := nI 0) hX dX5_notTail_27 rfl (by decide) ?_
      exact gq_iret hX hQ dX5_notTail_28 rfl ⟨congrArg (fun z => some (Value.int z)) (by rw [taiF_m hwf]; simp [*]), rfl⟩
    · refine gq_iconst (v := nI 2) hX dX5_notTail_23 rfl (by decide) ?_
      refine gq_goto (tgt := 28) hX dX5_notTail_24 rfl ?_
      exact gq_iret hX hQ dX5_notTail_28 rfl ⟨congrArg (fun z => some (Value.int z)) (by rw [taiF_m hwf]; simp [*]), rfl⟩
  · refine gq_iconst (v := nI 1) hX dX5_notTail_10 rfl (by decide) ?_
    exact gq_iret hX hQ dX5_notTail_11 rfl ⟨congrArg (fun z => some (Value.int z)) (by rw [taiF_m hwf]; simp [*]), rfl⟩

set_option maxRecDepth 100000 in
set_option maxHeartbeats 4000000 in
theorem mt_notPay {E : Ev} {b : Nat → Nat} {T : St} {M : Hp} (hb : Lay E 9 b) {S : St} {nc nt no : Nat} (hwf : Wf S nc nt no) (c x : Int32) : Ct E mX5_notPay [.ref (b 0), .int c, .int x] (MdW E b T (wOf S nc nt no) M) (eqR (some (.int (payF S nc c x))) (MdW E b T (wOf S nc nt no) M)) 0 0 := by
  refine Ct.of gmX5_notPay (ls := [.ref (b 0), .int c, .int x]) rfl rfl (Nat.le_of_ble_eq_true rfl) ?_
  intro X hX Q hQ
  have hwf2 := hwf
  obtain ⟨hnc, hncl, hnt, hntl, hno, hnol⟩ := hwf2
  have hw0 : wOf S nc nt no 0 = nI nc := hnc
  have hw1 : wOf S nc nt no 1 = nI nt := hnt
  have hw2 : wOf S nc nt no 2 = nI no := hno
  refine gq_aload_n hX dX5_notPay_0 rfl rfl rfl ?_
  refine gq_iload_n hX dX5_notPay_1 rfl rfl rfl ?_
  refine gq_callVe hX dX5_notPay_2 rfl vX5_94 (mt_isCom hb hwf _) rfl (mqR0 hb) rfl rfl (Nat.le_of_ble_eq_true rfl) ⟨(Nat.le_of_ble_eq_true rfl), (Nat.le_of_ble_eq_true rfl)⟩ (Nat.zero_add _) (Nat.zero_add _) ?_
  refine gq_if_ne (tgt := 10) hX dX5_notPay_5 rfl rfl (fun c5 => ?_) (fun c5 => ?_)
  · obtain ⟨j, hj, rfl⟩ := hasI_ix (by omega) c5
    have hcl : (nI j).toNatClampNeg = j := nI_clamp (by omega)
    refine gq_iload_n hX dX5_notPay_10 rfl rfl rfl ?_
    refine gq_iconst (v := nI 1) hX dX5_notPay_11 rfl (by decide) ?_
    refine gq_bipush (v := nI 99) hX dX5_notPay_12 rfl (by decide) ?_
    refine gq_callSe hX dX5_notPay_14 rfl vX5_57 (mt_btw _ _ _) rfl rfl (Nat.le_of_ble_eq_true rfl) ⟨(Nat.le_of_ble_eq_true rfl), (Nat.le_of_ble_eq_true rfl)⟩ (Nat.zero_add _) (Nat.zero_add _) ?_
    refine gq_if_ne (tgt := 22) hX dX5_notPay_17 rfl rfl (fun c17 => ?_) (fun c17 => ?_)
    · refine gq_iload_n hX dX5_notPay_22 rfl rfl rfl ?_
      refine gq_aload_n hX dX5_notPay_23 rfl rfl rfl ?_
      refine gq_iload_n hX dX5_notPay_24 rfl rfl rfl ?_
      refine gq_iconst (v := nI 1) hX dX5_notPay_25 rfl (by decide) ?_
      refine gq_callVe hX dX5_notPay_26 rfl vX5_65 (mt_of hb (c := j) (x := 1) (by omega) (by decide)) rfl (mqR0 hb) rfl rfl (Nat.le_of_ble_eq_true rfl) ⟨(Nat.le_of_ble_eq_true rfl), (Nat.le_of_ble_eq_true rfl)⟩ (Nat.zero_add _) (Nat.zero_add _) ?_
      rw [wC1 hncl hj]
      refine gq_icmp_le (tgt := 36) hX dX5_notPay_29 rfl rfl (fun c29 => ?_) (fun c29 => ?_)
      · refine gq_iconst (v := nI 0) hX dX5_notPay_36 rfl (by decide) ?_
        exact gq_iret hX hQ dX5_notPay_37 rfl ⟨congrArg (fun z => some (Value.int z)) (by rw [payF, if_neg c5, btw_if, hcl]; simp [*]), rfl⟩
      · refine gq_iconst (v := nI 3) hX dX5_notPay_32 rfl (by decide) ?_
        refine gq_goto (tgt := 37) hX dX5_notPay_33 rfl ?_
        exact gq_iret hX hQ dX5_notPay_37 rfl ⟨congrArg (fun z => some (Value.int z)) (by rw [payF, if_neg c5, btw_if, hcl]; simp [*]), rfl⟩
    · refine gq_iconst (v := nI 2) hX dX5_notPay_20 rfl (by decide) ?_
      exact gq_iret hX hQ dX5_notPay_21 rfl ⟨congrArg (fun z => some (Value.int z)) (by rw [payF, if_neg c5, btw_if, hcl]; simp [*]), rfl⟩
  · refine gq_iconst (v := nI 1) hX dX5_notPay_8 rfl (by decide) ?_
    exact gq_iret hX hQ dX5_notPay_9 rfl ⟨congrArg (fun z => some (Value.int z)) (by rw [payF, if_pos c5]), rfl⟩

set_option maxRecDepth 100000 in
set_option maxHeartbeats 4000000 in
theorem mt_notLaunch {E : Ev} {b : Nat → Nat} {T : St} {M : Hp} (hb : Lay E 9 b) {S : St} {nc nt no : Nat} (hwf : Wf S nc nt no) (hn : Nar S) (c : Int32) : Ct E mX5_notLaunch [.ref (b 0), .int c] (MdW E b T (wOf S nc nt no) M) (eqR (some (.int (lauF S nc c))) (MdW E b T (wOf S nc nt no) M)) 0 0 := by
  refine Ct.of gmX5_notLaunch (ls := [.ref (b 0), .int c]) rfl rfl (Nat.le_of_ble_eq_true rfl) ?_
  intro X hX Q hQ
  have hwf2 := hwf
  obtain ⟨hnc, hncl, hnt, hntl, hno, hnol⟩ := hwf2
  have hw0 : wOf S nc nt no 0 = nI nc := hnc
  have hw1 : wOf S nc nt no 1 = nI nt := hnt
  have hw2 : wOf S nc nt no 2 = nI no := hno
  refine gq_aload_n hX dX5_notLaunch_0 rfl rfl rfl ?_
  refine gq_iload_n hX dX5_notLaunch_1 rfl rfl rfl ?_
  refine gq_callVe hX dX5_notLaunch_2 rfl vX5_94 (mt_isCom hb hwf _) rfl (mqR0 hb) rfl rfl (Nat.le_of_ble_eq_true rfl) ⟨(Nat.le_of_ble_eq_true rfl), (Nat.le_of_ble_eq_true rfl)⟩ (Nat.zero_add _) (Nat.zero_add _) ?_
  refine gq_if_ne (tgt := 10) hX dX5_notLaunch_5 rfl rfl (fun c5 => ?_) (fun c5 => ?_)
  · obtain ⟨j, hj, rfl⟩ := hasI_ix (by omega) c5
    have hcl : (nI j).toNatClampNeg = j := nI_clamp (by omega)
    refine gq_aload_n hX dX5_notLaunch_10 rfl rfl rfl ?_
    refine gq_iload_n hX dX5_notLaunch_11 rfl rfl rfl ?_
    refine gq_callVe hX dX5_notLaunch_12 rfl vX5_104 (mt_flies hb hwf hn hj) rfl (mqR0 hb) rfl rfl (Nat.le_of_ble_eq_true rfl) ⟨(Nat.le_of_ble_eq_true rfl), (Nat.le_of_ble_eq_true rfl)⟩ (Nat.zero_add _) (Nat.zero_add _) ?_
    refine gq_if_ne (tgt := 27) hX dX5_notLaunch_15 rfl rfl (fun c15 => ?_) (fun c15 => ?_)
    · refine gq_iconst (v := nI 2) hX dX5_notLaunch_27 rfl (by decide) ?_
      refine gq_goto (tgt := 32) hX dX5_notLaunch_28 rfl ?_
      exact gq_iret hX hQ dX5_notLaunch_32 rfl ⟨congrArg (fun z => some (Value.int z)) (by rw [lauF, if_neg c5, hcl]; simp [*]), rfl⟩
    · refine gq_aload_n hX dX5_notLaunch_18 rfl rfl rfl ?_
      refine gq_iload_n hX dX5_notLaunch_19 rfl rfl rfl ?_
      refine gq_iconst (v := nI 1) hX dX5_notLaunch_20 rfl (by decide) ?_
      refine gq_callVe hX dX5_notLaunch_21 rfl vX5_65 (mt_of hb (c := j) (x := 1) (by omega) (by decide)) rfl (mqR0 hb) rfl rfl (Nat.le_of_ble_eq_true rfl) ⟨(Nat.le_of_ble_eq_true rfl), (Nat.le_of_ble_eq_true rfl)⟩ (Nat.zero_add _) (Nat.zero_add _) ?_
      rw [wC1 hncl hj]
      refine gq_if_le (tgt := 31) hX dX5_notLaunch_24 rfl rfl (fun c24 => ?_) (fun c24 => ?_)
      · refine gq_iconst (v := nI 0) hX dX5_notLaunch_31 rfl (by decide) ?_
        exact gq_iret hX hQ dX5_notLaunch_32 rfl ⟨congrArg (fun z => some (Value.int z)) (by rw [lauF, if_neg c5, hcl]; simp [*]), rfl⟩
      · refine gq_iconst (v := nI 2) hX dX5_notLaunch_27 rfl (by decide) ?_
        refine gq_goto (tgt := 32) hX dX5_notLaunch_28 rfl ?_
        exact gq_iret hX hQ dX5_notLaunch_32 rfl ⟨congrArg (fun z => some (Value.int z)) (by rw [lauF, if_neg c5, hcl]; simp [*]), rfl⟩
  · refine gq_iconst (v := nI 1) hX dX5_notLaunch_8 rfl (by decide) ?_
    exact gq_iret hX hQ dX5_notLaunch_9 rfl ⟨congrArg (fun z => some (Value.int z)) (by rw [lauF, if_pos c5]), rfl⟩

set_option maxRecDepth 100000 in
set_option maxHeartbeats 4000000 in
theorem mt_notMove0 {E : Ev} {b : Nat → Nat} {T : St} {M : Hp} (hb : Lay E 9 b) {S : St} {nc nt no : Nat} (hwf : Wf S nc nt no) (c o : Int32) : Ct E mX5_notMove [.ref (b 0), .int c, .int (nI 0), .int o] (MdW E b T (wOf S nc nt no) M) (eqR (some (.int (tmoF S nc nt c o))) (MdW E b T (wOf S nc nt no) M)) 0 0 := by
  refine Ct.of gmX5_notMove (ls := [.ref (b 0), .int c, .int (nI 0), .int o, hole]) rfl rfl (Nat.le_of_ble_eq_true rfl) ?_
  intro X hX Q hQ
  have hwf2 := hwf
  obtain ⟨hnc, hncl, hnt, hntl, hno, hnol⟩ := hwf2
  have hw0 : wOf S nc nt no 0 = nI nc := hnc
  have hw1 : wOf S nc nt no 1 = nI nt := hnt
  have hw2 : wOf S nc nt no 2 = nI no := hno
  refine gq_iload_n hX dX5_notMove_0 rfl rfl rfl ?_
  refine gq_iconst (v := nI 2) hX dX5_notMove_1 rfl (by decide) ?_
  refine gq_icmp_neT (tgt := 13) hX dX5_notMove_2 rfl (by decide) ?_
  refine gq_aload_n hX dX5_notMove_13 rfl rfl rfl ?_
  refine gq_iload_n hX dX5_notMove_14 rfl rfl rfl ?_
  refine gq_callVe hX dX5_notMove_15 rfl vX5_117 (mt_isTail hb hwf _) rfl (mqR0 hb) rfl rfl (Nat.le_of_ble_eq_true rfl) ⟨(Nat.le_of_ble_eq_true rfl), (Nat.le_of_ble_eq_true rfl)⟩ (Nat.zero_add _) (Nat.zero_add _) ?_
  refine gq_istore hX dX5_notMove_18 rfl (Nat.le_of_ble_eq_true rfl) rfl ?_
  refine gq_aload_n hX dX5_notMove_20 rfl rfl rfl ?_
  refine gq_iload_n hX dX5_notMove_21 rfl rfl rfl ?_
  refine gq_callVe hX dX5_notMove_22 rfl vX5_94 (mt_isCom hb hwf _) rfl (mqR0 hb) rfl rfl (Nat.le_of_ble_eq_true rfl) ⟨(Nat.le_of_ble_eq_true rfl), (Nat.le_of_ble_eq_true rfl)⟩ (Nat.zero_add _) (Nat.zero_add _) ?_
  refine gq_if_eq (tgt := 33) hX dX5_notMove_25 rfl rfl (fun c25 => ?_) (fun c25 => ?_)
  · refine gq_iconst (v := nI 1) hX dX5_notMove_33 rfl (by decide) ?_
    exact gq_iret hX hQ dX5_notMove_34 rfl ⟨congrArg (fun z => some (Value.int z)) (by rw [tmoF, fulF_m hwf]; simp [*, nI_0, n1]), rfl⟩
  · refine gq_iload hX dX5_notMove_28 rfl rfl ?_
    refine gq_if_ne (tgt := 35) hX dX5_notMove_30 rfl rfl (fun c30 => ?_) (fun c30 => ?_)
    · refine gq_aload_n hX dX5_notMove_35 rfl rfl rfl ?_
      refine gq_getf hX dX5_notMove_36 rfl fX5_7 (mqR0 hb) rfl ?_
      refine gq_iconst (v := nI 2) hX dX5_notMove_39 rfl (by decide) ?_
      refine gq_ialdN hX dX5_notMove_40 rfl (mqR1 hb) rfl (by omega) (Nat.le_of_ble_eq_true rfl) ?_
      rw [hw2]
      refine gq_bipush (v := nI 8) hX dX5_notMove_41 rfl (by decide) ?_
      refine gq_icmp_ne (tgt := 50) hX dX5_notMove_43 rfl rfl (fun c43 => ?_) (fun c43 => ?_)
      · refine gq_iconst (v := nI 0) hX dX5_notMove_50 rfl (by decide) ?_
        exact gq_iret hX hQ dX5_notMove_51 rfl ⟨congrArg (fun z => some (Value.int z)) (by rw [tmoF, fulF_m hwf]; simp [*, nI_0, n1]), rfl⟩
      · refine gq_iconst (v := nI 2) hX dX5_notMove_46 rfl (by decide) ?_
        refine gq_goto (tgt := 51) hX dX5_notMove_47 rfl ?_
        exact gq_iret hX hQ dX5_notMove_51 rfl ⟨congrArg (fun z => some (Value.int z)) (by rw [tmoF, fulF_m hwf]; simp [*, nI_0, n1]), rfl⟩
    · refine gq_iconst (v := nI 1) hX dX5_notMove_33 rfl (by decide) ?_
      exact gq_iret hX hQ dX5_notMove_34 rfl ⟨congrArg (fun z => some (Value.int z)) (by rw [tmoF, fulF_m hwf]; simp [*, nI_0, n1]), rfl⟩

set_option maxRecDepth 100000 in
set_option maxHeartbeats 4000000 in
theorem mt_notMove1 {E : Ev} {b : Nat → Nat} {T : St} {M : Hp} (hb : Lay E 9 b) {S : St} {nc nt no : Nat} (hwf : Wf S nc nt no) (c o : Int32) : Ct E mX5_notMove [.ref (b 0), .int c, .int (nI 1), .int o] (MdW E b T (wOf S nc nt no) M) (eqR (some (.int (tmoF S nc nt c o))) (MdW E b T (wOf S nc nt no) M)) 0 0 := by
  refine Ct.of gmX5_notMove (ls := [.ref (b 0), .int c, .int (nI 1), .int o, hole]) rfl rfl (Nat.le_of_ble_eq_true rfl) ?_
  intro X hX Q hQ
  have hwf2 := hwf
  obtain ⟨hnc, hncl, hnt, hntl, hno, hnol⟩ := hwf2
  have hw0 : wOf S nc nt no 0 = nI nc := hnc
  have hw1 : wOf S nc nt no 1 = nI nt := hnt
  have hw2 : wOf S nc nt no 2 = nI no := hno
  refine gq_iload_n hX dX5_notMove_0 rfl rfl rfl ?_
  refine gq_iconst (v := nI 2) hX dX5_notMove_1 rfl (by decide) ?_
  refine gq_icmp_neT (tgt := 13) hX dX5_notMove_2 rfl (by decide) ?_
  refine gq_aload_n hX dX5_notMove_13 rfl rfl rfl ?_
  refine gq_iload_n hX dX5_notMove_14 rfl rfl rfl ?_
  refine gq_callVe hX dX5_notMove_15 rfl vX5_117 (mt_isTail hb hwf _) rfl (mqR0 hb) rfl rfl (Nat.le_of_ble_eq_true rfl) ⟨(Nat.le_of_ble_eq_true rfl), (Nat.le_of_ble_eq_true rfl)⟩ (Nat.zero_add _) (Nat.zero_add _) ?_
  refine gq_istore hX dX5_notMove_18 rfl (Nat.le_of_ble_eq_true rfl) rfl ?_
  refine gq_aload_n hX dX5_notMove_20 rfl rfl rfl ?_
  refine gq_iload_n hX dX5_notMove_21 rfl rfl rfl ?_
  refine gq_callVe hX dX5_notMove_22 rfl vX5_94 (mt_isCom hb hwf _) rfl (mqR0 hb) rfl rfl (Nat.le_of_ble_eq_true rfl) ⟨(Nat.le_of_ble_eq_true rfl), (Nat.le_of_ble_eq_true rfl)⟩ (Nat.zero_add _) (Nat.zero_add _) ?_
  refine gq_if_eq (tgt := 33) hX dX5_notMove_25 rfl rfl (fun c25 => ?_) (fun c25 => ?_)
  · refine gq_iconst (v := nI 1) hX dX5_notMove_33 rfl (by decide) ?_
    exact gq_iret hX hQ dX5_notMove_34 rfl ⟨congrArg (fun z => some (Value.int z)) (by rw [tmoF, fulF_m hwf]; simp [*, nI_0, n1]), rfl⟩
  · refine gq_iload hX dX5_notMove_28 rfl rfl ?_
    refine gq_if_ne (tgt := 35) hX dX5_notMove_30 rfl rfl (fun c30 => ?_) (fun c30 => ?_)
    · refine gq_aload_n hX dX5_notMove_35 rfl rfl rfl ?_
      refine gq_getf hX dX5_notMove_36 rfl fX5_7 (mqR0 hb) rfl ?_
      refine gq_iconst (v := nI 2) hX dX5_notMove_39 rfl (by decide) ?_
      refine gq_ialdN hX dX5_notMove_40 rfl (mqR1 hb) rfl (by omega) (Nat.le_of_ble_eq_true rfl) ?_
      rw [hw2]
      refine gq_bipush (v := nI 8) hX dX5_notMove_41 rfl (by decide) ?_
      refine gq_icmp_ne (tgt := 50) hX dX5_notMove_43 rfl rfl (fun c43 => ?_) (fun c43 => ?_)
      · refine gq_iconst (v := nI 0) hX dX5_notMove_50 rfl (by decide) ?_
        exact gq_iret hX hQ dX5_notMove_51 rfl ⟨congrArg (fun z => some (Value.int z)) (by rw [tmoF, fulF_m hwf]; simp [*, nI_0, n1]), rfl⟩
      · refine gq_iconst (v := nI 2) hX dX5_notMove_46 rfl (by decide) ?_
        refine gq_goto (tgt := 51) hX dX5_notMove_47 rfl ?_
        exact gq_iret hX hQ dX5_notMove_51 rfl ⟨congrArg (fun z => some (Value.int z)) (by rw [tmoF, fulF_m hwf]; simp [*, nI_0, n1]), rfl⟩
    · refine gq_iconst (v := nI 1) hX dX5_notMove_33 rfl (by decide) ?_
      exact gq_iret hX hQ dX5_notMove_34 rfl ⟨congrArg (fun z => some (Value.int z)) (by rw [tmoF, fulF_m hwf]; simp [*, nI_0, n1]), rfl⟩

set_option maxRecDepth 100000 in
set_option maxHeartbeats 4000000 in
theorem mt_notMove2 {E : Ev} {b : Nat → Nat} {T : St} {M : Hp} (hb : Lay E 9 b) {S : St} {nc nt no : Nat} (hwf : Wf S nc nt no) (c o : Int32) : Ct E mX5_notMove [.ref (b 0), .int c, .int (nI 2), .int o] (MdW E b T (wOf S nc nt no) M) (eqR (some (.int (gmoF S nc c o))) (MdW E b T (wOf S nc nt no) M)) 0 0 := by
  refine Ct.of gmX5_notMove (ls := [.ref (b 0), .int c, .int (nI 2), .int o, hole]) rfl rfl (Nat.le_of_ble_eq_true rfl) ?_
  intro X hX Q hQ
  have hwf2 := hwf
  obtain ⟨hnc, hncl, hnt, hntl, hno, hnol⟩ := hwf2
  have hw0 : wOf S nc nt no 0 = nI nc := hnc
  have hw1 : wOf S nc nt no 1 = nI nt := hnt
  have hw2 : wOf S nc nt no 2 = nI no := hno
  refine gq_iload_n hX dX5_notMove_0 rfl rfl rfl ?_
  refine gq_iconst (v := nI 2) hX dX5_notMove_1 rfl (by decide) ?_
  refine gq_icmp_neF (tgt := 13) hX dX5_notMove_2 rfl rfl rfl ?_
  refine gq_aload_n hX dX5_notMove_5 rfl rfl rfl ?_
  refine gq_iload_n hX dX5_notMove_6 rfl rfl rfl ?_
  refine gq_callVe hX dX5_notMove_7 rfl vX5_94 (mt_isCom hb hwf _) rfl (mqR0 hb) rfl rfl (Nat.le_of_ble_eq_true rfl) ⟨(Nat.le_of_ble_eq_true rfl), (Nat.le_of_ble_eq_true rfl)⟩ (Nat.zero_add _) (Nat.zero_add _) ?_
  refine gq_goto (tgt := 18) hX dX5_notMove_10 rfl ?_
  refine gq_istore hX dX5_notMove_18 rfl (Nat.le_of_ble_eq_true rfl) rfl ?_
  refine gq_aload_n hX dX5_notMove_20 rfl rfl rfl ?_
  refine gq_iload_n hX dX5_notMove_21 rfl rfl rfl ?_
  refine gq_callVe hX dX5_notMove_22 rfl vX5_94 (mt_isCom hb hwf _) rfl (mqR0 hb) rfl rfl (Nat.le_of_ble_eq_true rfl) ⟨(Nat.le_of_ble_eq_true rfl), (Nat.le_of_ble_eq_true rfl)⟩ (Nat.zero_add _) (Nat.zero_add _) ?_
  refine gq_if_eq (tgt := 33) hX dX5_notMove_25 rfl rfl (fun c25 => ?_) (fun c25 => ?_)
  · refine gq_iconst (v := nI 1) hX dX5_notMove_33 rfl (by decide) ?_
    exact gq_iret hX hQ dX5_notMove_34 rfl ⟨congrArg (fun z => some (Value.int z)) (by rw [gmoF, fulF_m hwf]; simp [*, nI_0, n1]), rfl⟩
  · refine gq_iload hX dX5_notMove_28 rfl rfl ?_
    refine gq_if_ne (tgt := 35) hX dX5_notMove_30 rfl rfl (fun c30 => ?_) (fun c30 => ?_)
    · refine gq_aload_n hX dX5_notMove_35 rfl rfl rfl ?_
      refine gq_getf hX dX5_notMove_36 rfl fX5_7 (mqR0 hb) rfl ?_
      refine gq_iconst (v := nI 2) hX dX5_notMove_39 rfl (by decide) ?_
      refine gq_ialdN hX dX5_notMove_40 rfl (mqR1 hb) rfl (by omega) (Nat.le_of_ble_eq_true rfl) ?_
      rw [hw2]
      refine gq_bipush (v := nI 8) hX dX5_notMove_41 rfl (by decide) ?_
      refine gq_icmp_ne (tgt := 50) hX dX5_notMove_43 rfl rfl (fun c43 => ?_) (fun c43 => ?_)
      · refine gq_iconst (v := nI 0) hX dX5_notMove_50 rfl (by decide) ?_
        exact gq_iret hX hQ dX5_notMove_51 rfl ⟨congrArg (fun z => some (Value.int z)) (by rw [gmoF, fulF_m hwf]; simp [*, nI_0, n1]), rfl⟩
      · refine gq_iconst (v := nI 2) hX dX5_notMove_46 rfl (by decide) ?_
        refine gq_goto (tgt := 51) hX dX5_notMove_47 rfl ?_
        exact gq_iret hX hQ dX5_notMove_51 rfl ⟨congrArg (fun z => some (Value.int z)) (by rw [gmoF, fulF_m hwf]; simp [*, nI_0, n1]), rfl⟩
    · refine gq_iconst (v := nI 1) hX dX5_notMove_33 rfl (by decide) ?_
      exact gq_iret hX hQ dX5_notMove_34 rfl ⟨congrArg (fun z => some (Value.int z)) (by rw [gmoF, fulF_m hwf]; simp [*, nI_0, n1]), rfl⟩

set_option maxRecDepth 100000 in
set_option maxHeartbeats 4000000 in
theorem mt_notSecond {E : Ev} {b : Nat → Nat} {T : St} {M : Hp} (hb : Lay E 9 b) {S : St} {nc nt no : Nat} (hwf : Wf S nc nt no) (hse : SecOk S nc no) (c id : Int32) : Ct E mX5_notSecond [.ref (b 0), .int c, .int id] (MdW E b T (wOf S nc nt no) M) (eqR (some (.int (secF S nc no c id))) (MdW E b T (wOf S nc nt no) M)) 0 0 := by
  refine Ct.of gmX5_notSecond (ls := [.ref (b 0), .int c, .int id, hole]) rfl rfl (Nat.le_of_ble_eq_true rfl) ?_
  intro X hX Q hQ
  have hwf2 := hwf
  obtain ⟨hnc, hncl, hnt, hntl, hno, hnol⟩ := hwf2
  have hw0 : wOf S nc nt no 0 = nI nc := hnc
  have hw1 : wOf S nc nt no 1 = nI nt := hnt
  have hw2 : wOf S nc nt no 2 = nI no := hno
  rcases ho : slotO S no id with _ | k
  · have hct := mt_slotOf (M := M) (T := T) hb hwf id
    rw [ho] at hct
    refine gq_aload_n hX dX5_notSecond_0 rfl rfl rfl ?_
    refine gq_iload_n hX dX5_notSecond_1 rfl rfl rfl ?_
    refine gq_callVe hX dX5_notSecond_2 rfl vX5_94 (mt_isCom hb hwf _) rfl (mqR0 hb) rfl rfl (Nat.le_of_ble_eq_true rfl) ⟨(Nat.le_of_ble_eq_true rfl), (Nat.le_of_ble_eq_true rfl)⟩ (Nat.zero_add _) (Nat.zero_add _) ?_
    refine gq_if_ne (tgt := 10) hX dX5_notSecond_5 rfl rfl (fun c5 => ?_) (fun c5 => ?_)
    · refine gq_aload_n hX dX5_notSecond_10 rfl rfl rfl ?_
      refine gq_iload_n hX dX5_notSecond_11 rfl rfl rfl ?_
      refine gq_callVe hX dX5_notSecond_12 rfl vX5_133 (hct) rfl (mqR0 hb) rfl rfl (Nat.le_of_ble_eq_true rfl) ⟨(Nat.le_of_ble_eq_true rfl), (Nat.le_of_ble_eq_true rfl)⟩ (Nat.zero_add _) (Nat.zero_add _) ?_
      refine gq_istore_n hX dX5_notSecond_15 rfl rfl (Nat.le_of_ble_eq_true rfl) rfl ?_
      refine gq_iload_n hX dX5_notSecond_16 rfl rfl rfl ?_
      refine gq_if_geF (tgt := 22) hX dX5_notSecond_17 rfl rfl (by decide) ?_
      refine gq_iconst (v := nI 2) hX dX5_notSecond_20 rfl (by decide) ?_
      exact gq_iret hX hQ dX5_notSecond_21 rfl ⟨congrArg (fun z => some (Value.int z)) (by simp [secF, *]), rfl⟩
    · refine gq_iconst (v := nI 1) hX dX5_notSecond_8 rfl (by decide) ?_
      exact gq_iret hX hQ dX5_notSecond_9 rfl ⟨congrArg (fun z => some (Value.int z)) (by simp [secF, *]), rfl⟩
  · have hct := mt_slotOf (M := M) (T := T) hb hwf id
    rw [ho] at hct
    obtain ⟨hk, hid⟩ := slotO_lt ho
    have hk0 : 0 ≤ nI k := nI_pos' (by omega)
    refine gq_aload_n hX dX5_notSecond_0 rfl rfl rfl ?_
    refine gq_iload_n hX dX5_notSecond_1 rfl rfl rfl ?_
    refine gq_callVe hX dX5_notSecond_2 rfl vX5_94 (mt_isCom hb hwf _) rfl (mqR0 hb) rfl rfl (Nat.le_of_ble_eq_true rfl) ⟨(Nat.le_of_ble_eq_true rfl), (Nat.le_of_ble_eq_true rfl)⟩ (Nat.zero_add _) (Nat.zero_add _) ?_
    refine gq_if_ne (tgt := 10) hX dX5_notSecond_5 rfl rfl (fun c5 => ?_) (fun c5 => ?_)
    · refine gq_aload_n hX dX5_notSecond_10 rfl rfl rfl ?_
      refine gq_iload_n hX dX5_notSecond_11 rfl rfl rfl ?_
      refine gq_callVe hX dX5_notSecond_12 rfl vX5_133 (hct) rfl (mqR0 hb) rfl rfl (Nat.le_of_ble_eq_true rfl) ⟨(Nat.le_of_ble_eq_true rfl), (Nat.le_of_ble_eq_true rfl)⟩ (Nat.zero_add _) (Nat.zero_add _) ?_
      refine gq_istore_n hX dX5_notSecond_15 rfl rfl (Nat.le_of_ble_eq_true rfl) rfl ?_
      refine gq_iload_n hX dX5_notSecond_16 rfl rfl rfl ?_
      refine gq_if_geT (tgt := 22) hX dX5_notSecond_17 rfl hk0 ?_
      refine gq_aload_n hX dX5_notSecond_22 rfl rfl rfl ?_
      refine gq_iload_n hX dX5_notSecond_23 rfl rfl rfl ?_
      refine gq_iconst (v := nI 2) hX dX5_notSecond_24 rfl (by decide) ?_
      refine gq_callVe hX dX5_notSecond_25 rfl vX5_61 (mt_motion hb (c := k) (x := 2) (by omega) (by decide)) rfl (mqR0 hb) rfl rfl (Nat.le_of_ble_eq_true rfl) ⟨(Nat.le_of_ble_eq_true rfl), (Nat.le_of_ble_eq_true rfl)⟩ (Nat.zero_add _) (Nat.zero_add _) ?_
      rw [wM2 hnol hk]
      refine gq_iload_n hX dX5_notSecond_28 rfl rfl rfl ?_
      refine gq_icmp_ne (tgt := 34) hX dX5_notSecond_29 rfl rfl (fun c29 => ?_) (fun c29 => ?_)
      · refine gq_aload_n hX dX5_notSecond_34 rfl rfl rfl ?_
        refine gq_iload_n hX dX5_notSecond_35 rfl rfl rfl ?_
        refine gq_iconst (v := nI 4) hX dX5_notSecond_36 rfl (by decide) ?_
        refine gq_callVe hX dX5_notSecond_37 rfl vX5_61 (mt_motion hb (c := k) (x := 4) (by omega) (by decide)) rfl (mqR0 hb) rfl rfl (Nat.le_of_ble_eq_true rfl) ⟨(Nat.le_of_ble_eq_true rfl), (Nat.le_of_ble_eq_true rfl)⟩ (Nat.zero_add _) (Nat.zero_add _) ?_
        rw [wM4 hnol hk]
        have hsl := sec_le (hse k hk) (by omega)
        show Gq E X mX5_notSecond Q 40 _ [.int (S.2 11 k + nI 1)] _ 0 0
        refine gq_if_le (tgt := 47) hX dX5_notSecond_40 rfl rfl (fun c40 => ?_) (fun c40 => ?_)
        · refine gq_iconst (v := nI 0) hX dX5_notSecond_47 rfl (by decide) ?_
          exact gq_iret hX hQ dX5_notSecond_48 rfl ⟨congrArg (fun z => some (Value.int z)) (by clear hct hQ hX; first | (simp [secF, *]; done) | (simp_all [secF]; done) | (simp_all [secF, n1]; done)), rfl⟩
        · refine gq_iconst (v := nI 4) hX dX5_notSecond_43 rfl (by decide) ?_
          refine gq_goto (tgt := 48) hX dX5_notSecond_44 rfl ?_
          exact gq_iret hX hQ dX5_notSecond_48 rfl ⟨congrArg (fun z => some (Value.int z)) (by clear hct hQ hX; first | (simp [secF, *]; done) | (simp_all [secF]; done) | (simp_all [secF, n1]; done)), rfl⟩
      · refine gq_iconst (v := nI 3) hX dX5_notSecond_32 rfl (by decide) ?_
        exact gq_iret hX hQ dX5_notSecond_33 rfl ⟨congrArg (fun z => some (Value.int z)) (by clear hct hQ hX; first | (simp [secF, *]; done) | (simp_all [secF]; done) | (simp_all [secF, n1]; done)), rfl⟩
    · refine gq_iconst (v := nI 1) hX dX5_notSecond_8 rfl (by decide) ?_
      exact gq_iret hX hQ dX5_notSecond_9 rfl ⟨congrArg (fun z => some (Value.int z)) (by clear hct hQ hX; first | (simp [secF, *]; done) | (simp_all [secF]; done) | (simp_all [secF, n1]; done)), rfl⟩

set_option maxRecDepth 100000 in
set_option maxHeartbeats 4000000 in
theorem mt_notUntable {E : Ev} {b : Nat → Nat} {T : St} {M : Hp} (hb : Lay E 9 b) {S : St} {nc nt no : Nat} (hwf : Wf S nc nt no) (id : Int32) : Ct E mX5_notUntable [.ref (b 0), .int id] (MdW E b T (wOf S nc nt no) M) (eqR (some (.int (untF S no id))) (MdW E b T (wOf S nc nt no) M)) 0 0 := by
  refine Ct.of gmX5_notUntable (ls := [.ref (b 0), .int id]) rfl rfl (Nat.le_of_ble_eq_true rfl) ?_
  intro X hX Q hQ
  have hwf2 := hwf
  obtain ⟨hnc, hncl, hnt, hntl, hno, hnol⟩ := hwf2
  have hw0 : wOf S nc nt no 0 = nI nc := hnc
  have hw1 : wOf S nc nt no 1 = nI nt := hnt
  have hw2 : wOf S nc nt no 2 = nI no := hno
  rcases ho : slotO S no id with _ | k
  · have hct := mt_slotOf (M := M) (T := T) hb hwf id
    rw [ho] at hct
    refine gq_aload_n hX dX5_notUntable_0 rfl rfl rfl ?_
    refine gq_iload_n hX dX5_notUntable_1 rfl rfl rfl ?_
    refine gq_callVe hX dX5_notUntable_2 rfl vX5_133 (hct) rfl (mqR0 hb) rfl rfl (Nat.le_of_ble_eq_true rfl) ⟨(Nat.le_of_ble_eq_true rfl), (Nat.le_of_ble_eq_true rfl)⟩ (Nat.zero_add _) (Nat.zero_add _) ?_
    refine gq_if_geF (tgt := 10) hX dX5_notUntable_5 rfl rfl (by decide) ?_
    refine gq_iconst (v := nI 1) hX dX5_notUntable_8 rfl (by decide) ?_
    exact gq_iret hX hQ dX5_notUntable_9 rfl ⟨congrArg (fun z => some (Value.int z)) (by simp [untF, *]), rfl⟩
  · have hct := mt_slotOf (M := M) (T := T) hb hwf id
    rw [ho] at hct
    obtain ⟨hk, hid⟩ := slotO_lt ho
    have hk0 : 0 ≤ nI k := nI_pos' (by omega)
    refine gq_aload_n hX dX5_notUntable_0 rfl rfl rfl ?_
    refine gq_iload_n hX dX5_notUntable_1 rfl rfl rfl ?_
    refine gq_callVe hX dX5_notUntable_2 rfl vX5_133 (hct) rfl (mqR0 hb) rfl rfl (Nat.le_of_ble_eq_true rfl) ⟨(Nat.le_of_ble_eq_true rfl), (Nat.le_of_ble_eq_true rfl)⟩ (Nat.zero_add _) (Nat.zero_add _) ?_
    refine gq_if_geT (tgt := 10) hX dX5_notUntable_5 rfl hk0 ?_
    refine gq_aload_n hX dX5_notUntable_10 rfl rfl rfl ?_
    refine gq_aload_n hX dX5_notUntable_11 rfl rfl rfl ?_
    refine gq_iload_n hX dX5_notUntable_12 rfl rfl rfl ?_
    refine gq_callVe hX dX5_notUntable_13 rfl vX5_133 (hct) rfl (mqR0 hb) rfl rfl (Nat.le_of_ble_eq_true rfl) ⟨(Nat.le_of_ble_eq_true rfl), (Nat.le_of_ble_eq_true rfl)⟩ (Nat.zero_add _) (Nat.zero_add _) ?_
    refine gq_iconst (v := nI 5) hX dX5_notUntable_16 rfl (by decide) ?_
    refine gq_callVe hX dX5_notUntable_17 rfl vX5_61 (mt_motion hb (c := k) (x := 5) (by omega) (by decide)) rfl (mqR0 hb) rfl rfl (Nat.le_of_ble_eq_true rfl) ⟨(Nat.le_of_ble_eq_true rfl), (Nat.le_of_ble_eq_true rfl)⟩ (Nat.zero_add _) (Nat.zero_add _) ?_
    rw [wM5 hnol hk]
    refine gq_if_ne (tgt := 27) hX dX5_notUntable_20 rfl rfl (fun c20 => ?_) (fun c20 => ?_)
    · refine gq_iconst (v := nI 0) hX dX5_notUntable_27 rfl (by decide) ?_
      exact gq_iret hX hQ dX5_notUntable_28 rfl ⟨congrArg (fun z => some (Value.int z)) (by clear hct hQ hX; first | (simp [untF, *]; done) | (simp_all [untF]; done) | (simp_all [untF, n1]; done)), rfl⟩
    · refine gq_iconst (v := nI 2) hX dX5_notUntable_23 rfl (by decide) ?_
      refine gq_goto (tgt := 28) hX dX5_notUntable_24 rfl ?_
      exact gq_iret hX hQ dX5_notUntable_28 rfl ⟨congrArg (fun z => some (Value.int z)) (by clear hct hQ hX; first | (simp [untF, *]; done) | (simp_all [untF]; done) | (simp_all [untF, n1]; done)), rfl⟩

set_option maxRecDepth 100000 in
set_option maxHeartbeats 4000000 in
theorem mt_notWithdraw {E : Ev} {b : Nat → Nat} {T : St} {M : Hp} (hb : Lay E 9 b) {S : St} {nc nt no : Nat} (hwf : Wf S nc nt no) (id : Int32) : Ct E mX5_notWithdraw [.ref (b 0), .int id] (MdW E b T (wOf S nc nt no) M) (eqR (some (.int (witF S no id))) (MdW E b T (wOf S nc nt no) M)) 0 0 := by
  refine Ct.of gmX5_notWithdraw (ls := [.ref (b 0), .int id]) rfl rfl (Nat.le_of_ble_eq_true rfl) ?_
  intro X hX Q hQ
  have hwf2 := hwf
  obtain ⟨hnc, hncl, hnt, hntl, hno, hnol⟩ := hwf2
  have hw0 : wOf S nc nt no 0 = nI nc := hnc
  have hw1 : wOf S nc nt no 1 = nI nt := hnt
  have hw2 : wOf S nc nt no 2 = nI no := hno
  rcases ho : slotO S no id with _ | k
  · have hct := mt_slotOf (M := M) (T := T) hb hwf id
    rw [ho] at hct
    refine gq_aload_n hX dX5_notWithdraw_0 rfl rfl rfl ?_
    refine gq_iload_n hX dX5_notWithdraw_1 rfl rfl rfl ?_
    refine gq_callVe hX dX5_notWithdraw_2 rfl vX5_133 (hct) rfl (mqR0 hb) rfl rfl (Nat.le_of_ble_eq_true rfl) ⟨(Nat.le_of_ble_eq_true rfl), (Nat.le_of_ble_eq_true rfl)⟩ (Nat.zero_add _) (Nat.zero_add _) ?_
    refine gq_if_geF (tgt := 12) hX dX5_notWithdraw_5 rfl rfl (by decide) ?_
    refine gq_iconst (v := nI 1) hX dX5_notWithdraw_8 rfl (by decide) ?_
    refine gq_goto (tgt := 13) hX dX5_notWithdraw_9 rfl ?_
    exact gq_iret hX hQ dX5_notWithdraw_13 rfl ⟨congrArg (fun z => some (Value.int z)) (by simp [witF, *]), rfl⟩
  · have hct := mt_slotOf (M := M) (T := T) hb hwf id
    rw [ho] at hct
    obtain ⟨hk, hid⟩ := slotO_lt ho
    have hk0 : 0 ≤ nI k := nI_pos' (by omega)
    refine gq_aload_n hX dX5_notWithdraw_0 rfl rfl rfl ?_
    refine gq_iload_n hX dX5_notWithdraw_1 rfl rfl rfl ?_
    refine gq_callVe hX dX5_notWithdraw_2 rfl vX5_133 (hct) rfl (mqR0 hb) rfl rfl (Nat.le_of_ble_eq_true rfl) ⟨(Nat.le_of_ble_eq_true rfl), (Nat.le_of_ble_eq_true rfl)⟩ (Nat.zero_add _) (Nat.zero_add _) ?_
    refine gq_if_geT (tgt := 12) hX dX5_notWithdraw_5 rfl hk0 ?_
    refine gq_iconst (v := nI 0) hX dX5_notWithdraw_12 rfl (by decide) ?_
    exact gq_iret hX hQ dX5_notWithdraw_13 rfl ⟨congrArg (fun z => some (Value.int z)) (by clear hct hQ hX; first | (simp [witF, *]; done) | (simp_all [witF]; done) | (simp_all [witF, n1]; done)), rfl⟩

set_option maxRecDepth 100000 in
set_option maxHeartbeats 4000000 in
theorem mt_notVote {E : Ev} {b : Nat → Nat} {T : St} {M : Hp} (hb : Lay E 9 b) {S : St} {nc nt no : Nat} (hwf : Wf S nc nt no) (hn : Nar S) (id : Int32) : Ct E mX5_notVote [.ref (b 0), .int id] (MdW E b T (wOf S nc nt no) M) (eqR (some (.int (votF S no id))) (MdW E b T (wOf S nc nt no) M)) 0 0 := by
  refine Ct.of gmX5_notVote (ls := [.ref (b 0), .int id, hole]) rfl rfl (Nat.le_of_ble_eq_true rfl) ?_
  intro X hX Q hQ
  have hwf2 := hwf
  obtain ⟨hnc, hncl, hnt, hntl, hno, hnol⟩ := hwf2
  have hw0 : wOf S nc nt no 0 = nI nc := hnc
  have hw1 : wOf S nc nt no 1 = nI nt := hnt
  have hw2 : wOf S nc nt no 2 = nI no := hno
  rcases ho : slotO S no id with _ | k
  · have hct := mt_slotOf (M := M) (T := T) hb hwf id
    rw [ho] at hct
    refine gq_aload_n hX dX5_notVote_0 rfl rfl rfl ?_
    refine gq_iload_n hX dX5_notVote_1 rfl rfl rfl ?_
    refine gq_callVe hX dX5_notVote_2 rfl vX5_133 (hct) rfl (mqR0 hb) rfl rfl (Nat.le_of_ble_eq_true rfl) ⟨(Nat.le_of_ble_eq_true rfl), (Nat.le_of_ble_eq_true rfl)⟩ (Nat.zero_add _) (Nat.zero_add _) ?_
    refine gq_istore_n hX dX5_notVote_5 rfl rfl (Nat.le_of_ble_eq_true rfl) rfl ?_
    refine gq_iload_n hX dX5_notVote_6 rfl rfl rfl ?_
    refine gq_if_geF (tgt := 12) hX dX5_notVote_7 rfl rfl (by decide) ?_
    refine gq_iconst (v := nI 1) hX dX5_notVote_10 rfl (by decide) ?_
    exact gq_iret hX hQ dX5_notVote_11 rfl ⟨congrArg (fun z => some (Value.int z)) (by simp [votF, *]), rfl⟩
  · have hct := mt_slotOf (M := M) (T := T) hb hwf id
    rw [ho] at hct
    obtain ⟨hk, hid⟩ := slotO_lt ho
    have hk0 : 0 ≤ nI k := nI_pos' (by omega)
    refine gq_aload_n hX dX5_notVote_0 rfl rfl rfl ?_
    refine gq_iload_n hX dX5_notVote_1 rfl rfl rfl ?_
    refine gq_callVe hX dX5_notVote_2 rfl vX5_133 (hct) rfl (mqR0 hb) rfl rfl (Nat.le_of_ble_eq_true rfl) ⟨(Nat.le_of_ble_eq_true rfl), (Nat.le_of_ble_eq_true rfl)⟩ (Nat.zero_add _) (Nat.zero_add _) ?_
    refine gq_istore_n hX dX5_notVote_5 rfl rfl (Nat.le_of_ble_eq_true rfl) rfl ?_
    refine gq_iload_n hX dX5_notVote_6 rfl rfl rfl ?_
    refine gq_if_geT (tgt := 12) hX dX5_notVote_7 rfl hk0 ?_
    refine gq_aload_n hX dX5_notVote_12 rfl rfl rfl ?_
    refine gq_iload_n hX dX5_notVote_13 rfl rfl rfl ?_
    refine gq_iconst (v := nI 4) hX dX5_notVote_14 rfl (by decide) ?_
    refine gq_callVe hX dX5_notVote_15 rfl vX5_61 (mt_motion hb (c := k) (x := 4) (by omega) (by decide)) rfl (mqR0 hb) rfl rfl (Nat.le_of_ble_eq_true rfl) ⟨(Nat.le_of_ble_eq_true rfl), (Nat.le_of_ble_eq_true rfl)⟩ (Nat.zero_add _) (Nat.zero_add _) ?_
    rw [wM4 hnol hk]
    show Gq E X mX5_notVote Q 18 _ [.int (S.2 11 k + nI 1)] _ 0 0
    have h10 : S.2 11 k + nI 1 = 0 ↔ S.2 11 k = -1 := add1_0
    refine gq_if_eq (tgt := 31) hX dX5_notVote_18 rfl rfl (fun c18 => ?_) (fun c18 => ?_)
    · refine gq_iconst (v := nI 2) hX dX5_notVote_31 rfl (by decide) ?_
      refine gq_goto (tgt := 36) hX dX5_notVote_32 rfl ?_
      exact gq_iret hX hQ dX5_notVote_36 rfl ⟨congrArg (fun z => some (Value.int z)) (by clear hct hQ hX; first | (simp [votF, *]; done) | (simp_all [votF]; done) | (simp_all [votF, n1]; done)), rfl⟩
    · refine gq_aload_n hX dX5_notVote_21 rfl rfl rfl ?_
      refine gq_iload_n hX dX5_notVote_22 rfl rfl rfl ?_
      refine gq_iconst (v := nI 5) hX dX5_notVote_23 rfl (by decide) ?_
      refine gq_callVe hX dX5_notVote_24 rfl vX5_61 (mt_motion hb (c := k) (x := 5) (by omega) (by decide)) rfl (mqR0 hb) rfl rfl (Nat.le_of_ble_eq_true rfl) ⟨(Nat.le_of_ble_eq_true rfl), (Nat.le_of_ble_eq_true rfl)⟩ (Nat.zero_add _) (Nat.zero_add _) ?_
      rw [wM5 hnol hk]
      show Gq E X mX5_notVote Q 27 _ [.int (S.2 12 k)] _ 0 0
      have h11 : S.2 12 k = 0 ↔ ¬ S.2 12 k = nI 1 := by rcases bool_01 (hn.2.2 k) with h | h <;> rw [h] <;> decide
      refine gq_iconst (v := nI 1) hX dX5_notVote_27 rfl (by decide) ?_
      refine gq_icmp_ne (tgt := 35) hX dX5_notVote_28 rfl rfl (fun c28 => ?_) (fun c28 => ?_)
      · refine gq_iconst (v := nI 0) hX dX5_notVote_35 rfl (by decide) ?_
        exact gq_iret hX hQ dX5_notVote_36 rfl ⟨congrArg (fun z => some (Value.int z)) (by clear hct hQ hX; first | (simp [votF, *]; done) | (simp_all [votF]; done) | (simp_all [votF, n1]; done)), rfl⟩
      · refine gq_iconst (v := nI 2) hX dX5_notVote_31 rfl (by decide) ?_
        refine gq_goto (tgt := 36) hX dX5_notVote_32 rfl ?_
        exact gq_iret hX hQ dX5_notVote_36 rfl ⟨congrArg (fun z => some (Value.int z)) (by clear hct hQ hX; first | (simp [votF, *]; done) | (simp_all [votF]; done) | (simp_all [votF, n1]; done)), rfl⟩

set_option maxRecDepth 100000 in
set_option maxHeartbeats 4000000 in
theorem mt_notGust {E : Ev} {M : Hp} (s : Int32) : Ct E mX5_notGust [.int s] M (eqR (some (.int (gusF s))) M) 0 0 := by
  refine Ct.of gmX5_notGust (ls := [.int s]) rfl rfl (Nat.le_of_ble_eq_true rfl) ?_
  intro X hX Q hQ
  refine gq_iload_n hX dX5_notGust_0 rfl rfl rfl ?_
  refine gq_iconst (v := nI 0) hX dX5_notGust_1 rfl (by decide) ?_
  refine gq_bipush (v := nI 20) hX dX5_notGust_2 rfl (by decide) ?_
  refine gq_callSe hX dX5_notGust_4 rfl vX5_57 (mt_btw _ _ _) rfl rfl (Nat.le_of_ble_eq_true rfl) ⟨(Nat.le_of_ble_eq_true rfl), (Nat.le_of_ble_eq_true rfl)⟩ (Nat.zero_add _) (Nat.zero_add _) ?_
  refine gq_if_eq (tgt := 14) hX dX5_notGust_7 rfl rfl (fun c7 => ?_) (fun c7 => ?_)
  · refine gq_iconst (v := nI 1) hX dX5_notGust_14 rfl (by decide) ?_
    exact gq_iret hX hQ dX5_notGust_15 rfl ⟨congrArg (fun z => some (Value.int z)) (by rw [gusF_m]; simp [*]), rfl⟩
  · refine gq_iconst (v := nI 0) hX dX5_notGust_10 rfl (by decide) ?_
    refine gq_goto (tgt := 15) hX dX5_notGust_11 rfl ?_
    exact gq_iret hX hQ dX5_notGust_15 rfl ⟨congrArg (fun z => some (Value.int z)) (by rw [gusF_m]; simp [*]), rfl⟩

set_option maxRecDepth 100000 in
set_option maxHeartbeats 4000000 in
theorem mt_notPass {E : Ev} {M : Hp} (s : Int32) : Ct E mX5_notPass [.int s] M (eqR (some (.int (pasF s))) M) 0 0 := by
  refine Ct.of gmX5_notPass (ls := [.int s]) rfl rfl (Nat.le_of_ble_eq_true rfl) ?_
  intro X hX Q hQ
  refine gq_iload_n hX dX5_notPass_0 rfl rfl rfl ?_
  refine gq_iconst (v := nI 1) hX dX5_notPass_1 rfl (by decide) ?_
  refine gq_bipush (v := nI 12) hX dX5_notPass_2 rfl (by decide) ?_
  refine gq_callSe hX dX5_notPass_4 rfl vX5_57 (mt_btw _ _ _) rfl rfl (Nat.le_of_ble_eq_true rfl) ⟨(Nat.le_of_ble_eq_true rfl), (Nat.le_of_ble_eq_true rfl)⟩ (Nat.zero_add _) (Nat.zero_add _) ?_
  refine gq_if_eq (tgt := 14) hX dX5_notPass_7 rfl rfl (fun c7 => ?_) (fun c7 => ?_)
  · refine gq_iconst (v := nI 1) hX dX5_notPass_14 rfl (by decide) ?_
    exact gq_iret hX hQ dX5_notPass_15 rfl ⟨congrArg (fun z => some (Value.int z)) (by rw [pasF_m]; simp [*]), rfl⟩
  · refine gq_iconst (v := nI 0) hX dX5_notPass_10 rfl (by decide) ?_
    refine gq_goto (tgt := 15) hX dX5_notPass_11 rfl ?_
    exact gq_iret hX hQ dX5_notPass_15 rfl ⟨congrArg (fun z => some (Value.int z)) (by rw [pasF_m]; simp [*]), rfl⟩

