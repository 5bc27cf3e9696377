theorem vz0 : vp_nar .boolean (nI 0) = nI 0 := by decide
theorem vz1 : vp_nar .boolean (nI 1) = nI 1 := by decide
theorem nz0 : narrow .boolean (.int (nI 0)) = .int (nI 0) := rfl
theorem nz1 : narrow .boolean (.int (nI 1)) = .int (nI 1) := rfl
/-- a number among the first n -/
def hasI (n : Nat) (c : Int32) : Int32 := if c < 0 then nI 0 else if nI n ≤ c then nI 0 else nI 1
/-- what a state's counts are -/
def Wf (S : St) (nc nt no : Nat) : Prop := S.1 0 = nI nc ∧ nc ≤ 6 ∧ S.1 1 = nI nt ∧ nt ≤ 8 ∧ S.1 7 = nI no ∧ no ≤ 8
def lenB (S : St) (nt : Nat) (c : Int32) : Int32 := it (fun j s => if S.2 5 j = c then s + S.2 4 j else s) 0 nt

set_option maxRecDepth 100000 in
set_option maxHeartbeats 4000000 in
theorem ct_hasCommittee {E : Ev} {b : Nat → Nat} {S : St} {M : Hp} (hb : Lay E 13 b) {nc nt no : Nat} (hwf : Wf S nc nt no) (c : Int32) : Ct E mX3_hasCommittee [.ref (b 0), .int c] (StP E b S M) (eqR (some (.int (hasI nc c))) (StP E b S M)) 0 0 := by
  refine Ct.of gmX3_hasCommittee (ls := [.ref (b 0), .int c]) rfl rfl (Nat.le_of_ble_eq_true rfl) ?_
  intro X hX Q hQ
  have hw := hwf.1
  refine gq_iload_n hX dX3_hasCommittee_0 rfl rfl rfl ?_
  refine gq_if_lt (tgt := 16) hX dX3_hasCommittee_1 rfl rfl (fun c1 => ?_) (fun c1 => ?_)
  · refine gq_iconst (v := nI 0) hX dX3_hasCommittee_16 rfl (by decide) ?_
    refine gq_zret hX hQ dX3_hasCommittee_17 rfl rfl ⟨?_, rfl⟩
    rw [hw] at *
    simp [hasI, *]
  · refine gq_iload_n hX dX3_hasCommittee_4 rfl rfl rfl ?_
    refine gq_aload_n hX dX3_hasCommittee_5 rfl rfl rfl ?_
    refine gq_getf hX dX3_hasCommittee_6 rfl fX3_9 (sxR0 hb) rfl ?_
    refine gq_icmp_ge (tgt := 16) hX dX3_hasCommittee_9 rfl rfl (fun c9 => ?_) (fun c9 => ?_)
    · refine gq_iconst (v := nI 0) hX dX3_hasCommittee_16 rfl (by decide) ?_
      refine gq_zret hX hQ dX3_hasCommittee_17 rfl rfl ⟨?_, rfl⟩
      rw [hw] at *
      simp [hasI, *]
    · refine gq_iconst (v := nI 1) hX dX3_hasCommittee_12 rfl (by decide) ?_
      refine gq_goto (tgt := 17) hX dX3_hasCommittee_13 rfl ?_
      refine gq_zret hX hQ dX3_hasCommittee_17 rfl rfl ⟨?_, rfl⟩
      rw [hw] at *
      simp [hasI, *]

set_option maxRecDepth 100000 in
set_option maxHeartbeats 4000000 in
theorem ct_hasTail {E : Ev} {b : Nat → Nat} {S : St} {M : Hp} (hb : Lay E 13 b) {nc nt no : Nat} (hwf : Wf S nc nt no) (c : Int32) : Ct E mX3_hasTail [.ref (b 0), .int c] (StP E b S M) (eqR (some (.int (hasI nt c))) (StP E b S M)) 0 0 := by
  refine Ct.of gmX3_hasTail (ls := [.ref (b 0), .int c]) rfl rfl (Nat.le_of_ble_eq_true rfl) ?_
  intro X hX Q hQ
  have hw := hwf.2.2.1
  refine gq_iload_n hX dX3_hasTail_0 rfl rfl rfl ?_
  refine gq_if_lt (tgt := 16) hX dX3_hasTail_1 rfl rfl (fun c1 => ?_) (fun c1 => ?_)
  · refine gq_iconst (v := nI 0) hX dX3_hasTail_16 rfl (by decide) ?_
    refine gq_zret hX hQ dX3_hasTail_17 rfl rfl ⟨?_, rfl⟩
    rw [hw] at *
    simp [hasI, *]
  · refine gq_iload_n hX dX3_hasTail_4 rfl rfl rfl ?_
    refine gq_aload_n hX dX3_hasTail_5 rfl rfl rfl ?_
    refine gq_getf hX dX3_hasTail_6 rfl fX3_26 (sxR0 hb) rfl ?_
    refine gq_icmp_ge (tgt := 16) hX dX3_hasTail_9 rfl rfl (fun c9 => ?_) (fun c9 => ?_)
    · refine gq_iconst (v := nI 0) hX dX3_hasTail_16 rfl (by decide) ?_
      refine gq_zret hX hQ dX3_hasTail_17 rfl rfl ⟨?_, rfl⟩
      rw [hw] at *
      simp [hasI, *]
    · refine gq_iconst (v := nI 1) hX dX3_hasTail_12 rfl (by decide) ?_
      refine gq_goto (tgt := 17) hX dX3_hasTail_13 rfl ?_
      refine gq_zret hX hQ dX3_hasTail_17 rfl rfl ⟨?_, rfl⟩
      rw [hw] at *
      simp [hasI, *]

set_option maxRecDepth 100000 in
set_option maxHeartbeats 4000000 in
theorem ct_lengthBehind {E : Ev} {b : Nat → Nat} {S : St} {M : Hp} (hb : Lay E 13 b) {nc nt no : Nat} (hwf : Wf S nc nt no) (c : Int32) : Ct E mX3_lengthBehind [.ref (b 0), .int c] (StP E b S M) (eqR (some (.int (lenB S nt c))) (StP E b S M)) 0 0 := by
  refine Ct.of gmX3_lengthBehind (ls := [.ref (b 0), .int c, hole, hole]) rfl rfl (Nat.le_of_ble_eq_true rfl) ?_
  intro X hX Q hQ
  obtain ⟨-, -, ht, htl, -, -⟩ := hwf
  refine gq_iconst (v := nI 0) hX dX3_lengthBehind_0 rfl (by decide) ?_
  refine gq_istore_n hX dX3_lengthBehind_1 rfl rfl (Nat.le_of_ble_eq_true rfl) rfl ?_
  refine gq_iconst (v := nI 0) hX dX3_lengthBehind_2 rfl (by decide) ?_
  refine gq_istore_n hX dX3_lengthBehind_3 rfl rfl (Nat.le_of_ble_eq_true rfl) rfl ?_
  have loop : ∀ n j : Nat, j + n = nt → Gq E X mX3_lengthBehind Q 4 [.ref (b 0), .int c, .int (it (fun j s => if S.2 5 j = c then s + S.2 4 j else s) 0 j), .int (nI j)] [] (StP E b S M) 0 0 := by
    intro n
    induction n with
    | zero =>
      intro j hj
      refine gq_iload_n hX dX3_lengthBehind_4 rfl rfl rfl ?_
      refine gq_aload_n hX dX3_lengthBehind_5 rfl rfl rfl ?_
      refine gq_getf hX dX3_lengthBehind_6 rfl fX3_26 (sxR0 hb) rfl ?_
      refine gq_icmp_geT (tgt := 37) hX dX3_lengthBehind_9 rfl (cT ht (by omega) (by omega)) ?_
      refine gq_iload_n hX dX3_lengthBehind_37 rfl rfl rfl ?_
      have e : j = nt := by omega
      subst e
      exact gq_iret hX hQ dX3_lengthBehind_38 rfl ⟨rfl, rfl⟩
    | succ n ih =>
      intro j hj
      refine gq_iload_n hX dX3_lengthBehind_4 rfl rfl rfl ?_
      refine gq_aload_n hX dX3_lengthBehind_5 rfl rfl rfl ?_
      refine gq_getf hX dX3_lengthBehind_6 rfl fX3_26 (sxR0 hb) rfl ?_
      refine gq_icmp_geF (tgt := 37) hX dX3_lengthBehind_9 rfl rfl (cF ht (by omega) (by omega)) ?_
      refine gq_aload_n hX dX3_lengthBehind_12 rfl rfl rfl ?_
      refine gq_getf hX dX3_lengthBehind_13 rfl fX3_32 (sxR0 hb) rfl ?_
      refine gq_iload_n hX dX3_lengthBehind_16 rfl rfl rfl ?_
      refine gq_ialdN hX dX3_lengthBehind_17 rfl (sxR5 hb) rfl (by omega) (Nat.le_of_ble_eq_true rfl) ?_
      refine gq_iload_n hX dX3_lengthBehind_18 rfl rfl rfl ?_
      refine gq_icmp_ne (tgt := 31) hX dX3_lengthBehind_19 rfl rfl (fun c19 => ?_) (fun c19 => ?_)
      · refine gq_iinc hX dX3_lengthBehind_31 rfl rfl (inc1 _) (Nat.le_of_ble_eq_true rfl) rfl ?_
        refine gq_goto (tgt := 4) hX dX3_lengthBehind_34 rfl ?_
        have h9 := ih (j + 1) (by omega)
        have e9 : it (fun j s => if S.2 5 j = c then s + S.2 4 j else s) 0 (j + 1) = it (fun j s => if S.2 5 j = c then s + S.2 4 j else s) 0 j := if_neg c19
        rw [e9] at h9
        exact h9
      · refine gq_iload_n hX dX3_lengthBehind_22 rfl rfl rfl ?_
        refine gq_aload_n hX dX3_lengthBehind_23 rfl rfl rfl ?_
        refine gq_getf hX dX3_lengthBehind_24 rfl fX3_29 (sxR0 hb) rfl ?_
        refine gq_iload_n hX dX3_lengthBehind_27 rfl rfl rfl ?_
        refine gq_ialdN hX dX3_lengthBehind_28 rfl (sxR4 hb) rfl (by omega) (Nat.le_of_ble_eq_true rfl) ?_
        refine gq_iadd hX dX3_lengthBehind_29 rfl ?_
        refine gq_istore_n hX dX3_lengthBehind_30 rfl rfl (Nat.le_of_ble_eq_true rfl) rfl ?_
        refine gq_iinc hX dX3_lengthBehind_31 rfl rfl (inc1 _) (Nat.le_of_ble_eq_true rfl) rfl ?_
        refine gq_goto (tgt := 4) hX dX3_lengthBehind_34 rfl ?_
        have h9 := ih (j + 1) (by omega)
        have e9 : it (fun j s => if S.2 5 j = c then s + S.2 4 j else s) 0 (j + 1) = it (fun j s => if S.2 5 j = c then s + S.2 4 j else s) 0 j + S.2 4 j := if_pos c19
        rw [e9] at h9
        exact h9
  exact loop nt 0 (by omega)

