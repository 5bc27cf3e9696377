/-- what a slot moves for -/
def ObjOk (S : St) (nc nt k o : Nat) : Prop := S.2 10 k = nI o ∧ ((S.2 8 k = nI 114 ∧ o < nt) ∨ (S.2 8 k = nI 116 ∧ o < nt) ∨ (S.2 8 k = nI 103 ∧ o < nc))
def posI (S : St) (k a o : Nat) : Int32 := if S.2 8 k = nI 114 then (if S.2 5 o = -1 then (if S.2 3 a = 0 then nI 0 else nI 1) else nI 0) else if S.2 8 k = nI 116 then (if S.2 5 o = nI a then nI 1 else nI 0) else S.2 3 o
def effS (S : St) (nt k a o : Nat) : St := if S.2 8 k = nI 114 then setA S 5 (upd (S.2 5) o (nI a)) else if S.2 8 k = nI 116 then setA S 5 (upd (S.2 5) o (-1)) else groS S nt o
def carI (S : St) (nc k a o : Nat) : Int32 := if sumV S nc k a (nI 1) ≤ sumV S nc k a (-1) then nI 0 else if posI S k a o = 0 then nI 0 else nI 1
def votS (S : St) (nc nt no k a o : Nat) : St := if carI S nc k a o = 0 then cloS (setS S 4 (S.1 4 + nI 1)) no k else cloS (setS (effS S nt k a o) 3 (S.1 3 + nI 1)) no k
theorem effS_wf {S : St} {nc nt no k a o : Nat} (h : Wf S nc nt no) : Wf (effS S nt k a o) nc nt no := by
  unfold effS
  split
  · exact h
  · split
    · exact h
    · exact groS_wf h
theorem effS_s {S : St} {nt k a o : Nat} : (effS S nt k a o).1 = S.1 := by
  unfold effS
  split
  · rfl
  · split
    · rfl
    · rfl
theorem effS_nar {S : St} {nt k a o : Nat} (h : Nar S) : Nar (effS S nt k a o) := by
  unfold effS
  split
  · exact h
  · split
    · exact h
    · exact ⟨nar_upd h.1 vz0, h.2.1, h.2.2⟩
theorem k114 : ¬ nI 116 = nI 114 := by decide
theorem k103 : ¬ nI 103 = nI 114 := by decide
theorem k103' : ¬ nI 103 = nI 116 := by decide
def itU (f g : Nat → Int32) (n : Nat) : Nat → Int32 := fun j => if j < n then f j else g j
theorem itU_0 {f g : Nat → Int32} : itU f g 0 = g := funext fun j => if_neg (Nat.not_lt_zero j)
theorem itU_s {f g : Nat → Int32} {n : Nat} : upd (itU f g n) n (f n) = itU f g (n + 1) := by
  funext j
  by_cases e : j = n
  · subst e
    rw [upd_s]
    exact (if_pos (Nat.lt_succ_self _)).symm
  · rw [upd_n _ e]
    unfold itU
    by_cases h : j < n
    · rw [if_pos h, if_pos (by omega)]
    · rw [if_neg h, if_neg (by omega)]
theorem itU_lt {f g : Nat → Int32} {n j : Nat} (h : j < n) : itU f g n j = f j := if_pos h

set_option maxRecDepth 100000 in
set_option maxHeartbeats 4000000 in
theorem ct_isPossible {E : Ev} {b : Nat → Nat} {S : St} {M : Hp} (hb : Lay E 13 b) {nc nt no : Nat} (hwf : Wf S nc nt no) (hn : Nar S) {k a o : Nat} (hk : k < no) (hmv : S.2 9 k = nI a) (ha : a < nc) (ho : ObjOk S nc nt k o) : Ct E mX3_isPossible [.ref (b 0), .int (nI k)] (StP E b S M) (eqR (some (.int (posI S k a o))) (StP E b S M)) 0 0 := by
  refine Ct.of gmX3_isPossible (ls := [.ref (b 0), .int (nI k), hole, hole]) rfl rfl (Nat.le_of_ble_eq_true rfl) ?_
  intro X hX Q hQ
  have hwf2 := hwf
  obtain ⟨hnc, hncl, hnt, hntl, hno, hnol⟩ := hwf2
  obtain ⟨ho, ⟨h8, hlt⟩ | ⟨h8, hlt⟩ | ⟨h8, hlt⟩⟩ := ho
  · refine gq_aload_n hX dX3_isPossible_0 rfl rfl rfl ?_
    refine gq_getf hX dX3_isPossible_1 rfl fX3_38 (sxR0 hb) rfl ?_
    refine gq_getf hX dX3_isPossible_4 rfl fX3_90 (sxR6 hb) rfl ?_
    refine gq_iload_n hX dX3_isPossible_7 rfl rfl rfl ?_
    refine gq_ialdN hX dX3_isPossible_8 rfl (sxR9 hb) rfl (by omega) (Nat.le_of_ble_eq_true rfl) ?_
    refine gq_istore_n hX dX3_isPossible_9 rfl rfl (Nat.le_of_ble_eq_true rfl) rfl ?_
    refine gq_aload_n hX dX3_isPossible_10 rfl rfl rfl ?_
    refine gq_getf hX dX3_isPossible_11 rfl fX3_38 (sxR0 hb) rfl ?_
    refine gq_getf hX dX3_isPossible_14 rfl fX3_122 (sxR6 hb) rfl ?_
    refine gq_iload_n hX dX3_isPossible_17 rfl rfl rfl ?_
    refine gq_ialdN hX dX3_isPossible_18 rfl (sxR10 hb) rfl (by omega) (Nat.le_of_ble_eq_true rfl) ?_
    refine gq_istore_n hX dX3_isPossible_19 rfl rfl (Nat.le_of_ble_eq_true rfl) rfl ?_
    refine gq_aload_n hX dX3_isPossible_20 rfl rfl rfl ?_
    refine gq_getf hX dX3_isPossible_21 rfl fX3_38 (sxR0 hb) rfl ?_
    refine gq_getf hX dX3_isPossible_24 rfl fX3_125 (sxR6 hb) rfl ?_
    refine gq_iload_n hX dX3_isPossible_27 rfl rfl rfl ?_
    refine gq_caldN hX dX3_isPossible_28 rfl (sxR8 hb) rfl (by omega) (Nat.le_of_ble_eq_true rfl) ?_
    rw [h8]
    refine gq_lookup (tgt := 56) (off := 27) hX dX3_isPossible_29 (by decide) (by decide +kernel) rfl ?_
    refine gq_aload_n hX dX3_isPossible_56 rfl rfl rfl ?_
    refine gq_getf hX dX3_isPossible_57 rfl fX3_32 (sxR0 hb) rfl ?_
    refine gq_iload_n hX dX3_isPossible_60 rfl rfl rfl ?_
    refine gq_ialdN hX dX3_isPossible_61 rfl (sxR5 hb) ho (by omega) (Nat.le_of_ble_eq_true rfl) ?_
    refine gq_iconst (v := -1) hX dX3_isPossible_62 rfl (by decide) ?_
    refine gq_icmp_ne (tgt := 79) hX dX3_isPossible_63 rfl rfl (fun c63 => ?_) (fun c63 => ?_)
    · refine gq_iconst (v := nI 0) hX dX3_isPossible_79 rfl (by decide) ?_
      refine gq_zret hX hQ dX3_isPossible_80 rfl (by decide) ⟨congrArg (fun z => some (Value.int z)) ?_, rfl⟩
      unfold posI
      rw [hmv] at *
      simp [h8, *]
    · refine gq_aload_n hX dX3_isPossible_66 rfl rfl rfl ?_
      refine gq_getf hX dX3_isPossible_67 rfl fX3_22 (sxR0 hb) rfl ?_
      refine gq_iload_n hX dX3_isPossible_70 rfl rfl rfl ?_
      refine gq_zaldN hX dX3_isPossible_71 rfl (sxR3 hb) hmv (by omega) (Nat.le_of_ble_eq_true rfl) ?_
      refine gq_if_eq (tgt := 79) hX dX3_isPossible_72 rfl rfl (fun c72 => ?_) (fun c72 => ?_)
      · refine gq_iconst (v := nI 0) hX dX3_isPossible_79 rfl (by decide) ?_
        refine gq_zret hX hQ dX3_isPossible_80 rfl (by decide) ⟨congrArg (fun z => some (Value.int z)) ?_, rfl⟩
        unfold posI
        rw [hmv] at *
        simp [h8, *]
      · refine gq_iconst (v := nI 1) hX dX3_isPossible_75 rfl (by decide) ?_
        refine gq_goto (tgt := 80) hX dX3_isPossible_76 rfl ?_
        refine gq_zret hX hQ dX3_isPossible_80 rfl (by decide) ⟨congrArg (fun z => some (Value.int z)) ?_, rfl⟩
        unfold posI
        rw [hmv] at *
        simp [h8, *]
  · refine gq_aload_n hX dX3_isPossible_0 rfl rfl rfl ?_
    refine gq_getf hX dX3_isPossible_1 rfl fX3_38 (sxR0 hb) rfl ?_
    refine gq_getf hX dX3_isPossible_4 rfl fX3_90 (sxR6 hb) rfl ?_
    refine gq_iload_n hX dX3_isPossible_7 rfl rfl rfl ?_
    refine gq_ialdN hX dX3_isPossible_8 rfl (sxR9 hb) rfl (by omega) (Nat.le_of_ble_eq_true rfl) ?_
    refine gq_istore_n hX dX3_isPossible_9 rfl rfl (Nat.le_of_ble_eq_true rfl) rfl ?_
    refine gq_aload_n hX dX3_isPossible_10 rfl rfl rfl ?_
    refine gq_getf hX dX3_isPossible_11 rfl fX3_38 (sxR0 hb) rfl ?_
    refine gq_getf hX dX3_isPossible_14 rfl fX3_122 (sxR6 hb) rfl ?_
    refine gq_iload_n hX dX3_isPossible_17 rfl rfl rfl ?_
    refine gq_ialdN hX dX3_isPossible_18 rfl (sxR10 hb) rfl (by omega) (Nat.le_of_ble_eq_true rfl) ?_
    refine gq_istore_n hX dX3_isPossible_19 rfl rfl (Nat.le_of_ble_eq_true rfl) rfl ?_
    refine gq_aload_n hX dX3_isPossible_20 rfl rfl rfl ?_
    refine gq_getf hX dX3_isPossible_21 rfl fX3_38 (sxR0 hb) rfl ?_
    refine gq_getf hX dX3_isPossible_24 rfl fX3_125 (sxR6 hb) rfl ?_
    refine gq_iload_n hX dX3_isPossible_27 rfl rfl rfl ?_
    refine gq_caldN hX dX3_isPossible_28 rfl (sxR8 hb) rfl (by omega) (Nat.le_of_ble_eq_true rfl) ?_
    rw [h8]
    refine gq_lookup (tgt := 81) (off := 52) hX dX3_isPossible_29 (by decide) (by decide +kernel) rfl ?_
    refine gq_aload_n hX dX3_isPossible_81 rfl rfl rfl ?_
    refine gq_getf hX dX3_isPossible_82 rfl fX3_32 (sxR0 hb) rfl ?_
    refine gq_iload_n hX dX3_isPossible_85 rfl rfl rfl ?_
    refine gq_ialdN hX dX3_isPossible_86 rfl (sxR5 hb) ho (by omega) (Nat.le_of_ble_eq_true rfl) ?_
    refine gq_iload_n hX dX3_isPossible_87 rfl rfl rfl ?_
    refine gq_icmp_ne (tgt := 95) hX dX3_isPossible_88 rfl rfl (fun c88 => ?_) (fun c88 => ?_)
    · refine gq_iconst (v := nI 0) hX dX3_isPossible_95 rfl (by decide) ?_
      refine gq_zret hX hQ dX3_isPossible_96 rfl (by decide) ⟨congrArg (fun z => some (Value.int z)) ?_, rfl⟩
      unfold posI
      rw [hmv] at *
      simp [h8, k114, *]
    · refine gq_iconst (v := nI 1) hX dX3_isPossible_91 rfl (by decide) ?_
      refine gq_goto (tgt := 96) hX dX3_isPossible_92 rfl ?_
      refine gq_zret hX hQ dX3_isPossible_96 rfl (by decide) ⟨congrArg (fun z => some (Value.int z)) ?_, rfl⟩
      unfold posI
      rw [hmv] at *
      simp [h8, k114, *]
  · refine gq_aload_n hX dX3_isPossible_0 rfl rfl rfl ?_
    refine gq_getf hX dX3_isPossible_1 rfl fX3_38 (sxR0 hb) rfl ?_
    refine gq_getf hX dX3_isPossible_4 rfl fX3_90 (sxR6 hb) rfl ?_
    refine gq_iload_n hX dX3_isPossible_7 rfl rfl rfl ?_
    refine gq_ialdN hX dX3_isPossible_8 rfl (sxR9 hb) rfl (by omega) (Nat.le_of_ble_eq_true rfl) ?_
    refine gq_istore_n hX dX3_isPossible_9 rfl rfl (Nat.le_of_ble_eq_true rfl) rfl ?_
    refine gq_aload_n hX dX3_isPossible_10 rfl rfl rfl ?_
    refine gq_getf hX dX3_isPossible_11 rfl fX3_38 (sxR0 hb) rfl ?_
    refine gq_getf hX dX3_isPossible_14 rfl fX3_122 (sxR6 hb) rfl ?_
    refine gq_iload_n hX dX3_isPossible_17 rfl rfl rfl ?_
    refine gq_ialdN hX dX3_isPossible_18 rfl (sxR10 hb) rfl (by omega) (Nat.le_of_ble_eq_true rfl) ?_
    refine gq_istore_n hX dX3_isPossible_19 rfl rfl (Nat.le_of_ble_eq_true rfl) rfl ?_
    refine gq_aload_n hX dX3_isPossible_20 rfl rfl rfl ?_
    refine gq_getf hX dX3_isPossible_21 rfl fX3_38 (sxR0 hb) rfl ?_
    refine gq_getf hX dX3_isPossible_24 rfl fX3_125 (sxR6 hb) rfl ?_
    refine gq_iload_n hX dX3_isPossible_27 rfl rfl rfl ?_
    refine gq_caldN hX dX3_isPossible_28 rfl (sxR8 hb) rfl (by omega) (Nat.le_of_ble_eq_true rfl) ?_
    rw [h8]
    refine gq_lookup (tgt := 97) (off := 68) hX dX3_isPossible_29 (by decide) (by decide +kernel) rfl ?_
    refine gq_aload_n hX dX3_isPossible_97 rfl rfl rfl ?_
    refine gq_getf hX dX3_isPossible_98 rfl fX3_22 (sxR0 hb) rfl ?_
    refine gq_iload_n hX dX3_isPossible_101 rfl rfl rfl ?_
    refine gq_zaldN hX dX3_isPossible_102 rfl (sxR3 hb) ho (by omega) (Nat.le_of_ble_eq_true rfl) ?_
    refine gq_zret hX hQ dX3_isPossible_103 rfl (congrArg Value.int (hn.1 o)) ⟨congrArg (fun z => some (Value.int z)) ?_, rfl⟩
    simp [posI, h8, k103, k103', *]

set_option maxRecDepth 100000 in
set_option maxHeartbeats 4000000 in
theorem ct_takeEffect {E : Ev} {b : Nat → Nat} {S : St} {M : Hp} (hb : Lay E 13 b) {nc nt no : Nat} (hwf : Wf S nc nt no) (hn : Nar S) {k a o : Nat} (hk : k < no) (hmv : S.2 9 k = nI a) (ha : a < nc) (ho : ObjOk S nc nt k o) : Ct E mX3_takeEffect [.ref (b 0), .int (nI k)] (StP E b S M) (eqR (none) (StP E b (effS S nt k a o) M)) 0 0 := by
  refine Ct.of gmX3_takeEffect (ls := [.ref (b 0), .int (nI k), hole]) rfl rfl (Nat.le_of_ble_eq_true rfl) ?_
  intro X hX Q hQ
  have hwf2 := hwf
  obtain ⟨hnc, hncl, hnt, hntl, hno, hnol⟩ := hwf2
  obtain ⟨ho, ⟨h8, hlt⟩ | ⟨h8, hlt⟩ | ⟨h8, hlt⟩⟩ := ho
  · refine gq_aload_n hX dX3_takeEffect_0 rfl rfl rfl ?_
    refine gq_getf hX dX3_takeEffect_1 rfl fX3_38 (sxR0 hb) rfl ?_
    refine gq_getf hX dX3_takeEffect_4 rfl fX3_122 (sxR6 hb) rfl ?_
    refine gq_iload_n hX dX3_takeEffect_7 rfl rfl rfl ?_
    refine gq_ialdN hX dX3_takeEffect_8 rfl (sxR10 hb) rfl (by omega) (Nat.le_of_ble_eq_true rfl) ?_
    refine gq_istore_n hX dX3_takeEffect_9 rfl rfl (Nat.le_of_ble_eq_true rfl) rfl ?_
    refine gq_aload_n hX dX3_takeEffect_10 rfl rfl rfl ?_
    refine gq_getf hX dX3_takeEffect_11 rfl fX3_38 (sxR0 hb) rfl ?_
    refine gq_getf hX dX3_takeEffect_14 rfl fX3_125 (sxR6 hb) rfl ?_
    refine gq_iload_n hX dX3_takeEffect_17 rfl rfl rfl ?_
    refine gq_caldN hX dX3_takeEffect_18 rfl (sxR8 hb) rfl (by omega) (Nat.le_of_ble_eq_true rfl) ?_
    rw [h8]
    refine gq_lookup (tgt := 44) (off := 25) hX dX3_takeEffect_19 (by decide) (by decide +kernel) rfl ?_
    have he : effS S nt k a o = setA S 5 (upd (S.2 5) o (nI a)) := if_pos h8
    rw [he] at hQ
    refine gq_aload_n hX dX3_takeEffect_44 rfl rfl rfl ?_
    refine gq_getf hX dX3_takeEffect_45 rfl fX3_32 (sxR0 hb) rfl ?_
    refine gq_iload_n hX dX3_takeEffect_48 rfl rfl rfl ?_
    refine gq_aload_n hX dX3_takeEffect_49 rfl rfl rfl ?_
    refine gq_getf hX dX3_takeEffect_50 rfl fX3_38 (sxR0 hb) rfl ?_
    refine gq_getf hX dX3_takeEffect_53 rfl fX3_90 (sxR6 hb) rfl ?_
    refine gq_iload_n hX dX3_takeEffect_56 rfl rfl rfl ?_
    refine gq_ialdN hX dX3_takeEffect_57 rfl (sxR9 hb) rfl (by omega) (Nat.le_of_ble_eq_true rfl) ?_
    refine gq_iastN hX dX3_takeEffect_58 rfl (sxR5 hb) ho (by omega) (Nat.le_of_ble_eq_true rfl) (hb.2 5 (by decide)) (sxW5 hb) ?_
    rw [hmv]
    refine gq_goto (tgt := 77) hX dX3_takeEffect_59 rfl ?_
    exact gq_vret hX hQ dX3_takeEffect_77 rfl ⟨rfl, rfl⟩
  · refine gq_aload_n hX dX3_takeEffect_0 rfl rfl rfl ?_
    refine gq_getf hX dX3_takeEffect_1 rfl fX3_38 (sxR0 hb) rfl ?_
    refine gq_getf hX dX3_takeEffect_4 rfl fX3_122 (sxR6 hb) rfl ?_
    refine gq_iload_n hX dX3_takeEffect_7 rfl rfl rfl ?_
    refine gq_ialdN hX dX3_takeEffect_8 rfl (sxR10 hb) rfl (by omega) (Nat.le_of_ble_eq_true rfl) ?_
    refine gq_istore_n hX dX3_takeEffect_9 rfl rfl (Nat.le_of_ble_eq_true rfl) rfl ?_
    refine gq_aload_n hX dX3_takeEffect_10 rfl rfl rfl ?_
    refine gq_getf hX dX3_takeEffect_11 rfl fX3_38 (sxR0 hb) rfl ?_
    refine gq_getf hX dX3_takeEffect_14 rfl fX3_125 (sxR6 hb) rfl ?_
    refine gq_iload_n hX dX3_takeEffect_17 rfl rfl rfl ?_
    refine gq_caldN hX dX3_takeEffect_18 rfl (sxR8 hb) rfl (by omega) (Nat.le_of_ble_eq_true rfl) ?_
    rw [h8]
    refine gq_lookup (tgt := 62) (off := 43) hX dX3_takeEffect_19 (by decide) (by decide +kernel) rfl ?_
    have he : effS S nt k a o = setA S 5 (upd (S.2 5) o (-1)) := (if_neg (by rw [h8]; exact k114)).trans (if_pos h8)
    rw [he] at hQ
    refine gq_aload_n hX dX3_takeEffect_62 rfl rfl rfl ?_
    refine gq_getf hX dX3_takeEffect_63 rfl fX3_32 (sxR0 hb) rfl ?_
    refine gq_iload_n hX dX3_takeEffect_66 rfl rfl rfl ?_
    refine gq_iconst (v := -1) hX dX3_takeEffect_67 rfl (by decide) ?_
    refine gq_iastN hX dX3_takeEffect_68 rfl (sxR5 hb) ho (by omega) (Nat.le_of_ble_eq_true rfl) (hb.2 5 (by decide)) (sxW5 hb) ?_
    refine gq_goto (tgt := 77) hX dX3_takeEffect_69 rfl ?_
    exact gq_vret hX hQ dX3_takeEffect_77 rfl ⟨rfl, rfl⟩
  · refine gq_aload_n hX dX3_takeEffect_0 rfl rfl rfl ?_
    refine gq_getf hX dX3_takeEffect_1 rfl fX3_38 (sxR0 hb) rfl ?_
    refine gq_getf hX dX3_takeEffect_4 rfl fX3_122 (sxR6 hb) rfl ?_
    refine gq_iload_n hX dX3_takeEffect_7 rfl rfl rfl ?_
    refine gq_ialdN hX dX3_takeEffect_8 rfl (sxR10 hb) rfl (by omega) (Nat.le_of_ble_eq_true rfl) ?_
    refine gq_istore_n hX dX3_takeEffect_9 rfl rfl (Nat.le_of_ble_eq_true rfl) rfl ?_
    refine gq_aload_n hX dX3_takeEffect_10 rfl rfl rfl ?_
    refine gq_getf hX dX3_takeEffect_11 rfl fX3_38 (sxR0 hb) rfl ?_
    refine gq_getf hX dX3_takeEffect_14 rfl fX3_125 (sxR6 hb) rfl ?_
    refine gq_iload_n hX dX3_takeEffect_17 rfl rfl rfl ?_
    refine gq_caldN hX dX3_takeEffect_18 rfl (sxR8 hb) rfl (by omega) (Nat.le_of_ble_eq_true rfl) ?_
    rw [h8]
    refine gq_lookup (tgt := 72) (off := 53) hX dX3_takeEffect_19 (by decide) (by decide +kernel) rfl ?_
    have he : effS S nt k a o = groS S nt o := (if_neg (by rw [h8]; exact k103)).trans (if_neg (by rw [h8]; exact k103'))
    rw [he] at hQ
    rw [ho]
    refine gq_aload_n hX dX3_takeEffect_72 rfl rfl rfl ?_
    refine gq_iload_n hX dX3_takeEffect_73 rfl rfl rfl ?_
    refine gq_callVe hX dX3_takeEffect_74 rfl vX3_129 (ct_groundKite hb hwf (by omega)) rfl (sxR0 hb) rfl rfl (Nat.le_of_ble_eq_true rfl) ⟨(Nat.le_of_ble_eq_true rfl), (Nat.le_of_ble_eq_true rfl)⟩ (Nat.zero_add _) (Nat.zero_add _) ?_
    exact gq_vret hX hQ dX3_takeEffect_77 rfl ⟨rfl, rfl⟩

set_option maxRecDepth 100000 in
set_option maxHeartbeats 4000000 in
theorem ct_holdVote {E : Ev} {b : Nat → Nat} {S : St} {M : Hp} (hb : Lay E 13 b) {nc nt no : Nat} (hwf : Wf S nc nt no) (hn : Nar S) {id : Int32} {k a o : Nat} (ho1 : slotO S no id = some k) (hmv : S.2 9 k = nI a) (ha : a < nc) (ho : ObjOk S nc nt k o) : Ct E mX3_holdVote [.ref (b 0), .int id] (StP E b S M) (eqR (some (.int (carI S nc k a o))) (StP E b (votS S nc nt no k a o) M)) 0 0 := by
  refine Ct.of gmX3_holdVote (ls := [.ref (b 0), .int id, hole, hole]) rfl rfl (Nat.le_of_ble_eq_true rfl) ?_
  intro X hX Q hQ
  have hwf2 := hwf
  obtain ⟨hnc, hncl, hnt, hntl, hno, hnol⟩ := hwf2
  have hct := ct_slotOf (M := M) hb hwf id
  rw [ho1] at hct
  obtain ⟨hk, hid⟩ := slotO_lt ho1
  have hm1 : ¬ nI k = -1 := nI_m1 (by omega)
  refine gq_aload_n hX dX3_holdVote_0 rfl rfl rfl ?_
  refine gq_getf hX dX3_holdVote_1 rfl fX3_38 (sxR0 hb) rfl ?_
  refine gq_iload_n hX dX3_holdVote_4 rfl rfl rfl ?_
  refine gq_callVe hX dX3_holdVote_5 rfl vX3_87 (hct) rfl (sxR6 hb) rfl rfl (Nat.le_of_ble_eq_true rfl) ⟨(Nat.le_of_ble_eq_true rfl), (Nat.le_of_ble_eq_true rfl)⟩ (Nat.zero_add _) (Nat.zero_add _) ?_
  refine gq_istore_n hX dX3_holdVote_8 rfl rfl (Nat.le_of_ble_eq_true rfl) rfl ?_
  refine gq_iload_n hX dX3_holdVote_9 rfl rfl rfl ?_
  refine gq_iconst (v := -1) hX dX3_holdVote_10 rfl (by decide) ?_
  refine gq_icmp_neT (tgt := 16) hX dX3_holdVote_11 rfl hm1 ?_
  refine gq_aload_n hX dX3_holdVote_16 rfl rfl rfl ?_
  refine gq_iload_n hX dX3_holdVote_17 rfl rfl rfl ?_
  refine gq_callVe hX dX3_holdVote_18 rfl vX3_110 (ct_sumFor hb hwf hk hmv ha) rfl (sxR0 hb) rfl rfl (Nat.le_of_ble_eq_true rfl) ⟨(Nat.le_of_ble_eq_true rfl), (Nat.le_of_ble_eq_true rfl)⟩ (Nat.zero_add _) (Nat.zero_add _) ?_
  refine gq_aload_n hX dX3_holdVote_21 rfl rfl rfl ?_
  refine gq_iload_n hX dX3_holdVote_22 rfl rfl rfl ?_
  refine gq_callVe hX dX3_holdVote_23 rfl vX3_113 (ct_sumAgainst hb hwf hk hmv ha) rfl (sxR0 hb) rfl rfl (Nat.le_of_ble_eq_true rfl) ⟨(Nat.le_of_ble_eq_true rfl), (Nat.le_of_ble_eq_true rfl)⟩ (Nat.zero_add _) (Nat.zero_add _) ?_
  refine gq_icmp_le (tgt := 41) hX dX3_holdVote_26 rfl rfl (fun c8 => ?_) (fun c8 => ?_)
  · have hc : carI S nc k a o = nI 0 := if_pos c8
    have hv : votS S nc nt no k a o = cloS (setS S 4 (S.1 4 + nI 1)) no k := if_pos hc
    rw [hc, hv] at hQ
    refine gq_iconst (v := nI 0) hX dX3_holdVote_41 rfl (by decide) ?_
    refine gq_istore_n hX dX3_holdVote_42 rfl rfl (Nat.le_of_ble_eq_true rfl) rfl ?_
    refine gq_iload_n hX dX3_holdVote_43 rfl rfl rfl ?_
    refine gq_if_eqT (tgt := 65) hX dX3_holdVote_44 rfl rfl ?_
    refine gq_aload_n hX dX3_holdVote_65 rfl rfl rfl ?_
    refine gq_dup hX dX3_holdVote_66 rfl rfl ?_
    refine gq_getf hX dX3_holdVote_67 rfl fX3_48 (sxR0 hb) rfl ?_
    refine gq_iconst (v := nI 1) hX dX3_holdVote_70 rfl (by decide) ?_
    refine gq_iadd hX dX3_holdVote_71 rfl ?_
    refine gq_putf hX dX3_holdVote_72 rfl fX3_48 rfl rfl rfl (sxR0 hb) (Nat.le_of_ble_eq_true rfl) (hb.2 0 (by decide)) (sxW0_10 hb) ?_
    refine gq_aload_n hX dX3_holdVote_75 rfl rfl rfl ?_
    refine gq_getf hX dX3_holdVote_76 rfl fX3_38 (sxR0 hb) rfl ?_
    refine gq_iload_n hX dX3_holdVote_79 rfl rfl rfl ?_
    refine gq_callVe hX dX3_holdVote_80 rfl vX3_103 (ct_close (S := setS S 4 (S.1 4 + nI 1)) hb (Wf.s (k := 4) hwf (by decide) (by decide) (by decide)) hn hk) rfl (sxR6 hb) rfl rfl (Nat.le_of_ble_eq_true rfl) ⟨(Nat.le_of_ble_eq_true rfl), (Nat.le_of_ble_eq_true rfl)⟩ (Nat.zero_add _) (Nat.zero_add _) ?_
    refine gq_iload_n hX dX3_holdVote_83 rfl rfl rfl ?_
    exact gq_zret hX hQ dX3_holdVote_84 rfl (by decide) ⟨rfl, rfl⟩
  · refine gq_aload_n hX dX3_holdVote_29 rfl rfl rfl ?_
    refine gq_iload_n hX dX3_holdVote_30 rfl rfl rfl ?_
    refine gq_callVe hX dX3_holdVote_31 rfl vX3_116 (ct_isPossible hb hwf hn hk hmv ha ho) rfl (sxR0 hb) rfl rfl (Nat.le_of_ble_eq_true rfl) ⟨(Nat.le_of_ble_eq_true rfl), (Nat.le_of_ble_eq_true rfl)⟩ (Nat.zero_add _) (Nat.zero_add _) ?_
    refine gq_if_eq (tgt := 41) hX dX3_holdVote_34 rfl rfl (fun c9 => ?_) (fun c9 => ?_)
    · have hc : carI S nc k a o = nI 0 := (if_neg c8).trans (if_pos c9)
      have hv : votS S nc nt no k a o = cloS (setS S 4 (S.1 4 + nI 1)) no k := if_pos hc
      rw [hc, hv] at hQ
      refine gq_iconst (v := nI 0) hX dX3_holdVote_41 rfl (by decide) ?_
      refine gq_istore_n hX dX3_holdVote_42 rfl rfl (Nat.le_of_ble_eq_true rfl) rfl ?_
      refine gq_iload_n hX dX3_holdVote_43 rfl rfl rfl ?_
      refine gq_if_eqT (tgt := 65) hX dX3_holdVote_44 rfl rfl ?_
      refine gq_aload_n hX dX3_holdVote_65 rfl rfl rfl ?_
      refine gq_dup hX dX3_holdVote_66 rfl rfl ?_
      refine gq_getf hX dX3_holdVote_67 rfl fX3_48 (sxR0 hb) rfl ?_
      refine gq_iconst (v := nI 1) hX dX3_holdVote_70 rfl (by decide) ?_
      refine gq_iadd hX dX3_holdVote_71 rfl ?_
      refine gq_putf hX dX3_holdVote_72 rfl fX3_48 rfl rfl rfl (sxR0 hb) (Nat.le_of_ble_eq_true rfl) (hb.2 0 (by decide)) (sxW0_10 hb) ?_
      refine gq_aload_n hX dX3_holdVote_75 rfl rfl rfl ?_
      refine gq_getf hX dX3_holdVote_76 rfl fX3_38 (sxR0 hb) rfl ?_
      refine gq_iload_n hX dX3_holdVote_79 rfl rfl rfl ?_
      refine gq_callVe hX dX3_holdVote_80 rfl vX3_103 (ct_close (S := setS S 4 (S.1 4 + nI 1)) hb (Wf.s (k := 4) hwf (by decide) (by decide) (by decide)) hn hk) rfl (sxR6 hb) rfl rfl (Nat.le_of_ble_eq_true rfl) ⟨(Nat.le_of_ble_eq_true rfl), (Nat.le_of_ble_eq_true rfl)⟩ (Nat.zero_add _) (Nat.zero_add _) ?_
      refine gq_iload_n hX dX3_holdVote_83 rfl rfl rfl ?_
      exact gq_zret hX hQ dX3_holdVote_84 rfl (by decide) ⟨rfl, rfl⟩
    · have hc : carI S nc k a o = nI 1 := (if_neg c8).trans (if_neg c9)
      have hv : votS S nc nt no k a o = cloS (setS (effS S nt k a o) 3 (S.1 3 + nI 1)) no k := if_neg (by rw [hc]; decide)
      rw [hc, hv] at hQ
      refine gq_iconst (v := nI 1) hX dX3_holdVote_37 rfl (by decide) ?_
      refine gq_goto (tgt := 42) hX dX3_holdVote_38 rfl ?_
      refine gq_istore_n hX dX3_holdVote_42 rfl rfl (Nat.le_of_ble_eq_true rfl) rfl ?_
      refine gq_iload_n hX dX3_holdVote_43 rfl rfl rfl ?_
      refine gq_if_eqF (tgt := 65) hX dX3_holdVote_44 rfl rfl (by decide) ?_
      refine gq_aload_n hX dX3_holdVote_47 rfl rfl rfl ?_
      refine gq_iload_n hX dX3_holdVote_48 rfl rfl rfl ?_
      refine gq_callVe hX dX3_holdVote_49 rfl vX3_119 (ct_takeEffect hb hwf hn hk hmv ha ho) rfl (sxR0 hb) rfl rfl (Nat.le_of_ble_eq_true rfl) ⟨(Nat.le_of_ble_eq_true rfl), (Nat.le_of_ble_eq_true rfl)⟩ (Nat.zero_add _) (Nat.zero_add _) ?_
      refine gq_aload_n hX dX3_holdVote_52 rfl rfl rfl ?_
      refine gq_dup hX dX3_holdVote_53 rfl rfl ?_
      refine gq_getf hX dX3_holdVote_54 rfl fX3_45 (sxR0 hb) rfl ?_
      refine gq_iconst (v := nI 1) hX dX3_holdVote_57 rfl (by decide) ?_
      refine gq_iadd hX dX3_holdVote_58 rfl ?_
      rw [effS_s]
      refine gq_putf hX dX3_holdVote_59 rfl fX3_45 rfl rfl rfl (sxR0 hb) (Nat.le_of_ble_eq_true rfl) (hb.2 0 (by decide)) (sxW0_9 hb) ?_
      refine gq_goto (tgt := 75) hX dX3_holdVote_62 rfl ?_
      refine gq_aload_n hX dX3_holdVote_75 rfl rfl rfl ?_
      refine gq_getf hX dX3_holdVote_76 rfl fX3_38 (sxR0 hb) rfl ?_
      refine gq_iload_n hX dX3_holdVote_79 rfl rfl rfl ?_
      refine gq_callVe hX dX3_holdVote_80 rfl vX3_103 (ct_close (S := setS (effS S nt k a o) 3 (S.1 3 + nI 1)) hb (Wf.s (k := 3) (effS_wf hwf) (by decide) (by decide) (by decide)) (effS_nar hn) hk) rfl (sxR6 hb) rfl rfl (Nat.le_of_ble_eq_true rfl) ⟨(Nat.le_of_ble_eq_true rfl), (Nat.le_of_ble_eq_true rfl)⟩ (Nat.zero_add _) (Nat.zero_add _) ?_
      refine gq_iload_n hX dX3_holdVote_83 rfl rfl rfl ?_
      exact gq_zret hX hQ dX3_holdVote_84 rfl (by decide) ⟨rfl, rfl⟩

/-- the active part of T, laid over S -/
def copM (S T : St) (no : Nat) : St := setA (setA (setA (setA (setA (setA (setS (setS S 7 (T.1 7)) 8 (T.1 8)) 7 (itU (T.2 7) (S.2 7) no)) 8 (itU (T.2 8) (S.2 8) no)) 9 (itU (T.2 9) (S.2 9) no)) 10 (itU (T.2 10) (S.2 10) no)) 11 (itU (T.2 11) (S.2 11) no)) 12 (itU (T.2 12) (S.2 12) no)
def copC (S T : St) (n : Nat) : St := setA (setA (setA (setS S 0 (T.1 0)) 1 (itU (T.2 1) (S.2 1) n)) 2 (itU (T.2 2) (S.2 2) n)) 3 (itU (T.2 3) (S.2 3) n)
def copT (S T : St) (n : Nat) : St := setA (setA (setS S 1 (T.1 1)) 4 (itU (T.2 4) (S.2 4) n)) 5 (itU (T.2 5) (S.2 5) n)
def copS (S T : St) (nc nt no : Nat) : St := setS (setS (setS (setS (setS (copM (copT (copC S T nc) T nt) T no) 2 (T.1 2)) 3 (T.1 3)) 4 (T.1 4)) 5 (T.1 5)) 6 (T.1 6)
theorem ext_St {S T : St} (h1 : ∀ k, S.1 k = T.1 k) (h2 : ∀ k, S.2 k = T.2 k) : S = T := Prod.ext (funext h1) (funext h2)

set_option maxRecDepth 100000 in
set_option maxHeartbeats 4000000 in
theorem ct_copySlot {E : Ev} {b b2 : Nat → Nat} {S T : St} {M : Hp} (hb : Lay E 13 b) (hb2 : Lay E 13 b2) (hap : Apart 13 b 13 b2) (hn : Nar T) {x y : Nat} (hx : x < 8) (hy : y < 8) : Ct E mX2_copySlot [.ref (b 6), .ref (b2 6), .int (nI x), .int (nI y)] (StP E b S (StP E b2 T M)) (eqR (none) (StP E b (cpS S T x y) (StP E b2 T M))) 0 0 := by
  refine Ct.of gmX2_copySlot (ls := [.ref (b 6), .ref (b2 6), .int (nI x), .int (nI y)]) rfl rfl (Nat.le_of_ble_eq_true rfl) ?_
  intro X hX Q hQ
  refine gq_aload_n hX dX2_copySlot_0 rfl rfl rfl ?_
  refine gq_getf hX dX2_copySlot_1 rfl fX2_18 (sxR6 hb) rfl ?_
  refine gq_iload_n hX dX2_copySlot_4 rfl rfl rfl ?_
  refine gq_aload_n hX dX2_copySlot_5 rfl rfl rfl ?_
  refine gq_getf hX dX2_copySlot_6 rfl fX2_18 (off2 (fun k hk => hap k 6 hk (by decide)) (sxR6 hb2)) rfl ?_
  refine gq_iload_n hX dX2_copySlot_9 rfl rfl rfl ?_
  refine gq_ialdN hX dX2_copySlot_10 rfl (off2 (fun k hk => hap k 7 hk (by decide)) (sxR7 hb2)) rfl (by omega) (Nat.le_of_ble_eq_true rfl) ?_
  refine gq_iastN hX dX2_copySlot_11 rfl (sxR7 hb) rfl (by omega) (Nat.le_of_ble_eq_true rfl) (hb.2 7 (by decide)) (sxW7 hb) ?_
  refine gq_aload_n hX dX2_copySlot_12 rfl rfl rfl ?_
  refine gq_getf hX dX2_copySlot_13 rfl fX2_22 (sxR6 hb) rfl ?_
  refine gq_iload_n hX dX2_copySlot_16 rfl rfl rfl ?_
  refine gq_aload_n hX dX2_copySlot_17 rfl rfl rfl ?_
  refine gq_getf hX dX2_copySlot_18 rfl fX2_22 (off2 (fun k hk => hap k 6 hk (by decide)) (sxR6 hb2)) rfl ?_
  refine gq_iload_n hX dX2_copySlot_21 rfl rfl rfl ?_
  refine gq_caldN hX dX2_copySlot_22 rfl (off2 (fun k hk => hap k 8 hk (by decide)) (sxR8 hb2)) rfl (by omega) (Nat.le_of_ble_eq_true rfl) ?_
  refine gq_castN hX dX2_copySlot_23 rfl (sxR8 hb) rfl (by omega) (Nat.le_of_ble_eq_true rfl) (hb.2 8 (by decide)) (sxW8 hb) ?_
  rw [hn.2.1 x]
  refine gq_aload_n hX dX2_copySlot_24 rfl rfl rfl ?_
  refine gq_getf hX dX2_copySlot_25 rfl fX2_26 (sxR6 hb) rfl ?_
  refine gq_iload_n hX dX2_copySlot_28 rfl rfl rfl ?_
  refine gq_aload_n hX dX2_copySlot_29 rfl rfl rfl ?_
  refine gq_getf hX dX2_copySlot_30 rfl fX2_26 (off2 (fun k hk => hap k 6 hk (by decide)) (sxR6 hb2)) rfl ?_
  refine gq_iload_n hX dX2_copySlot_33 rfl rfl rfl ?_
  refine gq_ialdN hX dX2_copySlot_34 rfl (off2 (fun k hk => hap k 9 hk (by decide)) (sxR9 hb2)) rfl (by omega) (Nat.le_of_ble_eq_true rfl) ?_
  refine gq_iastN hX dX2_copySlot_35 rfl (sxR9 hb) rfl (by omega) (Nat.le_of_ble_eq_true rfl) (hb.2 9 (by decide)) (sxW9 hb) ?_
  refine gq_aload_n hX dX2_copySlot_36 rfl rfl rfl ?_
  refine gq_getf hX dX2_copySlot_37 rfl fX2_29 (sxR6 hb) rfl ?_
  refine gq_iload_n hX dX2_copySlot_40 rfl rfl rfl ?_
  refine gq_aload_n hX dX2_copySlot_41 rfl rfl rfl ?_
  refine gq_getf hX dX2_copySlot_42 rfl fX2_29 (off2 (fun k hk => hap k 6 hk (by decide)) (sxR6 hb2)) rfl ?_
  refine gq_iload_n hX dX2_copySlot_45 rfl rfl rfl ?_
  refine gq_ialdN hX dX2_copySlot_46 rfl (off2 (fun k hk => hap k 10 hk (by decide)) (sxR10 hb2)) rfl (by omega) (Nat.le_of_ble_eq_true rfl) ?_
  refine gq_iastN hX dX2_copySlot_47 rfl (sxR10 hb) rfl (by omega) (Nat.le_of_ble_eq_true rfl) (hb.2 10 (by decide)) (sxW10 hb) ?_
  refine gq_aload_n hX dX2_copySlot_48 rfl rfl rfl ?_
  refine gq_getf hX dX2_copySlot_49 rfl fX2_32 (sxR6 hb) rfl ?_
  refine gq_iload_n hX dX2_copySlot_52 rfl rfl rfl ?_
  refine gq_aload_n hX dX2_copySlot_53 rfl rfl rfl ?_
  refine gq_getf hX dX2_copySlot_54 rfl fX2_32 (off2 (fun k hk => hap k 6 hk (by decide)) (sxR6 hb2)) rfl ?_
  refine gq_iload_n hX dX2_copySlot_57 rfl rfl rfl ?_
  refine gq_ialdN hX dX2_copySlot_58 rfl (off2 (fun k hk => hap k 11 hk (by decide)) (sxR11 hb2)) rfl (by omega) (Nat.le_of_ble_eq_true rfl) ?_
  refine gq_iastN hX dX2_copySlot_59 rfl (sxR11 hb) rfl (by omega) (Nat.le_of_ble_eq_true rfl) (hb.2 11 (by decide)) (sxW11 hb) ?_
  refine gq_aload_n hX dX2_copySlot_60 rfl rfl rfl ?_
  refine gq_getf hX dX2_copySlot_61 rfl fX2_35 (sxR6 hb) rfl ?_
  refine gq_iload_n hX dX2_copySlot_64 rfl rfl rfl ?_
  refine gq_aload_n hX dX2_copySlot_65 rfl rfl rfl ?_
  refine gq_getf hX dX2_copySlot_66 rfl fX2_35 (off2 (fun k hk => hap k 6 hk (by decide)) (sxR6 hb2)) rfl ?_
  refine gq_iload_n hX dX2_copySlot_69 rfl rfl rfl ?_
  refine gq_zaldN hX dX2_copySlot_70 rfl (off2 (fun k hk => hap k 12 hk (by decide)) (sxR12 hb2)) rfl (by omega) (Nat.le_of_ble_eq_true rfl) ?_
  refine gq_zastN hX dX2_copySlot_71 rfl (sxR12 hb) rfl (by omega) (Nat.le_of_ble_eq_true rfl) (hb.2 12 (by decide)) (sxW12 hb) ?_
  rw [hn.2.2 x]
  exact gq_vret hX hQ dX2_copySlot_72 rfl ⟨rfl, rfl⟩

set_option maxRecDepth 100000 in
set_option maxHeartbeats 4000000 in
theorem ct_copyM {E : Ev} {b b2 : Nat → Nat} {S T : St} {M : Hp} (hb : Lay E 13 b) (hb2 : Lay E 13 b2) (hap : Apart 13 b 13 b2) {nc nt no : Nat} (hwf : Wf T nc nt no) (hn : Nar T) : Ct E mX2_copyFrom [.ref (b 6), .ref (b2 6)] (StP E b S (StP E b2 T M)) (eqR (none) (StP E b (copM S T no) (StP E b2 T M))) 0 0 := by
  refine Ct.of gmX2_copyFrom (ls := [.ref (b 6), .ref (b2 6), hole]) rfl rfl (Nat.le_of_ble_eq_true rfl) ?_
  intro X hX Q hQ
  have hwf2 := hwf
  obtain ⟨hnc, hncl, hnt, hntl, hno, hnol⟩ := hwf2
  refine gq_aload_n hX dX2_copyFrom_0 rfl rfl rfl ?_
  refine gq_aload_n hX dX2_copyFrom_1 rfl rfl rfl ?_
  refine gq_getf hX dX2_copyFrom_2 rfl fX2_9 (off2 (fun k hk => hap k 6 hk (by decide)) (sxR6 hb2)) rfl ?_
  refine gq_putf hX dX2_copyFrom_5 rfl fX2_9 rfl rfl rfl (sxR6 hb) (Nat.le_of_ble_eq_true rfl) (hb.2 6 (by decide)) (sxW6_0 hb) ?_
  refine gq_aload_n hX dX2_copyFrom_8 rfl rfl rfl ?_
  refine gq_aload_n hX dX2_copyFrom_9 rfl rfl rfl ?_
  refine gq_getf hX dX2_copyFrom_10 rfl fX2_15 (off2 (fun k hk => hap k 6 hk (by decide)) (sxR6 hb2)) rfl ?_
  refine gq_putf hX dX2_copyFrom_13 rfl fX2_15 rfl rfl rfl (sxR6 hb) (Nat.le_of_ble_eq_true rfl) (hb.2 6 (by decide)) (sxW6_1 hb) ?_
  refine gq_iconst (v := nI 0) hX dX2_copyFrom_16 rfl (by decide) ?_
  refine gq_istore_n hX dX2_copyFrom_17 rfl rfl (Nat.le_of_ble_eq_true rfl) rfl ?_
  have h0 : setS (setS S 7 (T.1 7)) 8 (T.1 8) = copM S T 0 := by
    unfold copM
    simp only [itU_0]
    refine ext_St (fun k => rfl) (fun k => ?_)
    show S.2 k = _
    simp only [setA]
    split <;> first | (subst k; rfl) | skip
    split <;> first | (subst k; rfl) | skip
    split <;> first | (subst k; rfl) | skip
    split <;> first | (subst k; rfl) | skip
    split <;> first | (subst k; rfl) | skip
    split <;> first | (subst k; rfl) | skip
    rfl
  have hs : ∀ j, cpS (copM S T j) T j j = copM S T (j + 1) := fun j => by
    refine ext_St (fun k => rfl) (fun k => ?_)
    match k with
    | 7 => exact itU_s
    | 8 => exact itU_s
    | 9 => exact itU_s
    | 10 => exact itU_s
    | 11 => exact itU_s
    | 12 => exact itU_s
    | 0 => rfl
    | 1 => rfl
    | 2 => rfl
    | 3 => rfl
    | 4 => rfl
    | 5 => rfl
    | 6 => rfl
    | _ + 13 => rfl
  have loop : ∀ n j : Nat, j + n = no → Gq E X mX2_copyFrom Q 18 [.ref (b 6), .ref (b2 6), .int (nI j)] [] (StP E b (copM S T j) (StP E b2 T M)) 0 0 := by
    intro n
    induction n with
    | zero =>
      intro j hj
      refine gq_iload_n hX dX2_copyFrom_18 rfl rfl rfl ?_
      refine gq_aload_n hX dX2_copyFrom_19 rfl rfl rfl ?_
      refine gq_getf hX dX2_copyFrom_20 rfl fX2_9 (sxR6 hb) rfl ?_
      refine gq_icmp_geT (tgt := 39) hX dX2_copyFrom_23 rfl (cT hno (by omega) (by omega)) ?_
      have ej : no = j := by omega
      subst ej
      exact gq_vret hX hQ dX2_copyFrom_39 rfl ⟨rfl, rfl⟩
    | succ n ih =>
      intro j hj
      refine gq_iload_n hX dX2_copyFrom_18 rfl rfl rfl ?_
      refine gq_aload_n hX dX2_copyFrom_19 rfl rfl rfl ?_
      refine gq_getf hX dX2_copyFrom_20 rfl fX2_9 (sxR6 hb) rfl ?_
      refine gq_icmp_geF (tgt := 39) hX dX2_copyFrom_23 rfl rfl (cF hno (by omega) (by omega)) ?_
      refine gq_aload_n hX dX2_copyFrom_26 rfl rfl rfl ?_
      refine gq_aload_n hX dX2_copyFrom_27 rfl rfl rfl ?_
      refine gq_iload_n hX dX2_copyFrom_28 rfl rfl rfl ?_
      refine gq_iload_n hX dX2_copyFrom_29 rfl rfl rfl ?_
      refine gq_callVe hX dX2_copyFrom_30 rfl vX2_39 (ct_copySlot (M := M) (x := j) (y := j) hb hb2 hap hn (by omega) (by omega)) rfl (sxR6 hb) rfl rfl (Nat.le_of_ble_eq_true rfl) ⟨(Nat.le_of_ble_eq_true rfl), (Nat.le_of_ble_eq_true rfl)⟩ (Nat.zero_add _) (Nat.zero_add _) ?_
      refine gq_iinc hX dX2_copyFrom_33 rfl rfl (inc1 _) (Nat.le_of_ble_eq_true rfl) rfl ?_
      refine gq_goto (tgt := 18) hX dX2_copyFrom_36 rfl ?_
      exact gq_ls rfl rfl (by rw [hs]) (ih (j + 1) (by omega))
  exact gq_ls rfl rfl (by rw [h0]) (loop no 0 (by omega))

set_option maxRecDepth 100000 in
set_option maxHeartbeats 4000000 in
theorem ct_copyS {E : Ev} {b b2 : Nat → Nat} {S T : St} {M : Hp} (hb : Lay E 13 b) (hb2 : Lay E 13 b2) (hap : Apart 13 b 13 b2) {nc nt no : Nat} (hwf : Wf T nc nt no) (hn : Nar T) : Ct E mX3_copyFrom [.ref (b 0), .ref (b2 0)] (StP E b S (StP E b2 T M)) (eqR (none) (StP E b (copS S T nc nt no) (StP E b2 T M))) 0 0 := by
  refine Ct.of gmX3_copyFrom (ls := [.ref (b 0), .ref (b2 0), hole]) rfl rfl (Nat.le_of_ble_eq_true rfl) ?_
  intro X hX Q hQ
  have hwf2 := hwf
  obtain ⟨hnc, hncl, hnt, hntl, hno, hnol⟩ := hwf2
  refine gq_aload_n hX dX3_copyFrom_0 rfl rfl rfl ?_
  refine gq_aload_n hX dX3_copyFrom_1 rfl rfl rfl ?_
  refine gq_getf hX dX3_copyFrom_2 rfl fX3_9 (off2 (fun k hk => hap k 0 hk (by decide)) (sxR0 hb2)) rfl ?_
  refine gq_putf hX dX3_copyFrom_5 rfl fX3_9 rfl rfl rfl (sxR0 hb) (Nat.le_of_ble_eq_true rfl) (hb.2 0 (by decide)) (sxW0_0 hb) ?_
  refine gq_iconst (v := nI 0) hX dX3_copyFrom_8 rfl (by decide) ?_
  refine gq_istore_n hX dX3_copyFrom_9 rfl rfl (Nat.le_of_ble_eq_true rfl) rfl ?_
  have h0 : setS S 0 (T.1 0) = copC S T 0 := by
    refine ext_St (fun k => rfl) (fun k => ?_)
    match k with
    | 0 => rfl
    | 1 => exact (itU_0 (f := T.2 1) (g := S.2 1)).symm
    | 2 => exact (itU_0 (f := T.2 2) (g := S.2 2)).symm
    | 3 => exact (itU_0 (f := T.2 3) (g := S.2 3)).symm
    | 4 => rfl
    | 5 => rfl
    | 6 => rfl
    | 7 => rfl
    | 8 => rfl
    | 9 => rfl
    | 10 => rfl
    | 11 => rfl
    | 12 => rfl
    | _ + 13 => rfl
  have hs : ∀ j, setA (setA (setA (copC S T j) 1 (upd ((copC S T j).2 1) j (T.2 1 j))) 2 (upd ((copC S T j).2 2) j (T.2 2 j))) 3 (upd ((copC S T j).2 3) j (T.2 3 j)) = copC S T (j + 1) := fun j => by
    refine ext_St (fun k => rfl) (fun k => ?_)
    match k with
    | 0 => rfl
    | 1 => exact itU_s
    | 2 => exact itU_s
    | 3 => exact itU_s
    | 4 => rfl
    | 5 => rfl
    | 6 => rfl
    | 7 => rfl
    | 8 => rfl
    | 9 => rfl
    | 10 => rfl
    | 11 => rfl
    | 12 => rfl
    | _ + 13 => rfl
  have g0 : setS (copC S T nc) 1 (T.1 1) = copT (copC S T nc) T 0 := by
    refine ext_St (fun k => rfl) (fun k => ?_)
    match k with
    | 0 => rfl
    | 1 => rfl
    | 2 => rfl
    | 3 => rfl
    | 4 => exact (itU_0 (f := T.2 4) (g := S.2 4)).symm
    | 5 => exact (itU_0 (f := T.2 5) (g := S.2 5)).symm
    | 6 => rfl
    | 7 => rfl
    | 8 => rfl
    | 9 => rfl
    | 10 => rfl
    | 11 => rfl
    | 12 => rfl
    | _ + 13 => rfl
  have gs : ∀ j, setA (setA (copT (copC S T nc) T j) 4 (upd ((copT (copC S T nc) T j).2 4) j (T.2 4 j))) 5 (upd ((copT (copC S T nc) T j).2 5) j (T.2 5 j)) = copT (copC S T nc) T (j + 1) := fun j => by
    refine ext_St (fun k => rfl) (fun k => ?_)
    match k with
    | 0 => rfl
    | 1 => rfl
    | 2 => rfl
    | 3 => rfl
    | 4 => exact itU_s
    | 5 => exact itU_s
    | 6 => rfl
    | 7 => rfl
    | 8 => rfl
    | 9 => rfl
    | 10 => rfl
    | 11 => rfl
    | 12 => rfl
    | _ + 13 => rfl
  have loop : ∀ n j : Nat, j + n = nc → Gq E X mX3_copyFrom Q 10 [.ref (b 0), .ref (b2 0), .int (nI j)] [] (StP E b (copC S T j) (StP E b2 T M)) 0 0 := by
    intro n
    induction n with
    | zero =>
      intro j hj
      refine gq_iload_n hX dX3_copyFrom_10 rfl rfl rfl ?_
      refine gq_aload_n hX dX3_copyFrom_11 rfl rfl rfl ?_
      refine gq_getf hX dX3_copyFrom_12 rfl fX3_9 (sxR0 hb) rfl ?_
      refine gq_icmp_geT (tgt := 60) hX dX3_copyFrom_15 rfl (cT hnc (by omega) (by omega)) ?_
      have ej : nc = j := by omega
      subst ej
      refine gq_aload_n hX dX3_copyFrom_60 rfl rfl rfl ?_
      refine gq_aload_n hX dX3_copyFrom_61 rfl rfl rfl ?_
      refine gq_getf hX dX3_copyFrom_62 rfl fX3_26 (off2 (fun k hk => hap k 0 hk (by decide)) (sxR0 hb2)) rfl ?_
      refine gq_putf hX dX3_copyFrom_65 rfl fX3_26 rfl rfl rfl (sxR0 hb) (Nat.le_of_ble_eq_true rfl) (hb.2 0 (by decide)) (sxW0_4 hb) ?_
      refine gq_iconst (v := nI 0) hX dX3_copyFrom_68 rfl (by decide) ?_
      refine gq_istore_n hX dX3_copyFrom_69 rfl rfl (Nat.le_of_ble_eq_true rfl) rfl ?_
      have loop2 : ∀ n2 j : Nat, j + n2 = nt → Gq E X mX3_copyFrom Q 70 [.ref (b 0), .ref (b2 0), .int (nI j)] [] (StP E b (copT (copC S T nc) T j) (StP E b2 T M)) 0 0 := by
        intro n2
        induction n2 with
        | zero =>
          intro j hj2
          refine gq_iload_n hX dX3_copyFrom_70 rfl rfl rfl ?_
          refine gq_aload_n hX dX3_copyFrom_71 rfl rfl rfl ?_
          refine gq_getf hX dX3_copyFrom_72 rfl fX3_26 (sxR0 hb) rfl ?_
          refine gq_icmp_geT (tgt := 108) hX dX3_copyFrom_75 rfl (cT hnt (by omega) (by omega)) ?_
          have ej : nt = j := by omega
          subst ej
          refine gq_aload_n hX dX3_copyFrom_108 rfl rfl rfl ?_
          refine gq_getf hX dX3_copyFrom_109 rfl fX3_38 (sxR0 hb) rfl ?_
          refine gq_aload_n hX dX3_copyFrom_112 rfl rfl rfl ?_
          refine gq_getf hX dX3_copyFrom_113 rfl fX3_38 (off2 (fun k hk => hap k 0 hk (by decide)) (sxR0 hb2)) rfl ?_
          refine gq_callVe hX dX3_copyFrom_116 rfl vX3_57 (ct_copyM (M := M) hb hb2 hap hwf hn) rfl (sxR6 hb) rfl rfl (Nat.le_of_ble_eq_true rfl) ⟨(Nat.le_of_ble_eq_true rfl), (Nat.le_of_ble_eq_true rfl)⟩ (Nat.zero_add _) (Nat.zero_add _) ?_
          refine gq_aload_n hX dX3_copyFrom_119 rfl rfl rfl ?_
          refine gq_aload_n hX dX3_copyFrom_120 rfl rfl rfl ?_
          refine gq_getf hX dX3_copyFrom_121 rfl fX3_42 (off2 (fun k hk => hap k 0 hk (by decide)) (sxR0 hb2)) rfl ?_
          refine gq_putf hX dX3_copyFrom_124 rfl fX3_42 rfl rfl rfl (sxR0 hb) (Nat.le_of_ble_eq_true rfl) (hb.2 0 (by decide)) (sxW0_8 hb) ?_
          refine gq_aload_n hX dX3_copyFrom_127 rfl rfl rfl ?_
          refine gq_aload_n hX dX3_copyFrom_128 rfl rfl rfl ?_
          refine gq_getf hX dX3_copyFrom_129 rfl fX3_45 (off2 (fun k hk => hap k 0 hk (by decide)) (sxR0 hb2)) rfl ?_
          refine gq_putf hX dX3_copyFrom_132 rfl fX3_45 rfl rfl rfl (sxR0 hb) (Nat.le_of_ble_eq_true rfl) (hb.2 0 (by decide)) (sxW0_9 hb) ?_
          refine gq_aload_n hX dX3_copyFrom_135 rfl rfl rfl ?_
          refine gq_aload_n hX dX3_copyFrom_136 rfl rfl rfl ?_
          refine gq_getf hX dX3_copyFrom_137 rfl fX3_48 (off2 (fun k hk => hap k 0 hk (by decide)) (sxR0 hb2)) rfl ?_
          refine gq_putf hX dX3_copyFrom_140 rfl fX3_48 rfl rfl rfl (sxR0 hb) (Nat.le_of_ble_eq_true rfl) (hb.2 0 (by decide)) (sxW0_10 hb) ?_
          refine gq_aload_n hX dX3_copyFrom_143 rfl rfl rfl ?_
          refine gq_aload_n hX dX3_copyFrom_144 rfl rfl rfl ?_
          refine gq_getf hX dX3_copyFrom_145 rfl fX3_51 (off2 (fun k hk => hap k 0 hk (by decide)) (sxR0 hb2)) rfl ?_
          refine gq_putf hX dX3_copyFrom_148 rfl fX3_51 rfl rfl rfl (sxR0 hb) (Nat.le_of_ble_eq_true rfl) (hb.2 0 (by decide)) (sxW0_11 hb) ?_
          refine gq_aload_n hX dX3_copyFrom_151 rfl rfl rfl ?_
          refine gq_aload_n hX dX3_copyFrom_152 rfl rfl rfl ?_
          refine gq_getf hX dX3_copyFrom_153 rfl fX3_54 (off2 (fun k hk => hap k 0 hk (by decide)) (sxR0 hb2)) rfl ?_
          refine gq_putf hX dX3_copyFrom_156 rfl fX3_54 rfl rfl rfl (sxR0 hb) (Nat.le_of_ble_eq_true rfl) (hb.2 0 (by decide)) (sxW0_12 hb) ?_
          exact gq_vret hX hQ dX3_copyFrom_159 rfl ⟨rfl, rfl⟩
        | succ n2 ih2 =>
          intro j hj2
          refine gq_iload_n hX dX3_copyFrom_70 rfl rfl rfl ?_
          refine gq_aload_n hX dX3_copyFrom_71 rfl rfl rfl ?_
          refine gq_getf hX dX3_copyFrom_72 rfl fX3_26 (sxR0 hb) rfl ?_
          refine gq_icmp_geF (tgt := 108) hX dX3_copyFrom_75 rfl rfl (cF hnt (by omega) (by omega)) ?_
          refine gq_aload_n hX dX3_copyFrom_78 rfl rfl rfl ?_
          refine gq_getf hX dX3_copyFrom_79 rfl fX3_29 (sxR0 hb) rfl ?_
          refine gq_iload_n hX dX3_copyFrom_82 rfl rfl rfl ?_
          refine gq_aload_n hX dX3_copyFrom_83 rfl rfl rfl ?_
          refine gq_getf hX dX3_copyFrom_84 rfl fX3_29 (off2 (fun k hk => hap k 0 hk (by decide)) (sxR0 hb2)) rfl ?_
          refine gq_iload_n hX dX3_copyFrom_87 rfl rfl rfl ?_
          refine gq_ialdN hX dX3_copyFrom_88 rfl (off2 (fun k hk => hap k 4 hk (by decide)) (sxR4 hb2)) rfl (by omega) (Nat.le_of_ble_eq_true rfl) ?_
          refine gq_iastN hX dX3_copyFrom_89 rfl (sxR4 hb) rfl (by omega) (Nat.le_of_ble_eq_true rfl) (hb.2 4 (by decide)) (sxW4 hb) ?_
          refine gq_aload_n hX dX3_copyFrom_90 rfl rfl rfl ?_
          refine gq_getf hX dX3_copyFrom_91 rfl fX3_32 (sxR0 hb) rfl ?_
          refine gq_iload_n hX dX3_copyFrom_94 rfl rfl rfl ?_
          refine gq_aload_n hX dX3_copyFrom_95 rfl rfl rfl ?_
          refine gq_getf hX dX3_copyFrom_96 rfl fX3_32 (off2 (fun k hk => hap k 0 hk (by decide)) (sxR0 hb2)) rfl ?_
          refine gq_iload_n hX dX3_copyFrom_99 rfl rfl rfl ?_
          refine gq_ialdN hX dX3_copyFrom_100 rfl (off2 (fun k hk => hap k 5 hk (by decide)) (sxR5 hb2)) rfl (by omega) (Nat.le_of_ble_eq_true rfl) ?_
          refine gq_iastN hX dX3_copyFrom_101 rfl (sxR5 hb) rfl (by omega) (Nat.le_of_ble_eq_true rfl) (hb.2 5 (by decide)) (sxW5 hb) ?_
          refine gq_iinc hX dX3_copyFrom_102 rfl rfl (inc1 _) (Nat.le_of_ble_eq_true rfl) rfl ?_
          refine gq_goto (tgt := 70) hX dX3_copyFrom_105 rfl ?_
          exact gq_ls rfl rfl (by rw [← gs]; rfl) (ih2 (j + 1) (by omega))
      exact gq_ls rfl rfl (by rw [g0]) (loop2 nt 0 (by omega))
    | succ n ih =>
      intro j hj
      refine gq_iload_n hX dX3_copyFrom_10 rfl rfl rfl ?_
      refine gq_aload_n hX dX3_copyFrom_11 rfl rfl rfl ?_
      refine gq_getf hX dX3_copyFrom_12 rfl fX3_9 (sxR0 hb) rfl ?_
      refine gq_icmp_geF (tgt := 60) hX dX3_copyFrom_15 rfl rfl (cF hnc (by omega) (by omega)) ?_
      refine gq_aload_n hX dX3_copyFrom_18 rfl rfl rfl ?_
      refine gq_getf hX dX3_copyFrom_19 rfl fX3_15 (sxR0 hb) rfl ?_
      refine gq_iload_n hX dX3_copyFrom_22 rfl rfl rfl ?_
      refine gq_aload_n hX dX3_copyFrom_23 rfl rfl rfl ?_
      refine gq_getf hX dX3_copyFrom_24 rfl fX3_15 (off2 (fun k hk => hap k 0 hk (by decide)) (sxR0 hb2)) rfl ?_
      refine gq_iload_n hX dX3_copyFrom_27 rfl rfl rfl ?_
      refine gq_ialdN hX dX3_copyFrom_28 rfl (off2 (fun k hk => hap k 1 hk (by decide)) (sxR1 hb2)) rfl (by omega) (Nat.le_of_ble_eq_true rfl) ?_
      refine gq_iastN hX dX3_copyFrom_29 rfl (sxR1 hb) rfl (by omega) (Nat.le_of_ble_eq_true rfl) (hb.2 1 (by decide)) (sxW1 hb) ?_
      refine gq_aload_n hX dX3_copyFrom_30 rfl rfl rfl ?_
      refine gq_getf hX dX3_copyFrom_31 rfl fX3_19 (sxR0 hb) rfl ?_
      refine gq_iload_n hX dX3_copyFrom_34 rfl rfl rfl ?_
      refine gq_aload_n hX dX3_copyFrom_35 rfl rfl rfl ?_
      refine gq_getf hX dX3_copyFrom_36 rfl fX3_19 (off2 (fun k hk => hap k 0 hk (by decide)) (sxR0 hb2)) rfl ?_
      refine gq_iload_n hX dX3_copyFrom_39 rfl rfl rfl ?_
      refine gq_ialdN hX dX3_copyFrom_40 rfl (off2 (fun k hk => hap k 2 hk (by decide)) (sxR2 hb2)) rfl (by omega) (Nat.le_of_ble_eq_true rfl) ?_
      refine gq_iastN hX dX3_copyFrom_41 rfl (sxR2 hb) rfl (by omega) (Nat.le_of_ble_eq_true rfl) (hb.2 2 (by decide)) (sxW2 hb) ?_
      refine gq_aload_n hX dX3_copyFrom_42 rfl rfl rfl ?_
      refine gq_getf hX dX3_copyFrom_43 rfl fX3_22 (sxR0 hb) rfl ?_
      refine gq_iload_n hX dX3_copyFrom_46 rfl rfl rfl ?_
      refine gq_aload_n hX dX3_copyFrom_47 rfl rfl rfl ?_
      refine gq_getf hX dX3_copyFrom_48 rfl fX3_22 (off2 (fun k hk => hap k 0 hk (by decide)) (sxR0 hb2)) rfl ?_
      refine gq_iload_n hX dX3_copyFrom_51 rfl rfl rfl ?_
      refine gq_zaldN hX dX3_copyFrom_52 rfl (off2 (fun k hk => hap k 3 hk (by decide)) (sxR3 hb2)) rfl (by omega) (Nat.le_of_ble_eq_true rfl) ?_
      refine gq_zastN hX dX3_copyFrom_53 rfl (sxR3 hb) rfl (by omega) (Nat.le_of_ble_eq_true rfl) (hb.2 3 (by decide)) (sxW3 hb) ?_
      rw [hn.1 j]
      refine gq_iinc hX dX3_copyFrom_54 rfl rfl (inc1 _) (Nat.le_of_ble_eq_true rfl) rfl ?_
      refine gq_goto (tgt := 10) hX dX3_copyFrom_57 rfl ?_
      exact gq_ls rfl rfl (by rw [← hs]; rfl) (ih (j + 1) (by omega))
  exact gq_ls rfl rfl (by rw [h0]) (loop nc 0 (by omega))

