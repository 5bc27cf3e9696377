/-- the reference's object: its numbers and rows T, but for the state's row w -/
abbrev MdW (E : Ev) (b : Nat → Nat) (T : St) (w : Nat → Int32) (M : Hp) : Hp := MdP E b (setA T 1 w) M
theorem setA_2 {S : St} {k : Nat} {f g : Nat → Int32} : setA (setA S k f) k g = setA S k g := by
  refine Prod.ext rfl ?_
  funext i
  show (if i = k then g else if i = k then f else S.2 i) = if i = k then g else S.2 i
  by_cases e : i = k
  · rw [if_pos e, if_pos e]
  · rw [if_neg e, if_neg e, if_neg e]
theorem setA_c {S : St} {k j : Nat} {f g : Nat → Int32} (h : k ≠ j) : setA (setA S k f) j g = setA (setA S j g) k f := by
  refine Prod.ext rfl ?_
  funext i
  show (if i = j then g else if i = k then f else S.2 i) = if i = k then f else if i = j then g else S.2 i
  by_cases e : i = j
  · subst e
    rw [if_pos rfl, if_neg (Ne.symm h), if_pos rfl]
  · rw [if_neg e, if_neg e]
theorem setA_id {S : St} {k : Nat} : setA S k (S.2 k) = S := by
  refine Prod.ext rfl ?_
  funext i
  show (if i = k then S.2 k else S.2 i) = S.2 i
  split
  · rename_i e
    rw [e]
  · rfl
theorem setS_2 {S : St} {k : Nat} {f g : Int32} : setS (setS S k f) k g = setS S k g := by
  refine Prod.ext ?_ rfl
  funext i
  show (if i = k then g else if i = k then f else S.1 i) = if i = k then g else S.1 i
  by_cases e : i = k
  · rw [if_pos e, if_pos e]
  · rw [if_neg e, if_neg e, if_neg e]
theorem setS_id {S : St} {k : Nat} : setS S k (S.1 k) = S := by
  refine Prod.ext ?_ rfl
  funext i
  show (if i = k then S.1 k else S.1 i) = S.1 i
  split
  · rename_i e
    rw [e]
  · rfl
section
variable {E : Ev} {b : Nat → Nat} {T : St} {w : Nat → Int32} {M : Hp}
theorem mqR0 (hb : Lay E 9 b) : MdW E b T w M (b 0) = some (.inr (9, [.int (T.1 0), .ref (b 1), .ref (b 2), .ref (b 3), .ref (b 4), .ref (b 5), .int (T.1 1), .int (T.1 2), .int (T.1 3), .ref (b 6), .int (T.1 4), .ref (b 7), .int (T.1 5), .int (T.1 6), .int (T.1 7), .int (T.1 8), .int (T.1 9), .ref (b 8), .int (T.1 10), .int (T.1 11)])) := mxR0 hb
theorem mqR1 (hb : Lay E 9 b) : MdW E b T w M (b 1) = some (.inl (E.2.2.2.1 0, 91, .inl w)) := mxR1 hb
theorem mqR2 (hb : Lay E 9 b) : MdW E b T w M (b 2) = some (.inl (E.2.2.2.1 0, 728, .inl (T.2 2))) := mxR2 hb
theorem mqR3 (hb : Lay E 9 b) : MdW E b T w M (b 3) = some (.inl (E.2.2.2.1 0, 91, .inl (T.2 3))) := mxR3 hb
theorem mqR4 (hb : Lay E 9 b) : MdW E b T w M (b 4) = some (.inl (E.2.2.2.1 0, 91, .inl (T.2 4))) := mxR4 hb
theorem mqR5 (hb : Lay E 9 b) : MdW E b T w M (b 5) = some (.inl (E.2.2.2.1 0, 91, .inl (T.2 5))) := mxR5 hb
theorem mqR6 (hb : Lay E 9 b) : MdW E b T w M (b 6) = some (.inl (E.2.2.2.1 1, 60, .inl (T.2 6))) := mxR6 hb
theorem mqR7 (hb : Lay E 9 b) : MdW E b T w M (b 7) = some (.inl (E.2.2.2.1 1, 60, .inl (T.2 7))) := mxR7 hb
theorem mqR8 (hb : Lay E 9 b) : MdW E b T w M (b 8) = some (.inl (E.2.2.2.1 0, 2, .inl (T.2 8))) := mxR8 hb
theorem mqW0_0 (hb : Lay E 9 b) {v : Int32} : hput (MdW E b T w M) (b 0) (.inr (9, List.set [.int (T.1 0), .ref (b 1), .ref (b 2), .ref (b 3), .ref (b 4), .ref (b 5), .int (T.1 1), .int (T.1 2), .int (T.1 3), .ref (b 6), .int (T.1 4), .ref (b 7), .int (T.1 5), .int (T.1 6), .int (T.1 7), .int (T.1 8), .int (T.1 9), .ref (b 8), .int (T.1 10), .int (T.1 11)] 0 (.int v))) = MdW E b (setS T 0 v) w M := mxW0_0 hb
theorem mqW0_6 (hb : Lay E 9 b) {v : Int32} : hput (MdW E b T w M) (b 0) (.inr (9, List.set [.int (T.1 0), .ref (b 1), .ref (b 2), .ref (b 3), .ref (b 4), .ref (b 5), .int (T.1 1), .int (T.1 2), .int (T.1 3), .ref (b 6), .int (T.1 4), .ref (b 7), .int (T.1 5), .int (T.1 6), .int (T.1 7), .int (T.1 8), .int (T.1 9), .ref (b 8), .int (T.1 10), .int (T.1 11)] 6 (.int v))) = MdW E b (setS T 1 v) w M := mxW0_6 hb
theorem mqW0_7 (hb : Lay E 9 b) {v : Int32} : hput (MdW E b T w M) (b 0) (.inr (9, List.set [.int (T.1 0), .ref (b 1), .ref (b 2), .ref (b 3), .ref (b 4), .ref (b 5), .int (T.1 1), .int (T.1 2), .int (T.1 3), .ref (b 6), .int (T.1 4), .ref (b 7), .int (T.1 5), .int (T.1 6), .int (T.1 7), .int (T.1 8), .int (T.1 9), .ref (b 8), .int (T.1 10), .int (T.1 11)] 7 (.int v))) = MdW E b (setS T 2 v) w M := mxW0_7 hb
theorem mqW0_8 (hb : Lay E 9 b) {v : Int32} : hput (MdW E b T w M) (b 0) (.inr (9, List.set [.int (T.1 0), .ref (b 1), .ref (b 2), .ref (b 3), .ref (b 4), .ref (b 5), .int (T.1 1), .int (T.1 2), .int (T.1 3), .ref (b 6), .int (T.1 4), .ref (b 7), .int (T.1 5), .int (T.1 6), .int (T.1 7), .int (T.1 8), .int (T.1 9), .ref (b 8), .int (T.1 10), .int (T.1 11)] 8 (.int v))) = MdW E b (setS T 3 v) w M := mxW0_8 hb
theorem mqW0_10 (hb : Lay E 9 b) {v : Int32} : hput (MdW E b T w M) (b 0) (.inr (9, List.set [.int (T.1 0), .ref (b 1), .ref (b 2), .ref (b 3), .ref (b 4), .ref (b 5), .int (T.1 1), .int (T.1 2), .int (T.1 3), .ref (b 6), .int (T.1 4), .ref (b 7), .int (T.1 5), .int (T.1 6), .int (T.1 7), .int (T.1 8), .int (T.1 9), .ref (b 8), .int (T.1 10), .int (T.1 11)] 10 (.int v))) = MdW E b (setS T 4 v) w M := mxW0_10 hb
theorem mqW0_12 (hb : Lay E 9 b) {v : Int32} : hput (MdW E b T w M) (b 0) (.inr (9, List.set [.int (T.1 0), .ref (b 1), .ref (b 2), .ref (b 3), .ref (b 4), .ref (b 5), .int (T.1 1), .int (T.1 2), .int (T.1 3), .ref (b 6), .int (T.1 4), .ref (b 7), .int (T.1 5), .int (T.1 6), .int (T.1 7), .int (T.1 8), .int (T.1 9), .ref (b 8), .int (T.1 10), .int (T.1 11)] 12 (.int v))) = MdW E b (setS T 5 v) w M := mxW0_12 hb
theorem mqW0_13 (hb : Lay E 9 b) {v : Int32} : hput (MdW E b T w M) (b 0) (.inr (9, List.set [.int (T.1 0), .ref (b 1), .ref (b 2), .ref (b 3), .ref (b 4), .ref (b 5), .int (T.1 1), .int (T.1 2), .int (T.1 3), .ref (b 6), .int (T.1 4), .ref (b 7), .int (T.1 5), .int (T.1 6), .int (T.1 7), .int (T.1 8), .int (T.1 9), .ref (b 8), .int (T.1 10), .int (T.1 11)] 13 (.int v))) = MdW E b (setS T 6 v) w M := mxW0_13 hb
theorem mqW0_14 (hb : Lay E 9 b) {v : Int32} : hput (MdW E b T w M) (b 0) (.inr (9, List.set [.int (T.1 0), .ref (b 1), .ref (b 2), .ref (b 3), .ref (b 4), .ref (b 5), .int (T.1 1), .int (T.1 2), .int (T.1 3), .ref (b 6), .int (T.1 4), .ref (b 7), .int (T.1 5), .int (T.1 6), .int (T.1 7), .int (T.1 8), .int (T.1 9), .ref (b 8), .int (T.1 10), .int (T.1 11)] 14 (.int v))) = MdW E b (setS T 7 v) w M := mxW0_14 hb
theorem mqW0_15 (hb : Lay E 9 b) {v : Int32} : hput (MdW E b T w M) (b 0) (.inr (9, List.set [.int (T.1 0), .ref (b 1), .ref (b 2), .ref (b 3), .ref (b 4), .ref (b 5), .int (T.1 1), .int (T.1 2), .int (T.1 3), .ref (b 6), .int (T.1 4), .ref (b 7), .int (T.1 5), .int (T.1 6), .int (T.1 7), .int (T.1 8), .int (T.1 9), .ref (b 8), .int (T.1 10), .int (T.1 11)] 15 (.int v))) = MdW E b (setS T 8 v) w M := mxW0_15 hb
theorem mqW0_16 (hb : Lay E 9 b) {v : Int32} : hput (MdW E b T w M) (b 0) (.inr (9, List.set [.int (T.1 0), .ref (b 1), .ref (b 2), .ref (b 3), .ref (b 4), .ref (b 5), .int (T.1 1), .int (T.1 2), .int (T.1 3), .ref (b 6), .int (T.1 4), .ref (b 7), .int (T.1 5), .int (T.1 6), .int (T.1 7), .int (T.1 8), .int (T.1 9), .ref (b 8), .int (T.1 10), .int (T.1 11)] 16 (.int v))) = MdW E b (setS T 9 v) w M := mxW0_16 hb
theorem mqW0_18 (hb : Lay E 9 b) {v : Int32} : hput (MdW E b T w M) (b 0) (.inr (9, List.set [.int (T.1 0), .ref (b 1), .ref (b 2), .ref (b 3), .ref (b 4), .ref (b 5), .int (T.1 1), .int (T.1 2), .int (T.1 3), .ref (b 6), .int (T.1 4), .ref (b 7), .int (T.1 5), .int (T.1 6), .int (T.1 7), .int (T.1 8), .int (T.1 9), .ref (b 8), .int (T.1 10), .int (T.1 11)] 18 (.int v))) = MdW E b (setS T 10 v) w M := mxW0_18 hb
theorem mqW0_19 (hb : Lay E 9 b) {v : Int32} : hput (MdW E b T w M) (b 0) (.inr (9, List.set [.int (T.1 0), .ref (b 1), .ref (b 2), .ref (b 3), .ref (b 4), .ref (b 5), .int (T.1 1), .int (T.1 2), .int (T.1 3), .ref (b 6), .int (T.1 4), .ref (b 7), .int (T.1 5), .int (T.1 6), .int (T.1 7), .int (T.1 8), .int (T.1 9), .ref (b 8), .int (T.1 10), .int (T.1 11)] 19 (.int v))) = MdW E b (setS T 11 v) w M := mxW0_19 hb
theorem mqW1 (hb : Lay E 9 b) {f : Nat → Int32} : hput (MdW E b T w M) (b 1) (.inl (E.2.2.2.1 0, 91, .inl f)) = MdW E b T f M := (mxW1 hb).trans (by rw [setA_2])
theorem mqW2 (hb : Lay E 9 b) {f : Nat → Int32} : hput (MdW E b T w M) (b 2) (.inl (E.2.2.2.1 0, 728, .inl f)) = MdW E b (setA T 2 f) w M := (mxW2 hb).trans (by rw [setA_c (by decide)])
theorem mqW3 (hb : Lay E 9 b) {f : Nat → Int32} : hput (MdW E b T w M) (b 3) (.inl (E.2.2.2.1 0, 91, .inl f)) = MdW E b (setA T 3 f) w M := (mxW3 hb).trans (by rw [setA_c (by decide)])
theorem mqW4 (hb : Lay E 9 b) {f : Nat → Int32} : hput (MdW E b T w M) (b 4) (.inl (E.2.2.2.1 0, 91, .inl f)) = MdW E b (setA T 4 f) w M := (mxW4 hb).trans (by rw [setA_c (by decide)])
theorem mqW5 (hb : Lay E 9 b) {f : Nat → Int32} : hput (MdW E b T w M) (b 5) (.inl (E.2.2.2.1 0, 91, .inl f)) = MdW E b (setA T 5 f) w M := (mxW5 hb).trans (by rw [setA_c (by decide)])
theorem mqW6 (hb : Lay E 9 b) {f : Nat → Int32} : hput (MdW E b T w M) (b 6) (.inl (E.2.2.2.1 1, 60, .inl f)) = MdW E b (setA T 6 f) w M := (mxW6 hb).trans (by rw [setA_c (by decide)])
theorem mqW7 (hb : Lay E 9 b) {f : Nat → Int32} : hput (MdW E b T w M) (b 7) (.inl (E.2.2.2.1 1, 60, .inl f)) = MdW E b (setA T 7 f) w M := (mxW7 hb).trans (by rw [setA_c (by decide)])
theorem mqW8 (hb : Lay E 9 b) {f : Nat → Int32} : hput (MdW E b T w M) (b 8) (.inl (E.2.2.2.1 0, 2, .inl f)) = MdW E b (setA T 8 f) w M := (mxW8 hb).trans (by rw [setA_c (by decide)])
end
set_option maxRecDepth 100000 in
set_option maxHeartbeats 4000000 in
theorem mt_fails {E : Ev} {b : Nat → Nat} {T : St} {w : Nat → Int32} {M : Hp} (hb : Lay E 9 b) (v : Int32) : Ct E mX5_fails [.ref (b 0), .int v] (MdW E b T w M) (eqR (some (.int (nI 0))) (MdW E b (setS T 0 v) w M)) 0 0 := by
  refine Ct.of gmX5_fails (ls := [.ref (b 0), .int v]) rfl rfl (Nat.le_of_ble_eq_true rfl) ?_
  intro X hX Q hQ
  refine gq_aload_n hX dX5_fails_0 rfl rfl rfl ?_
  refine gq_iload_n hX dX5_fails_1 rfl rfl rfl ?_
  refine gq_putf hX dX5_fails_2 rfl fX5_42 rfl rfl rfl (mqR0 hb) (Nat.le_of_ble_eq_true rfl) (hb.2 0 (by decide)) (mqW0_0 hb) ?_
  refine gq_iconst (v := nI 0) hX dX5_fails_5 rfl (by decide) ?_
  exact gq_iret hX hQ dX5_fails_6 rfl ⟨rfl, rfl⟩

set_option maxRecDepth 100000 in
set_option maxHeartbeats 4000000 in
theorem mt_thrown {E : Ev} {b : Nat → Nat} {T : St} {w : Nat → Int32} {M : Hp} (hb : Lay E 9 b)  : Ct E mX5_thrown [.ref (b 0)] (MdW E b T w M) (eqR (some (.int (T.1 0))) (MdW E b T w M)) 0 0 := by
  refine Ct.of gmX5_thrown (ls := [.ref (b 0)]) rfl rfl (Nat.le_of_ble_eq_true rfl) ?_
  intro X hX Q hQ
  refine gq_aload_n hX dX5_thrown_0 rfl rfl rfl ?_
  refine gq_getf hX dX5_thrown_1 rfl fX5_42 (mqR0 hb) rfl ?_
  exact gq_iret hX hQ dX5_thrown_4 rfl ⟨rfl, rfl⟩

set_option maxRecDepth 100000 in
set_option maxHeartbeats 4000000 in
theorem mt_btw {E : Ev} {M : Hp} (x lo hi : Int32) : Ct E mX5_isBetween [.int x, .int lo, .int hi] M (eqR (some (.int (btw x lo hi))) M) 0 0 := by
  refine Ct.of gmX5_isBetween (ls := [.int x, .int lo, .int hi]) rfl rfl (Nat.le_of_ble_eq_true rfl) ?_
  intro X hX Q hQ
  refine gq_iload_n hX dX5_isBetween_0 rfl rfl rfl ?_
  refine gq_iload_n hX dX5_isBetween_1 rfl rfl rfl ?_
  refine gq_icmp_gt (tgt := 14) hX dX5_isBetween_2 rfl rfl (fun c2 => ?_) (fun c2 => ?_)
  · refine gq_iconst (v := nI 0) hX dX5_isBetween_14 rfl (by decide) ?_
    exact gq_zret hX hQ dX5_isBetween_15 rfl rfl ⟨congrArg (fun z => some (Value.int z)) (by simp [btw, *]), rfl⟩
  · refine gq_iload_n hX dX5_isBetween_5 rfl rfl rfl ?_
    refine gq_iload_n hX dX5_isBetween_6 rfl rfl rfl ?_
    refine gq_icmp_gt (tgt := 14) hX dX5_isBetween_7 rfl rfl (fun c7 => ?_) (fun c7 => ?_)
    · refine gq_iconst (v := nI 0) hX dX5_isBetween_14 rfl (by decide) ?_
      exact gq_zret hX hQ dX5_isBetween_15 rfl rfl ⟨congrArg (fun z => some (Value.int z)) (by simp [btw, *]), rfl⟩
    · refine gq_iconst (v := nI 1) hX dX5_isBetween_10 rfl (by decide) ?_
      refine gq_goto (tgt := 15) hX dX5_isBetween_11 rfl ?_
      exact gq_zret hX hQ dX5_isBetween_15 rfl rfl ⟨congrArg (fun z => some (Value.int z)) (by simp [btw, *]), rfl⟩

set_option maxRecDepth 100000 in
set_option maxHeartbeats 4000000 in
theorem mt_of {E : Ev} {b : Nat → Nat} {T : St} {w : Nat → Int32} {M : Hp} (hb : Lay E 9 b) {c x : Nat} (hc : c < 6) (hx : x < 3) : Ct E mX5_of [.ref (b 0), .int (nI c), .int (nI x)] (MdW E b T w M) (eqR (some (.int (w (9 + 3 * c + x)))) (MdW E b T w M)) 0 0 := by
  refine Ct.of gmX5_of (ls := [.ref (b 0), .int (nI c), .int (nI x)]) rfl rfl (Nat.le_of_ble_eq_true rfl) ?_
  intro X hX Q hQ
  refine gq_aload_n hX dX5_of_0 rfl rfl rfl ?_
  refine gq_getf hX dX5_of_1 rfl fX5_7 (mqR0 hb) rfl ?_
  refine gq_bipush (v := nI 9) hX dX5_of_4 rfl (by decide) ?_
  refine gq_iconst (v := nI 3) hX dX5_of_6 rfl (by decide) ?_
  refine gq_iload_n hX dX5_of_7 rfl rfl rfl ?_
  refine gq_imul hX dX5_of_8 rfl ?_
  rw [nI_m]
  refine gq_iadd hX dX5_of_9 rfl ?_
  rw [nI_add]
  refine gq_iload_n hX dX5_of_10 rfl rfl rfl ?_
  refine gq_iadd hX dX5_of_11 rfl ?_
  rw [nI_add]
  refine gq_ialdN hX dX5_of_12 rfl (mqR1 hb) rfl (by omega) (Nat.le_of_ble_eq_true rfl) ?_
  exact gq_iret hX hQ dX5_of_13 rfl ⟨rfl, rfl⟩

set_option maxRecDepth 100000 in
set_option maxHeartbeats 4000000 in
theorem mt_tail {E : Ev} {b : Nat → Nat} {T : St} {w : Nat → Int32} {M : Hp} (hb : Lay E 9 b) {c x : Nat} (hc : c < 8) (hx : x < 2) : Ct E mX5_tail [.ref (b 0), .int (nI c), .int (nI x)] (MdW E b T w M) (eqR (some (.int (w (27 + 2 * c + x)))) (MdW E b T w M)) 0 0 := by
  refine Ct.of gmX5_tail (ls := [.ref (b 0), .int (nI c), .int (nI x)]) rfl rfl (Nat.le_of_ble_eq_true rfl) ?_
  intro X hX Q hQ
  refine gq_aload_n hX dX5_tail_0 rfl rfl rfl ?_
  refine gq_getf hX dX5_tail_1 rfl fX5_7 (mqR0 hb) rfl ?_
  refine gq_bipush (v := nI 27) hX dX5_tail_4 rfl (by decide) ?_
  refine gq_iconst (v := nI 2) hX dX5_tail_6 rfl (by decide) ?_
  refine gq_iload_n hX dX5_tail_7 rfl rfl rfl ?_
  refine gq_imul hX dX5_tail_8 rfl ?_
  rw [nI_m]
  refine gq_iadd hX dX5_tail_9 rfl ?_
  rw [nI_add]
  refine gq_iload_n hX dX5_tail_10 rfl rfl rfl ?_
  refine gq_iadd hX dX5_tail_11 rfl ?_
  rw [nI_add]
  refine gq_ialdN hX dX5_tail_12 rfl (mqR1 hb) rfl (by omega) (Nat.le_of_ble_eq_true rfl) ?_
  exact gq_iret hX hQ dX5_tail_13 rfl ⟨rfl, rfl⟩

set_option maxRecDepth 100000 in
set_option maxHeartbeats 4000000 in
theorem mt_motion {E : Ev} {b : Nat → Nat} {T : St} {w : Nat → Int32} {M : Hp} (hb : Lay E 9 b) {c x : Nat} (hc : c < 8) (hx : x < 6) : Ct E mX5_motion [.ref (b 0), .int (nI c), .int (nI x)] (MdW E b T w M) (eqR (some (.int (w (43 + 6 * c + x)))) (MdW E b T w M)) 0 0 := by
  refine Ct.of gmX5_motion (ls := [.ref (b 0), .int (nI c), .int (nI x)]) rfl rfl (Nat.le_of_ble_eq_true rfl) ?_
  intro X hX Q hQ
  refine gq_aload_n hX dX5_motion_0 rfl rfl rfl ?_
  refine gq_getf hX dX5_motion_1 rfl fX5_7 (mqR0 hb) rfl ?_
  refine gq_bipush (v := nI 43) hX dX5_motion_4 rfl (by decide) ?_
  refine gq_bipush (v := nI 6) hX dX5_motion_6 rfl (by decide) ?_
  refine gq_iload_n hX dX5_motion_8 rfl rfl rfl ?_
  refine gq_imul hX dX5_motion_9 rfl ?_
  rw [nI_m]
  refine gq_iadd hX dX5_motion_10 rfl ?_
  rw [nI_add]
  refine gq_iload_n hX dX5_motion_11 rfl rfl rfl ?_
  refine gq_iadd hX dX5_motion_12 rfl ?_
  rw [nI_add]
  refine gq_ialdN hX dX5_motion_13 rfl (mqR1 hb) rfl (by omega) (Nat.le_of_ble_eq_true rfl) ?_
  exact gq_iret hX hQ dX5_motion_14 rfl ⟨rfl, rfl⟩

set_option maxRecDepth 100000 in
set_option maxHeartbeats 4000000 in
theorem mt_puts {E : Ev} {b : Nat → Nat} {T : St} {w : Nat → Int32} {M : Hp} (hb : Lay E 9 b) {c x : Nat} (hc : c < 6) (hx : x < 3) (v : Int32) : Ct E mX5_puts [.ref (b 0), .int (nI c), .int (nI x), .int v] (MdW E b T w M) (eqR (none) (MdW E b T (upd w (9 + 3 * c + x) v) M)) 0 0 := by
  refine Ct.of gmX5_puts (ls := [.ref (b 0), .int (nI c), .int (nI x), .int v]) rfl rfl (Nat.le_of_ble_eq_true rfl) ?_
  intro X hX Q hQ
  refine gq_aload_n hX dX5_puts_0 rfl rfl rfl ?_
  refine gq_getf hX dX5_puts_1 rfl fX5_7 (mqR0 hb) rfl ?_
  refine gq_bipush (v := nI 9) hX dX5_puts_4 rfl (by decide) ?_
  refine gq_iconst (v := nI 3) hX dX5_puts_6 rfl (by decide) ?_
  refine gq_iload_n hX dX5_puts_7 rfl rfl rfl ?_
  refine gq_imul hX dX5_puts_8 rfl ?_
  rw [nI_m]
  refine gq_iadd hX dX5_puts_9 rfl ?_
  rw [nI_add]
  refine gq_iload_n hX dX5_puts_10 rfl rfl rfl ?_
  refine gq_iadd hX dX5_puts_11 rfl ?_
  rw [nI_add]
  refine gq_iload_n hX dX5_puts_12 rfl rfl rfl ?_
  refine gq_iastN hX dX5_puts_13 rfl (mqR1 hb) rfl (by omega) (Nat.le_of_ble_eq_true rfl) (hb.2 1 (by decide)) (mqW1 hb) ?_
  exact gq_vret hX hQ dX5_puts_14 rfl ⟨rfl, rfl⟩

set_option maxRecDepth 100000 in
set_option maxHeartbeats 4000000 in
theorem mt_sets {E : Ev} {b : Nat → Nat} {T : St} {w : Nat → Int32} {M : Hp} (hb : Lay E 9 b) {c x : Nat} (hc : c < 8) (hx : x < 6) (v : Int32) : Ct E mX5_sets [.ref (b 0), .int (nI c), .int (nI x), .int v] (MdW E b T w M) (eqR (none) (MdW E b T (upd w (43 + 6 * c + x) v) M)) 0 0 := by
  refine Ct.of gmX5_sets (ls := [.ref (b 0), .int (nI c), .int (nI x), .int v]) rfl rfl (Nat.le_of_ble_eq_true rfl) ?_
  intro X hX Q hQ
  refine gq_aload_n hX dX5_sets_0 rfl rfl rfl ?_
  refine gq_getf hX dX5_sets_1 rfl fX5_7 (mqR0 hb) rfl ?_
  refine gq_bipush (v := nI 43) hX dX5_sets_4 rfl (by decide) ?_
  refine gq_bipush (v := nI 6) hX dX5_sets_6 rfl (by decide) ?_
  refine gq_iload_n hX dX5_sets_8 rfl rfl rfl ?_
  refine gq_imul hX dX5_sets_9 rfl ?_
  rw [nI_m]
  refine gq_iadd hX dX5_sets_10 rfl ?_
  rw [nI_add]
  refine gq_iload_n hX dX5_sets_11 rfl rfl rfl ?_
  refine gq_iadd hX dX5_sets_12 rfl ?_
  rw [nI_add]
  refine gq_iload_n hX dX5_sets_13 rfl rfl rfl ?_
  refine gq_iastN hX dX5_sets_14 rfl (mqR1 hb) rfl (by omega) (Nat.le_of_ble_eq_true rfl) (hb.2 1 (by decide)) (mqW1 hb) ?_
  exact gq_vret hX hQ dX5_sets_15 rfl ⟨rfl, rfl⟩

set_option maxRecDepth 100000 in
set_option maxHeartbeats 4000000 in
theorem mt_isCom {E : Ev} {b : Nat → Nat} {T : St} {M : Hp} (hb : Lay E 9 b) {S : St} {nc nt no : Nat} (hwf : Wf S nc nt no) (c : Int32) : Ct E mX5_isCommittee [.ref (b 0), .int c] (MdW E b T (wOf S nc nt no) M) (eqR (some (.int (hasI nc c))) (MdW E b T (wOf S nc nt no) M)) 0 0 := by
  refine Ct.of gmX5_isCommittee (ls := [.ref (b 0), .int c]) rfl rfl (Nat.le_of_ble_eq_true rfl) ?_
  intro X hX Q hQ
  have hwf2 := hwf
  obtain ⟨hnc, hncl, hnt, hntl, hno, hnol⟩ := hwf2
  have hw0 : wOf S nc nt no 0 = nI nc := hnc
  have hw1 : wOf S nc nt no 1 = nI nt := hnt
  have hw2 : wOf S nc nt no 2 = nI no := hno
  refine gq_iload_n hX dX5_isCommittee_0 rfl rfl rfl ?_
  refine gq_iconst (v := nI 0) hX dX5_isCommittee_1 rfl (by decide) ?_
  refine gq_aload_n hX dX5_isCommittee_2 rfl rfl rfl ?_
  refine gq_getf hX dX5_isCommittee_3 rfl fX5_7 (mqR0 hb) rfl ?_
  refine gq_iconst (v := nI 0) hX dX5_isCommittee_6 rfl (by decide) ?_
  refine gq_ialdN hX dX5_isCommittee_7 rfl (mqR1 hb) rfl (by omega) (Nat.le_of_ble_eq_true rfl) ?_
  refine gq_iconst (v := nI 1) hX dX5_isCommittee_8 rfl (by decide) ?_
  refine gq_isub hX dX5_isCommittee_9 rfl ?_
  refine gq_callSe hX dX5_isCommittee_10 rfl vX5_57 (mt_btw _ _ _) rfl rfl (Nat.le_of_ble_eq_true rfl) ⟨(Nat.le_of_ble_eq_true rfl), (Nat.le_of_ble_eq_true rfl)⟩ (Nat.zero_add _) (Nat.zero_add _) ?_
  exact gq_zret hX hQ dX5_isCommittee_13 rfl (by rw [hw0, btw_has (by omega)]; rcases hasI_01 (n := nc) (c := c) with h | h <;> rw [h] <;> rfl) ⟨by rw [hw0, btw_has (by omega)], rfl⟩

set_option maxRecDepth 100000 in
set_option maxHeartbeats 4000000 in
theorem mt_isTail {E : Ev} {b : Nat → Nat} {T : St} {M : Hp} (hb : Lay E 9 b) {S : St} {nc nt no : Nat} (hwf : Wf S nc nt no) (c : Int32) : Ct E mX5_isTail [.ref (b 0), .int c] (MdW E b T (wOf S nc nt no) M) (eqR (some (.int (hasI nt c))) (MdW E b T (wOf S nc nt no) M)) 0 0 := by
  refine Ct.of gmX5_isTail (ls := [.ref (b 0), .int c]) rfl rfl (Nat.le_of_ble_eq_true rfl) ?_
  intro X hX Q hQ
  have hwf2 := hwf
  obtain ⟨hnc, hncl, hnt, hntl, hno, hnol⟩ := hwf2
  have hw0 : wOf S nc nt no 0 = nI nc := hnc
  have hw1 : wOf S nc nt no 1 = nI nt := hnt
  have hw2 : wOf S nc nt no 2 = nI no := hno
  refine gq_iload_n hX dX5_isTail_0 rfl rfl rfl ?_
  refine gq_iconst (v := nI 0) hX dX5_isTail_1 rfl (by decide) ?_
  refine gq_aload_n hX dX5_isTail_2 rfl rfl rfl ?_
  refine gq_getf hX dX5_isTail_3 rfl fX5_7 (mqR0 hb) rfl ?_
  refine gq_iconst (v := nI 1) hX dX5_isTail_6 rfl (by decide) ?_
  refine gq_ialdN hX dX5_isTail_7 rfl (mqR1 hb) rfl (by omega) (Nat.le_of_ble_eq_true rfl) ?_
  refine gq_iconst (v := nI 1) hX dX5_isTail_8 rfl (by decide) ?_
  refine gq_isub hX dX5_isTail_9 rfl ?_
  refine gq_callSe hX dX5_isTail_10 rfl vX5_57 (mt_btw _ _ _) rfl rfl (Nat.le_of_ble_eq_true rfl) ⟨(Nat.le_of_ble_eq_true rfl), (Nat.le_of_ble_eq_true rfl)⟩ (Nat.zero_add _) (Nat.zero_add _) ?_
  exact gq_zret hX hQ dX5_isTail_13 rfl (by rw [hw1, btw_has (by omega)]; rcases hasI_01 (n := nt) (c := c) with h | h <;> rw [h] <;> rfl) ⟨by rw [hw1, btw_has (by omega)], rfl⟩

section
variable {S : St} {nc nt no : Nat}
theorem wC0 {c : Nat} (hc6 : nc ≤ 6) (hc : c < nc) : wOf S nc nt no (9 + 3 * c + 0) = S.2 1 c := wR_c hc6 hc (by decide)
theorem wC1 {c : Nat} (hc6 : nc ≤ 6) (hc : c < nc) : wOf S nc nt no (9 + 3 * c + 1) = S.2 2 c := wR_c hc6 hc (by decide)
theorem wC2 {c : Nat} (hc6 : nc ≤ 6) (hc : c < nc) : wOf S nc nt no (9 + 3 * c + 2) = S.2 3 c := wR_c hc6 hc (by decide)
theorem wT0 {t : Nat} (ht8 : nt ≤ 8) (ht : t < nt) : wOf S nc nt no (27 + 2 * t + 0) = S.2 4 t := wR_t ht8 ht (by decide)
theorem wT1 {t : Nat} (ht8 : nt ≤ 8) (ht : t < nt) : wOf S nc nt no (27 + 2 * t + 1) = S.2 5 t + nI 1 := wR_t ht8 ht (by decide)
theorem wM0 {k : Nat} (hk8 : no ≤ 8) (hk : k < no) : wOf S nc nt no (43 + 6 * k + 0) = S.2 7 k := wR_m hk8 hk (by decide)
theorem wM1 {k : Nat} (hk8 : no ≤ 8) (hk : k < no) : wOf S nc nt no (43 + 6 * k + 1) = kdO (S.2 8 k) := wR_m hk8 hk (by decide)
theorem wM2 {k : Nat} (hk8 : no ≤ 8) (hk : k < no) : wOf S nc nt no (43 + 6 * k + 2) = S.2 9 k := wR_m hk8 hk (by decide)
theorem wM3 {k : Nat} (hk8 : no ≤ 8) (hk : k < no) : wOf S nc nt no (43 + 6 * k + 3) = S.2 10 k := wR_m hk8 hk (by decide)
theorem wM4 {k : Nat} (hk8 : no ≤ 8) (hk : k < no) : wOf S nc nt no (43 + 6 * k + 4) = S.2 11 k + nI 1 := wR_m hk8 hk (by decide)
theorem wM5 {k : Nat} (hk8 : no ≤ 8) (hk : k < no) : wOf S nc nt no (43 + 6 * k + 5) = S.2 12 k := wR_m hk8 hk (by decide)
theorem wS0 : wOf S nc nt no 0 = S.1 0 := w_s (by decide)
theorem wS1 : wOf S nc nt no 1 = S.1 1 := w_s (by decide)
theorem wS2 : wOf S nc nt no 2 = S.1 7 := w_s (by decide)
theorem wS3 : wOf S nc nt no 3 = S.1 8 := w_s (by decide)
theorem wS4 : wOf S nc nt no 4 = S.1 2 := w_s (by decide)
theorem wS5 : wOf S nc nt no 5 = S.1 3 := w_s (by decide)
theorem wS6 : wOf S nc nt no 6 = S.1 4 := w_s (by decide)
theorem wS7 : wOf S nc nt no 7 = S.1 5 := w_s (by decide)
theorem wS8 : wOf S nc nt no 8 = S.1 6 := w_s (by decide)
end
set_option maxRecDepth 100000 in
set_option maxHeartbeats 4000000 in
theorem mt_slotOf {E : Ev} {b : Nat → Nat} {T : St} {M : Hp} (hb : Lay E 9 b) {S : St} {nc nt no : Nat} (hwf : Wf S nc nt no) (id : Int32) : Ct E mX5_slotOf [.ref (b 0), .int id] (MdW E b T (wOf S nc nt no) M) (eqR (some (.int (slO (slotO S no id)))) (MdW E b T (wOf S nc nt no) M)) 0 0 := by
  refine Ct.of gmX5_slotOf (ls := [.ref (b 0), .int id, hole]) rfl rfl (Nat.le_of_ble_eq_true rfl) ?_
  intro X hX Q hQ
  have hwf2 := hwf
  obtain ⟨hnc, hncl, hnt, hntl, hno, hnol⟩ := hwf2
  have hw0 : wOf S nc nt no 0 = nI nc := hnc
  have hw1 : wOf S nc nt no 1 = nI nt := hnt
  have hw2 : wOf S nc nt no 2 = nI no := hno
  refine gq_iconst (v := nI 0) hX dX5_slotOf_0 rfl (by decide) ?_
  refine gq_istore_n hX dX5_slotOf_1 rfl rfl (Nat.le_of_ble_eq_true rfl) rfl ?_
  have loop : ∀ n j : Nat, j + n = no →  firstI (fun j => decide (S.2 7 j = id)) n j = slotO S no id → Gq E X mX5_slotOf Q 2 [.ref (b 0), .int id, .int (nI j)] [] (MdW E b T (wOf S nc nt no) M) 0 0 := by
    intro n
    induction n with
    | zero =>
      intro j hj  hf
      refine gq_iload_n hX dX5_slotOf_2 rfl rfl rfl ?_
      refine gq_aload_n hX dX5_slotOf_3 rfl rfl rfl ?_
      refine gq_getf hX dX5_slotOf_4 rfl fX5_7 (mqR0 hb) rfl ?_
      refine gq_iconst (v := nI 2) hX dX5_slotOf_7 rfl (by decide) ?_
      refine gq_ialdN hX dX5_slotOf_8 rfl (mqR1 hb) rfl (by omega) (Nat.le_of_ble_eq_true rfl) ?_
      refine gq_icmp_geT (tgt := 30) hX dX5_slotOf_9 rfl (cT hw2 (by omega) (by omega)) ?_
      have ej : no = j := by omega
      subst ej
      refine gq_iconst (v := -1) hX dX5_slotOf_30 rfl (by decide) ?_
      have hf2 : slotO S no id = none := by rw [← hf]; rfl
      exact gq_iret hX hQ dX5_slotOf_31 rfl ⟨by rw [hf2]; rfl, rfl⟩
    | succ n ih =>
      intro j hj  hf
      refine gq_iload_n hX dX5_slotOf_2 rfl rfl rfl ?_
      refine gq_aload_n hX dX5_slotOf_3 rfl rfl rfl ?_
      refine gq_getf hX dX5_slotOf_4 rfl fX5_7 (mqR0 hb) rfl ?_
      refine gq_iconst (v := nI 2) hX dX5_slotOf_7 rfl (by decide) ?_
      refine gq_ialdN hX dX5_slotOf_8 rfl (mqR1 hb) rfl (by omega) (Nat.le_of_ble_eq_true rfl) ?_
      refine gq_icmp_geF (tgt := 30) hX dX5_slotOf_9 rfl rfl (cF hw2 (by omega) (by omega)) ?_
      refine gq_aload_n hX dX5_slotOf_12 rfl rfl rfl ?_
      refine gq_iload_n hX dX5_slotOf_13 rfl rfl rfl ?_
      refine gq_iconst (v := nI 0) hX dX5_slotOf_14 rfl (by decide) ?_
      refine gq_callVe hX dX5_slotOf_15 rfl vX5_61 (mt_motion hb (c := j) (x := 0) (by omega) (by decide)) rfl (mqR0 hb) rfl rfl (Nat.le_of_ble_eq_true rfl) ⟨(Nat.le_of_ble_eq_true rfl), (Nat.le_of_ble_eq_true rfl)⟩ (Nat.zero_add _) (Nat.zero_add _) ?_
      rw [wM0 hnol (by omega)]
      refine gq_iload_n hX dX5_slotOf_18 rfl rfl rfl ?_
      refine gq_icmp_ne (tgt := 24) hX dX5_slotOf_19 rfl rfl (fun c9 => ?_) (fun c9 => ?_)
      · refine gq_iinc hX dX5_slotOf_24 rfl rfl (inc1 _) (Nat.le_of_ble_eq_true rfl) rfl ?_
        refine gq_goto (tgt := 2) hX dX5_slotOf_27 rfl ?_
        have hf2 : firstI (fun j => decide (S.2 7 j = id)) n (j + 1) = slotO S no id := by
          rw [← hf, firstI, if_neg (by simpa using c9)]
        exact ih (j + 1) (by omega) hf2
      · refine gq_iload_n hX dX5_slotOf_22 rfl rfl rfl ?_
        have hf2 : slotO S no id = some j := by
          rw [← hf, firstI, if_pos (by simpa using c9)]
        exact gq_iret hX hQ dX5_slotOf_23 rfl ⟨by rw [hf2]; rfl, rfl⟩
  exact loop no 0 (by omega) rfl

set_option maxRecDepth 100000 in
set_option maxHeartbeats 4000000 in
theorem mt_flies {E : Ev} {b : Nat → Nat} {T : St} {M : Hp} (hb : Lay E 9 b) {S : St} {nc nt no : Nat} (hwf : Wf S nc nt no) (hn : Nar S) {c : Nat} (hc : c < nc) : Ct E mX5_flies [.ref (b 0), .int (nI c)] (MdW E b T (wOf S nc nt no) M) (eqR (some (.int (S.2 3 c))) (MdW E b T (wOf S nc nt no) M)) 0 0 := by
  refine Ct.of gmX5_flies (ls := [.ref (b 0), .int (nI c)]) rfl rfl (Nat.le_of_ble_eq_true rfl) ?_
  intro X hX Q hQ
  have hwf2 := hwf
  obtain ⟨hnc, hncl, hnt, hntl, hno, hnol⟩ := hwf2
  have hw0 : wOf S nc nt no 0 = nI nc := hnc
  have hw1 : wOf S nc nt no 1 = nI nt := hnt
  have hw2 : wOf S nc nt no 2 = nI no := hno
  refine gq_aload_n hX dX5_flies_0 rfl rfl rfl ?_
  refine gq_iload_n hX dX5_flies_1 rfl rfl rfl ?_
  refine gq_iconst (v := nI 2) hX dX5_flies_2 rfl (by decide) ?_
  refine gq_callVe hX dX5_flies_3 rfl vX5_65 (mt_of hb (c := c) (x := 2) (by omega) (by decide)) rfl (mqR0 hb) rfl rfl (Nat.le_of_ble_eq_true rfl) ⟨(Nat.le_of_ble_eq_true rfl), (Nat.le_of_ble_eq_true rfl)⟩ (Nat.zero_add _) (Nat.zero_add _) ?_
  rw [wC2 hncl hc]
  refine gq_iconst (v := nI 1) hX dX5_flies_6 rfl (by decide) ?_
  refine gq_icmp_ne (tgt := 14) hX dX5_flies_7 rfl rfl (fun c7 => ?_) (fun c7 => ?_)
  · refine gq_iconst (v := nI 0) hX dX5_flies_14 rfl (by decide) ?_
    exact gq_zret hX hQ dX5_flies_15 rfl rfl ⟨congrArg (fun z => some (Value.int z)) (show nI 0 = S.2 3 c from ((bool_01 (hn.1 c)).resolve_right c7).symm), rfl⟩
  · refine gq_iconst (v := nI 1) hX dX5_flies_10 rfl (by decide) ?_
    refine gq_goto (tgt := 15) hX dX5_flies_11 rfl ?_
    exact gq_zret hX hQ dX5_flies_15 rfl rfl ⟨congrArg (fun z => some (Value.int z)) (show nI 1 = S.2 3 c from (c7 : S.2 3 c = nI 1).symm), rfl⟩

set_option maxRecDepth 100000 in
set_option maxHeartbeats 4000000 in
theorem mt_len {E : Ev} {b : Nat → Nat} {T : St} {M : Hp} (hb : Lay E 9 b) {S : St} {nc nt no : Nat} (hwf : Wf S nc nt no) (c : Int32) : Ct E mX5_lengthBehind [.ref (b 0), .int c] (MdW E b T (wOf S nc nt no) M) (eqR (some (.int (lenB S nt c))) (MdW E b T (wOf S nc nt no) M)) 0 0 := by
  refine Ct.of gmX5_lengthBehind (ls := [.ref (b 0), .int c, hole, hole]) rfl rfl (Nat.le_of_ble_eq_true rfl) ?_
  intro X hX Q hQ
  have hwf2 := hwf
  obtain ⟨hnc, hncl, hnt, hntl, hno, hnol⟩ := hwf2
  have hw0 : wOf S nc nt no 0 = nI nc := hnc
  have hw1 : wOf S nc nt no 1 = nI nt := hnt
  have hw2 : wOf S nc nt no 2 = nI no := hno
  refine gq_iconst (v := nI 0) hX dX5_lengthBehind_0 rfl (by decide) ?_
  refine gq_istore_n hX dX5_lengthBehind_1 rfl rfl (Nat.le_of_ble_eq_true rfl) rfl ?_
  refine gq_iconst (v := nI 0) hX dX5_lengthBehind_2 rfl (by decide) ?_
  refine gq_istore_n hX dX5_lengthBehind_3 rfl rfl (Nat.le_of_ble_eq_true rfl) rfl ?_
  have loop : ∀ n j : Nat, j + n = nt → Gq E X mX5_lengthBehind Q 4 [.ref (b 0), .int c, .int (it (fun j s => if S.2 5 j = c then s + S.2 4 j else s) (nI 0) j), .int (nI j)] [] (MdW E b T (wOf S nc nt no) M) 0 0 := by
    intro n
    induction n with
    | zero =>
      intro j hj
      refine gq_iload_n hX dX5_lengthBehind_4 rfl rfl rfl ?_
      refine gq_aload_n hX dX5_lengthBehind_5 rfl rfl rfl ?_
      refine gq_getf hX dX5_lengthBehind_6 rfl fX5_7 (mqR0 hb) rfl ?_
      refine gq_iconst (v := nI 1) hX dX5_lengthBehind_9 rfl (by decide) ?_
      refine gq_ialdN hX dX5_lengthBehind_10 rfl (mqR1 hb) rfl (by omega) (Nat.le_of_ble_eq_true rfl) ?_
      refine gq_icmp_geT (tgt := 45) hX dX5_lengthBehind_11 rfl (cT hw1 (by omega) (by omega)) ?_
      have ej : nt = j := by omega
      subst ej
      refine gq_iload_n hX dX5_lengthBehind_45 rfl rfl rfl ?_
      exact gq_iret hX hQ dX5_lengthBehind_46 rfl ⟨rfl, rfl⟩
    | succ n ih =>
      intro j hj
      refine gq_iload_n hX dX5_lengthBehind_4 rfl rfl rfl ?_
      refine gq_aload_n hX dX5_lengthBehind_5 rfl rfl rfl ?_
      refine gq_getf hX dX5_lengthBehind_6 rfl fX5_7 (mqR0 hb) rfl ?_
      refine gq_iconst (v := nI 1) hX dX5_lengthBehind_9 rfl (by decide) ?_
      refine gq_ialdN hX dX5_lengthBehind_10 rfl (mqR1 hb) rfl (by omega) (Nat.le_of_ble_eq_true rfl) ?_
      refine gq_icmp_geF (tgt := 45) hX dX5_lengthBehind_11 rfl rfl (cF hw1 (by omega) (by omega)) ?_
      refine gq_iload_n hX dX5_lengthBehind_14 rfl rfl rfl ?_
      refine gq_aload_n hX dX5_lengthBehind_15 rfl rfl rfl ?_
      refine gq_iload_n hX dX5_lengthBehind_16 rfl rfl rfl ?_
      refine gq_iconst (v := nI 1) hX dX5_lengthBehind_17 rfl (by decide) ?_
      refine gq_callVe hX dX5_lengthBehind_18 rfl vX5_68 (mt_tail hb (c := j) (x := 1) (by omega) (by decide)) rfl (mqR0 hb) rfl rfl (Nat.le_of_ble_eq_true rfl) ⟨(Nat.le_of_ble_eq_true rfl), (Nat.le_of_ble_eq_true rfl)⟩ (Nat.zero_add _) (Nat.zero_add _) ?_
      rw [wT1 hntl (by omega)]
      refine gq_iload_n hX dX5_lengthBehind_21 rfl rfl rfl ?_
      refine gq_iconst (v := nI 1) hX dX5_lengthBehind_22 rfl (by decide) ?_
      refine gq_iadd hX dX5_lengthBehind_23 rfl ?_
      refine gq_icmp_ne (tgt := 36) hX dX5_lengthBehind_24 rfl rfl (fun c9 => ?_) (fun c9 => ?_)
      · refine gq_iconst (v := nI 0) hX dX5_lengthBehind_36 rfl (by decide) ?_
        refine gq_iadd hX dX5_lengthBehind_37 rfl ?_
        refine gq_istore_n hX dX5_lengthBehind_38 rfl rfl (Nat.le_of_ble_eq_true rfl) rfl ?_
        refine gq_iinc hX dX5_lengthBehind_39 rfl rfl (inc1 _) (Nat.le_of_ble_eq_true rfl) rfl ?_
        refine gq_goto (tgt := 4) hX dX5_lengthBehind_42 rfl ?_
        exact gq_ls (by rw [show it (fun j s => if S.2 5 j = c then s + S.2 4 j else s) (nI 0) (j + 1) = it (fun j s => if S.2 5 j = c then s + S.2 4 j else s) (nI 0) j from if_neg (fun e => c9 (add1_inj.mpr e)), show it (fun j s => if S.2 5 j = c then s + S.2 4 j else s) (nI 0) j + nI 0 = it (fun j s => if S.2 5 j = c then s + S.2 4 j else s) (nI 0) j from Int32.add_zero _]; rfl) rfl rfl (ih (j + 1) (by omega))
      · refine gq_aload_n hX dX5_lengthBehind_27 rfl rfl rfl ?_
        refine gq_iload_n hX dX5_lengthBehind_28 rfl rfl rfl ?_
        refine gq_iconst (v := nI 0) hX dX5_lengthBehind_29 rfl (by decide) ?_
        refine gq_callVe hX dX5_lengthBehind_30 rfl vX5_68 (mt_tail hb (c := j) (x := 0) (by omega) (by decide)) rfl (mqR0 hb) rfl rfl (Nat.le_of_ble_eq_true rfl) ⟨(Nat.le_of_ble_eq_true rfl), (Nat.le_of_ble_eq_true rfl)⟩ (Nat.zero_add _) (Nat.zero_add _) ?_
        rw [wT0 hntl (by omega)]
        refine gq_goto (tgt := 37) hX dX5_lengthBehind_33 rfl ?_
        refine gq_iadd hX dX5_lengthBehind_37 rfl ?_
        refine gq_istore_n hX dX5_lengthBehind_38 rfl rfl (Nat.le_of_ble_eq_true rfl) rfl ?_
        refine gq_iinc hX dX5_lengthBehind_39 rfl rfl (inc1 _) (Nat.le_of_ble_eq_true rfl) rfl ?_
        refine gq_goto (tgt := 4) hX dX5_lengthBehind_42 rfl ?_
        exact gq_ls (by rw [show it (fun j s => if S.2 5 j = c then s + S.2 4 j else s) (nI 0) (j + 1) = it (fun j s => if S.2 5 j = c then s + S.2 4 j else s) (nI 0) j + S.2 4 j from if_pos (add1_inj.mp c9)]; rfl) rfl rfl (ih (j + 1) (by omega))
  exact loop nt 0 (by omega)

set_option maxRecDepth 100000 in
set_option maxHeartbeats 4000000 in
theorem mt_flying {E : Ev} {b : Nat → Nat} {T : St} {M : Hp} (hb : Lay E 9 b) {S : St} {nc nt no : Nat} (hwf : Wf S nc nt no) (hn : Nar S) : Ct E mX5_flying [.ref (b 0)] (MdW E b T (wOf S nc nt no) M) (eqR (some (.int (cntFly S nc))) (MdW E b T (wOf S nc nt no) M)) 0 0 := by
  refine Ct.of gmX5_flying (ls := [.ref (b 0), hole, hole]) rfl rfl (Nat.le_of_ble_eq_true rfl) ?_
  intro X hX Q hQ
  have hwf2 := hwf
  obtain ⟨hnc, hncl, hnt, hntl, hno, hnol⟩ := hwf2
  have hw0 : wOf S nc nt no 0 = nI nc := hnc
  have hw1 : wOf S nc nt no 1 = nI nt := hnt
  have hw2 : wOf S nc nt no 2 = nI no := hno
  refine gq_iconst (v := nI 0) hX dX5_flying_0 rfl (by decide) ?_
  refine gq_istore_n hX dX5_flying_1 rfl rfl (Nat.le_of_ble_eq_true rfl) rfl ?_
  refine gq_iconst (v := nI 0) hX dX5_flying_2 rfl (by decide) ?_
  refine gq_istore_n hX dX5_flying_3 rfl rfl (Nat.le_of_ble_eq_true rfl) rfl ?_
  have loop : ∀ n j : Nat, j + n = nc → Gq E X mX5_flying Q 4 [.ref (b 0), .int (it (fun j s => if S.2 3 j = 0 then s else s + nI 1) (nI 0) j), .int (nI j)] [] (MdW E b T (wOf S nc nt no) M) 0 0 := by
    intro n
    induction n with
    | zero =>
      intro j hj
      refine gq_iload_n hX dX5_flying_4 rfl rfl rfl ?_
      refine gq_aload_n hX dX5_flying_5 rfl rfl rfl ?_
      refine gq_getf hX dX5_flying_6 rfl fX5_7 (mqR0 hb) rfl ?_
      refine gq_iconst (v := nI 0) hX dX5_flying_9 rfl (by decide) ?_
      refine gq_ialdN hX dX5_flying_10 rfl (mqR1 hb) rfl (by omega) (Nat.le_of_ble_eq_true rfl) ?_
      refine gq_icmp_geT (tgt := 29) hX dX5_flying_11 rfl (cT hw0 (by omega) (by omega)) ?_
      have ej : nc = j := by omega
      subst ej
      refine gq_iload_n hX dX5_flying_29 rfl rfl rfl ?_
      exact gq_iret hX hQ dX5_flying_30 rfl ⟨rfl, rfl⟩
    | succ n ih =>
      intro j hj
      refine gq_iload_n hX dX5_flying_4 rfl rfl rfl ?_
      refine gq_aload_n hX dX5_flying_5 rfl rfl rfl ?_
      refine gq_getf hX dX5_flying_6 rfl fX5_7 (mqR0 hb) rfl ?_
      refine gq_iconst (v := nI 0) hX dX5_flying_9 rfl (by decide) ?_
      refine gq_ialdN hX dX5_flying_10 rfl (mqR1 hb) rfl (by omega) (Nat.le_of_ble_eq_true rfl) ?_
      refine gq_icmp_geF (tgt := 29) hX dX5_flying_11 rfl rfl (cF hw0 (by omega) (by omega)) ?_
      refine gq_iload_n hX dX5_flying_14 rfl rfl rfl ?_
      refine gq_aload_n hX dX5_flying_15 rfl rfl rfl ?_
      refine gq_iload_n hX dX5_flying_16 rfl rfl rfl ?_
      refine gq_iconst (v := nI 2) hX dX5_flying_17 rfl (by decide) ?_
      refine gq_callVe hX dX5_flying_18 rfl vX5_65 (mt_of hb (c := j) (x := 2) (by omega) (by decide)) rfl (mqR0 hb) rfl rfl (Nat.le_of_ble_eq_true rfl) ⟨(Nat.le_of_ble_eq_true rfl), (Nat.le_of_ble_eq_true rfl)⟩ (Nat.zero_add _) (Nat.zero_add _) ?_
      rw [wC2 hncl (by omega)]
      refine gq_iadd hX dX5_flying_21 rfl ?_
      refine gq_istore_n hX dX5_flying_22 rfl rfl (Nat.le_of_ble_eq_true rfl) rfl ?_
      refine gq_iinc hX dX5_flying_23 rfl rfl (inc1 _) (Nat.le_of_ble_eq_true rfl) rfl ?_
      refine gq_goto (tgt := 4) hX dX5_flying_26 rfl ?_
      have h9 : it (fun j s => if S.2 3 j = 0 then s else s + nI 1) (nI 0) j + S.2 3 j = it (fun j s => if S.2 3 j = 0 then s else s + nI 1) (nI 0) (j + 1) := by
        show _ = if S.2 3 j = 0 then _ else _
        rcases bool_01 (hn.1 j) with h | h
        · rw [if_pos (h.trans nI_0), h]
          exact Int32.add_zero _
        · rw [if_neg (by rw [h]; decide), h]
      refine gq_ls ?_ rfl rfl (ih (j + 1) (by omega))
      rw [← h9]
      rfl
  exact loop nc 0 (by omega)

