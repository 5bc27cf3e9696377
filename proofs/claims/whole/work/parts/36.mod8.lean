def rdT (T : St) (N : Nat → Int32) (a : Nat) (s : Int32) : St := setS (setS (setA T 8 N) 6 (nI a)) 10 s
def TxP (T : St) (l : Ln) : Prop := T.1 5 = nI l.2 ∧ l.2 ≤ 60 ∧ (∀ i, i < l.2 → T.2 7 i = nI (l.1 i)) ∧ ∀ i, i < l.2 → l.1 i < 128
def ncI (l : Ln) (a : Nat) : Int32 := if a < l.2 then nI (l.1 a) else -1
section
variable {T : St} {N N2 : Nat → Int32} {a a2 : Nat} {s s2 : Int32}
theorem setS_c {S : St} {j k : Nat} {u v : Int32} (h : j ≠ k) : setS (setS S j u) k v = setS (setS S k v) j u := by
  refine Prod.ext ?_ rfl
  funext i
  show (if i = k then v else if i = j then u else S.1 i) = if i = j then u else if i = k then v else S.1 i
  by_cases e : i = k
  · subst e
    rw [if_pos rfl, if_neg (Ne.symm h), if_pos rfl]
  · rw [if_neg e, if_neg e]
theorem rdT_at : setS (rdT T N a s) 6 (nI a2) = rdT T N a2 s := by
  unfold rdT
  rw [setS_c (by decide), setS_2]
theorem rdT_so : setS (rdT T N a s) 10 s2 = rdT T N a s2 := by
  unfold rdT
  rw [setS_2]
theorem rdT_nu : setA (rdT T N a s) 8 N2 = rdT T N2 a s := congrArg (fun z => setS (setS z 6 (nI a)) 10 s) (setA_2 (S := T) (k := 8) (f := N) (g := N2))
theorem rdT_id (h6 : T.1 6 = nI a) : T = rdT T (T.2 8) a (T.1 10) := by
  unfold rdT
  rw [setA_id, ← h6, setS_id, setS_id]
theorem upd_2 {f : Nat → Int32} {k : Nat} {x y : Int32} : upd (upd f k x) k y = upd f k y := by
  funext i
  by_cases e : i = k
  · subst e
    rw [upd_s, upd_s]
  · rw [upd_n _ e, upd_n _ e, upd_n _ e]
end
theorem nx_val {l : Ln} {a c : Nat} (h : nx l a c = true) : ncI l a = nI c := by
  have h8 : a < l.2 ∧ l.1 a = c := of_decide_eq_true h
  unfold ncI
  rw [if_pos h8.1, h8.2]
theorem nx_nval {l : Ln} {a c : Nat} (hl : ∀ i, i < l.2 → l.1 i < 128) (hc : c < 128) (h : nx l a c = false) : ¬ ncI l a = nI c := by
  have h8 : ¬ (a < l.2 ∧ l.1 a = c) := of_decide_eq_false h
  unfold ncI
  split
  · rename_i h9
    intro e
    have := (nI_eq (by have := hl a h9; omega) (by omega)).mp e
    omega
  · exact fun e => nI_m1 (show c < 100000 by omega) e.symm
theorem dgt_val {l : Ln} {a : Nat} (hl : ∀ i, i < l.2 → l.1 i < 128) : btw (ncI l a) (nI 48) (nI 57) = if dgt l a = true then nI 1 else nI 0 := by
  by_cases h : dgt l a = true
  · have h8 : a < l.2 ∧ 48 ≤ l.1 a ∧ l.1 a ≤ 57 := of_decide_eq_true h
    rw [if_pos h]
    unfold ncI btw
    rw [if_pos h8.1, if_neg (nI_nlt (by omega) (by omega)), if_neg (nI_nlt (by omega) (by omega))]
  · have h8 : ¬ (a < l.2 ∧ 48 ≤ l.1 a ∧ l.1 a ≤ 57) := fun z => h (decide_eq_true z)
    rw [if_neg h]
    unfold ncI btw
    by_cases h9 : a < l.2
    · have := hl a h9
      rw [if_pos h9]
      by_cases h1 : l.1 a < 48
      · rw [if_pos (nI_lt h1 (by omega))]
      · rw [if_neg (nI_nlt (by omega) (by omega)), if_pos (nI_lt (by omega) (by omega))]
    · rw [if_neg h9, if_pos (by decide)]
def RdR (E : Ev) (b : Nat → Nat) (T : St) (w : Nat → Int32) (M : Hp) (res : Rs) (sx : Int32) : Option Value → Hp → Prop := fun r M1 => r = some (.int (if res.1 = true then nI 1 else nI 0)) ∧ ∃ N1 s1, M1 = MdW E b (rdT T N1 res.2.1 s1) w M ∧ (res.1 = true → s1 = sx ∧ ∀ q, q < res.2.2.length → N1 q = nI (res.2.2.getD q 0))

set_option maxRecDepth 100000 in
set_option maxHeartbeats 4000000 in
theorem mp_next {E : Ev} {b : Nat → Nat} {T : St} {w : Nat → Int32} {M : Hp} (hb : Lay E 9 b) {l : Ln} (ht : TxP T l) {a : Nat} (h6 : T.1 6 = nI a) (ha : a < 1000) : Ct E mX5_nextChar [.ref (b 0)] (MdW E b T w M) (eqR (some (.int (ncI l a))) (MdW E b T w M)) 0 0 := by
  refine Ct.of gmX5_nextChar (ls := [.ref (b 0)]) rfl rfl (Nat.le_of_ble_eq_true rfl) ?_
  intro X hX Q hQ
  obtain ⟨h5, h60, h7, h128⟩ := ht
  refine gq_aload_n hX dX5_nextChar_0 rfl rfl rfl ?_
  refine gq_getf hX dX5_nextChar_1 rfl fX5_235 (mqR0 hb) rfl ?_
  refine gq_aload_n hX dX5_nextChar_4 rfl rfl rfl ?_
  refine gq_getf hX dX5_nextChar_5 rfl fX5_232 (mqR0 hb) rfl ?_
  by_cases hl : a < l.2
  · refine gq_icmp_geF (tgt := 23) hX dX5_nextChar_8 rfl rfl (by rw [h6, h5]; exact nI_ge hl (by omega)) ?_
    refine gq_aload_n hX dX5_nextChar_11 rfl rfl rfl ?_
    refine gq_getf hX dX5_nextChar_12 rfl fX5_29 (mqR0 hb) rfl ?_
    refine gq_aload_n hX dX5_nextChar_15 rfl rfl rfl ?_
    refine gq_getf hX dX5_nextChar_16 rfl fX5_235 (mqR0 hb) rfl ?_
    refine gq_caldN hX dX5_nextChar_19 rfl (mqR7 hb) h6 (by omega) (Nat.le_of_ble_eq_true rfl) ?_
    rw [h7 a hl]
    refine gq_goto (tgt := 24) hX dX5_nextChar_20 rfl ?_
    exact gq_iret hX hQ dX5_nextChar_24 rfl ⟨by rw [ncI, if_pos hl], rfl⟩
  · refine gq_icmp_geT (tgt := 23) hX dX5_nextChar_8 rfl (by rw [h6, h5]; exact nI_le (by omega) (by omega)) ?_
    refine gq_iconst (v := -1) hX dX5_nextChar_23 rfl (by decide) ?_
    exact gq_iret hX hQ dX5_nextChar_24 rfl ⟨by rw [ncI, if_neg hl], rfl⟩

set_option maxRecDepth 100000 in
set_option maxHeartbeats 4000000 in
theorem mp_reads_y {E : Ev} {b : Nat → Nat} {T : St} {w : Nat → Int32} {N : Nat → Int32} {s : Int32} {M : Hp} (hb : Lay E 9 b) {l : Ln} (ht : TxP T l) {a : Nat} (ha : a < 1000) {c : Nat} (h : nx l a c = true) : Ct E mX5_reads [.ref (b 0), .int (nI c)] (MdW E b (rdT T N a s) w M) (eqR (some (.int (nI 1))) (MdW E b (rdT T N (a + 1) s) w M)) 0 0 := by
  refine Ct.of gmX5_reads (ls := [.ref (b 0), .int (nI c)]) rfl rfl (Nat.le_of_ble_eq_true rfl) ?_
  intro X hX Q hQ
  refine gq_aload_n hX dX5_reads_0 rfl rfl rfl ?_
  refine gq_callVe hX dX5_reads_1 rfl vX5_238 (mp_next hb (T := rdT T N a s) (l := l) ht rfl ha) rfl (mqR0 hb) rfl rfl (Nat.le_of_ble_eq_true rfl) ⟨(Nat.le_of_ble_eq_true rfl), (Nat.le_of_ble_eq_true rfl)⟩ (Nat.zero_add _) (Nat.zero_add _) ?_
  refine gq_iload_n hX dX5_reads_4 rfl rfl rfl ?_
  refine gq_icmp_eqT (tgt := 10) hX dX5_reads_5 rfl (nx_val h) ?_
  refine gq_aload_n hX dX5_reads_10 rfl rfl rfl ?_
  refine gq_dup hX dX5_reads_11 rfl rfl ?_
  refine gq_getf hX dX5_reads_12 rfl fX5_235 (mqR0 hb) rfl ?_
  refine gq_iconst (v := nI 1) hX dX5_reads_15 rfl (by decide) ?_
  refine gq_iadd hX dX5_reads_16 rfl ?_
  rw [show (rdT T N a s).1 6 = nI a from rfl, inM]
  refine gq_putf hX dX5_reads_17 rfl fX5_235 rfl rfl rfl (mqR0 hb) (Nat.le_of_ble_eq_true rfl) (hb.2 0 (by decide)) (mqW0_13 hb) ?_
  rw [rdT_at]
  refine gq_iconst (v := nI 1) hX dX5_reads_20 rfl (by decide) ?_
  exact gq_zret hX hQ dX5_reads_21 rfl rfl ⟨rfl, rfl⟩

set_option maxRecDepth 100000 in
set_option maxHeartbeats 4000000 in
theorem mp_reads_n {E : Ev} {b : Nat → Nat} {T : St} {w : Nat → Int32} {N : Nat → Int32} {s : Int32} {M : Hp} (hb : Lay E 9 b) {l : Ln} (ht : TxP T l) {a : Nat} (ha : a < 1000) {c : Nat} (hc : c < 128) (h : nx l a c = false) : Ct E mX5_reads [.ref (b 0), .int (nI c)] (MdW E b (rdT T N a s) w M) (eqR (some (.int (nI 0))) (MdW E b (rdT T N a s) w M)) 0 0 := by
  refine Ct.of gmX5_reads (ls := [.ref (b 0), .int (nI c)]) rfl rfl (Nat.le_of_ble_eq_true rfl) ?_
  intro X hX Q hQ
  refine gq_aload_n hX dX5_reads_0 rfl rfl rfl ?_
  refine gq_callVe hX dX5_reads_1 rfl vX5_238 (mp_next hb (T := rdT T N a s) (l := l) ht rfl ha) rfl (mqR0 hb) rfl rfl (Nat.le_of_ble_eq_true rfl) ⟨(Nat.le_of_ble_eq_true rfl), (Nat.le_of_ble_eq_true rfl)⟩ (Nat.zero_add _) (Nat.zero_add _) ?_
  refine gq_iload_n hX dX5_reads_4 rfl rfl rfl ?_
  refine gq_icmp_eqF (tgt := 10) hX dX5_reads_5 rfl rfl (nx_nval ht.2.2.2 hc h) ?_
  refine gq_iconst (v := nI 0) hX dX5_reads_8 rfl (by decide) ?_
  exact gq_zret hX hQ dX5_reads_9 rfl rfl ⟨rfl, rfl⟩

set_option maxRecDepth 100000 in
set_option maxHeartbeats 4000000 in
theorem mp_isDig {E : Ev} {b : Nat → Nat} {T : St} {w : Nat → Int32} {N : Nat → Int32} {s : Int32} {M : Hp} (hb : Lay E 9 b) {l : Ln} (ht : TxP T l) {a : Nat} (ha : a < 1000)  : Ct E mX5_isDigitNext [.ref (b 0)] (MdW E b (rdT T N a s) w M) (eqR (some (.int (if dgt l a = true then nI 1 else nI 0))) (MdW E b (rdT T N a s) w M)) 0 0 := by
  refine Ct.of gmX5_isDigitNext (ls := [.ref (b 0)]) rfl rfl (Nat.le_of_ble_eq_true rfl) ?_
  intro X hX Q hQ
  refine gq_aload_n hX dX5_isDigitNext_0 rfl rfl rfl ?_
  refine gq_callVe hX dX5_isDigitNext_1 rfl vX5_238 (mp_next hb (T := rdT T N a s) (l := l) ht rfl ha) rfl (mqR0 hb) rfl rfl (Nat.le_of_ble_eq_true rfl) ⟨(Nat.le_of_ble_eq_true rfl), (Nat.le_of_ble_eq_true rfl)⟩ (Nat.zero_add _) (Nat.zero_add _) ?_
  refine gq_bipush (v := nI 48) hX dX5_isDigitNext_4 rfl (by decide) ?_
  refine gq_bipush (v := nI 57) hX dX5_isDigitNext_6 rfl (by decide) ?_
  refine gq_callSe hX dX5_isDigitNext_8 rfl vX5_57 (mt_btw _ _ _) rfl rfl (Nat.le_of_ble_eq_true rfl) ⟨(Nat.le_of_ble_eq_true rfl), (Nat.le_of_ble_eq_true rfl)⟩ (Nat.zero_add _) (Nat.zero_add _) ?_
  rw [dgt_val ht.2.2.2]
  exact gq_zret hX hQ dX5_isDigitNext_11 rfl (by split <;> rfl) ⟨rfl, rfl⟩

set_option maxRecDepth 100000 in
set_option maxHeartbeats 4000000 in
theorem mp_dig_y {E : Ev} {b : Nat → Nat} {T : St} {w : Nat → Int32} {N : Nat → Int32} {s : Int32} {M : Hp} (hb : Lay E 9 b) {l : Ln} (ht : TxP T l) {a : Nat} (ha : a < 1000) {k : Nat} (hk : k < 2) (h : dgt l a = true) : Ct E mX5_readsDigit [.ref (b 0), .int (nI k)] (MdW E b (rdT T N a s) w M) (eqR (some (.int (nI 1))) (MdW E b (rdT T (upd N k (nI (l.1 a - 48))) (a + 1) s) w M)) 0 0 := by
  refine Ct.of gmX5_readsDigit (ls := [.ref (b 0), .int (nI k)]) rfl rfl (Nat.le_of_ble_eq_true rfl) ?_
  intro X hX Q hQ
  have h8 : a < l.2 ∧ 48 ≤ l.1 a ∧ l.1 a ≤ 57 := of_decide_eq_true h
  have hnc : ncI l a = nI (l.1 a) := if_pos h8.1
  refine gq_aload_n hX dX5_readsDigit_0 rfl rfl rfl ?_
  refine gq_callVe hX dX5_readsDigit_1 rfl vX5_241 (mp_isDig hb (N := N) (s := s) ht ha) rfl (mqR0 hb) rfl rfl (Nat.le_of_ble_eq_true rfl) ⟨(Nat.le_of_ble_eq_true rfl), (Nat.le_of_ble_eq_true rfl)⟩ (Nat.zero_add _) (Nat.zero_add _) ?_
  refine gq_if_neT (tgt := 9) hX dX5_readsDigit_4 rfl (by rw [if_pos h]; decide) ?_
  refine gq_aload_n hX dX5_readsDigit_9 rfl rfl rfl ?_
  refine gq_getf hX dX5_readsDigit_10 rfl fX5_39 (mqR0 hb) rfl ?_
  refine gq_iload_n hX dX5_readsDigit_13 rfl rfl rfl ?_
  refine gq_aload_n hX dX5_readsDigit_14 rfl rfl rfl ?_
  refine gq_callVe hX dX5_readsDigit_15 rfl vX5_238 (mp_next hb (T := rdT T N a s) (l := l) ht rfl ha) rfl (mqR0 hb) rfl rfl (Nat.le_of_ble_eq_true rfl) ⟨(Nat.le_of_ble_eq_true rfl), (Nat.le_of_ble_eq_true rfl)⟩ (Nat.zero_add _) (Nat.zero_add _) ?_
  rw [hnc]
  refine gq_bipush (v := nI 48) hX dX5_readsDigit_18 rfl (by decide) ?_
  refine gq_isub hX dX5_readsDigit_20 rfl ?_
  rw [pk_sub (by omega)]
  refine gq_iastN hX dX5_readsDigit_21 rfl (mqR8 hb) rfl (by omega) (Nat.le_of_ble_eq_true rfl) (hb.2 8 (by decide)) (mqW8 hb) ?_
  rw [rdT_nu, show (rdT T N a s).2 8 = N from rfl]
  refine gq_aload_n hX dX5_readsDigit_22 rfl rfl rfl ?_
  refine gq_dup hX dX5_readsDigit_23 rfl rfl ?_
  refine gq_getf hX dX5_readsDigit_24 rfl fX5_235 (mqR0 hb) rfl ?_
  refine gq_iconst (v := nI 1) hX dX5_readsDigit_27 rfl (by decide) ?_
  refine gq_iadd hX dX5_readsDigit_28 rfl ?_
  rw [show (rdT T (upd N k (nI (l.1 a - 48))) a s).1 6 = nI a from rfl, inM]
  refine gq_putf hX dX5_readsDigit_29 rfl fX5_235 rfl rfl rfl (mqR0 hb) (Nat.le_of_ble_eq_true rfl) (hb.2 0 (by decide)) (mqW0_13 hb) ?_
  rw [rdT_at]
  refine gq_iconst (v := nI 1) hX dX5_readsDigit_32 rfl (by decide) ?_
  exact gq_zret hX hQ dX5_readsDigit_33 rfl rfl ⟨rfl, rfl⟩

set_option maxRecDepth 100000 in
set_option maxHeartbeats 4000000 in
theorem mp_dig_n {E : Ev} {b : Nat → Nat} {T : St} {w : Nat → Int32} {N : Nat → Int32} {s : Int32} {M : Hp} (hb : Lay E 9 b) {l : Ln} (ht : TxP T l) {a : Nat} (ha : a < 1000) {k : Nat} (h : ¬ dgt l a = true) : Ct E mX5_readsDigit [.ref (b 0), .int (nI k)] (MdW E b (rdT T N a s) w M) (eqR (some (.int (nI 0))) (MdW E b (rdT T N a s) w M)) 0 0 := by
  refine Ct.of gmX5_readsDigit (ls := [.ref (b 0), .int (nI k)]) rfl rfl (Nat.le_of_ble_eq_true rfl) ?_
  intro X hX Q hQ
  refine gq_aload_n hX dX5_readsDigit_0 rfl rfl rfl ?_
  refine gq_callVe hX dX5_readsDigit_1 rfl vX5_241 (mp_isDig hb (N := N) (s := s) ht ha) rfl (mqR0 hb) rfl rfl (Nat.le_of_ble_eq_true rfl) ⟨(Nat.le_of_ble_eq_true rfl), (Nat.le_of_ble_eq_true rfl)⟩ (Nat.zero_add _) (Nat.zero_add _) ?_
  refine gq_if_neF (tgt := 9) hX dX5_readsDigit_4 rfl rfl (by rw [if_neg h]; decide) ?_
  refine gq_iconst (v := nI 0) hX dX5_readsDigit_7 rfl (by decide) ?_
  exact gq_zret hX hQ dX5_readsDigit_8 rfl rfl ⟨rfl, rfl⟩

set_option maxRecDepth 100000 in
set_option maxHeartbeats 4000000 in
theorem mp_num_n {E : Ev} {b : Nat → Nat} {T : St} {w : Nat → Int32} {N : Nat → Int32} {s : Int32} {M : Hp} (hb : Lay E 9 b) {l : Ln} (ht : TxP T l) {a : Nat} (ha : a < 1000) {k : Nat} (h : ¬ dgt l a = true) : Ct E mX5_readsNumber [.ref (b 0), .int (nI k)] (MdW E b (rdT T N a s) w M) (eqR (some (.int (nI 0))) (MdW E b (rdT T N a s) w M)) 0 0 := by
  refine Ct.of gmX5_readsNumber (ls := [.ref (b 0), .int (nI k), hole]) rfl rfl (Nat.le_of_ble_eq_true rfl) ?_
  intro X hX Q hQ
  refine gq_aload_n hX dX5_readsNumber_0 rfl rfl rfl ?_
  refine gq_iload_n hX dX5_readsNumber_1 rfl rfl rfl ?_
  refine gq_callVe hX dX5_readsNumber_2 rfl vX5_245 (mp_dig_n hb (N := N) (s := s) ht ha h) rfl (mqR0 hb) rfl rfl (Nat.le_of_ble_eq_true rfl) ⟨(Nat.le_of_ble_eq_true rfl), (Nat.le_of_ble_eq_true rfl)⟩ (Nat.zero_add _) (Nat.zero_add _) ?_
  refine gq_if_neF (tgt := 10) hX dX5_readsNumber_5 rfl rfl rfl ?_
  refine gq_iconst (v := nI 0) hX dX5_readsNumber_8 rfl (by decide) ?_
  exact gq_zret hX hQ dX5_readsNumber_9 rfl rfl ⟨rfl, rfl⟩

theorem valN_1 {l : Ln} {a : Nat} : valN l a 1 = l.1 a - 48 := by show 10 * 0 + (l.1 (a + 0) - 48) = _; rw [Nat.add_zero]; omega
theorem valN_s {l : Ln} {a d : Nat} : valN l a (d + 1) = 10 * valN l a d + (l.1 (a + d) - 48) := rfl
theorem nI_dig {v c : Nat} (h : 48 ≤ c) : nI 10 * nI v + nI c - nI 48 = nI (10 * v + (c - 48)) := by
  rw [nI_m, nI_add, pk_sub (by omega), show 10 * v + c - 48 = 10 * v + (c - 48) by omega]

set_option maxRecDepth 100000 in
set_option maxHeartbeats 4000000 in
theorem mp_num_y {E : Ev} {b : Nat → Nat} {T : St} {w : Nat → Int32} {N : Nat → Int32} {s : Int32} {M : Hp} (hb : Lay E 9 b) {l : Ln} (ht : TxP T l) {a : Nat} (ha : a < 1000) {k : Nat} (hk : k < 2) (h : dgt l a = true) : Ct E mX5_readsNumber [.ref (b 0), .int (nI k)] (MdW E b (rdT T N a s) w M) (eqR (some (.int (nI 1))) (MdW E b (rdT T (upd N k (nI (valN l a (dgm l a 3)))) (a + dgm l a 3) s) w M)) 0 0 := by
  refine Ct.of gmX5_readsNumber (ls := [.ref (b 0), .int (nI k), hole]) rfl rfl (Nat.le_of_ble_eq_true rfl) ?_
  intro X hX Q hQ
  have hl60 := ht.2.1
  have h8 : a < l.2 ∧ 48 ≤ l.1 a ∧ l.1 a ≤ 57 := of_decide_eq_true h
  have hd : dgm l a 3 = 1 + dgm l (a + 1) 2 := by rw [dgm, if_pos h]
  refine gq_aload_n hX dX5_readsNumber_0 rfl rfl rfl ?_
  refine gq_iload_n hX dX5_readsNumber_1 rfl rfl rfl ?_
  refine gq_callVe hX dX5_readsNumber_2 rfl vX5_245 (mp_dig_y hb (N := N) (s := s) ht ha hk h) rfl (mqR0 hb) rfl rfl (Nat.le_of_ble_eq_true rfl) ⟨(Nat.le_of_ble_eq_true rfl), (Nat.le_of_ble_eq_true rfl)⟩ (Nat.zero_add _) (Nat.zero_add _) ?_
  rw [← valN_1]
  refine gq_if_neT (tgt := 10) hX dX5_readsNumber_5 rfl (by decide) ?_
  refine gq_iconst (v := nI 0) hX dX5_readsNumber_10 rfl (by decide) ?_
  refine gq_istore_n hX dX5_readsNumber_11 rfl rfl (Nat.le_of_ble_eq_true rfl) rfl ?_
  have lp : ∀ r q : Nat, q + r = 2 → dgm l a 3 = q + 1 + dgm l (a + (q + 1)) r → Gq E X mX5_readsNumber Q 12 [.ref (b 0), .int (nI k), .int (nI q)] [] (MdW E b (rdT T (upd N k (nI (valN l a (q + 1)))) (a + (q + 1)) s) w M) 0 0 := by
    intro r
    induction r with
    | zero =>
      intro q hq hdq
      have eq : q = 2 := by omega
      subst eq
      refine gq_iload_n hX dX5_readsNumber_12 rfl rfl rfl ?_
      refine gq_iconst (v := nI 2) hX dX5_readsNumber_13 rfl (by decide) ?_
      refine gq_icmp_geT (tgt := 63) hX dX5_readsNumber_14 rfl (nI_le (Nat.le_refl _) (by decide)) ?_
      refine gq_iconst (v := nI 1) hX dX5_readsNumber_63 rfl (by decide) ?_
      exact gq_zret hX hQ dX5_readsNumber_64 rfl rfl ⟨rfl, by rw [hdq]; rfl⟩
    | succ r ih =>
      intro q hq hdq
      refine gq_iload_n hX dX5_readsNumber_12 rfl rfl rfl ?_
      refine gq_iconst (v := nI 2) hX dX5_readsNumber_13 rfl (by decide) ?_
      refine gq_icmp_geF (tgt := 63) hX dX5_readsNumber_14 rfl rfl (nI_ge (by omega) (by decide)) ?_
      refine gq_aload_n hX dX5_readsNumber_17 rfl rfl rfl ?_
      refine gq_callVe hX dX5_readsNumber_18 rfl vX5_241 (mp_isDig hb (N := upd N k (nI (valN l a (q + 1)))) (s := s) ht (a := a + (q + 1)) (by omega)) rfl (mqR0 hb) rfl rfl (Nat.le_of_ble_eq_true rfl) ⟨(Nat.le_of_ble_eq_true rfl), (Nat.le_of_ble_eq_true rfl)⟩ (Nat.zero_add _) (Nat.zero_add _) ?_
      by_cases hg : dgt l (a + (q + 1)) = true
      · have h9 : a + (q + 1) < l.2 ∧ 48 ≤ l.1 (a + (q + 1)) ∧ l.1 (a + (q + 1)) ≤ 57 := of_decide_eq_true hg
        have hnc : ncI l (a + (q + 1)) = nI (l.1 (a + (q + 1))) := if_pos h9.1
        refine gq_if_eqF (tgt := 63) hX dX5_readsNumber_21 rfl rfl (by rw [if_pos hg]; decide) ?_
        refine gq_aload_n hX dX5_readsNumber_24 rfl rfl rfl ?_
        refine gq_getf hX dX5_readsNumber_25 rfl fX5_39 (mqR0 hb) rfl ?_
        refine gq_iload_n hX dX5_readsNumber_28 rfl rfl rfl ?_
        refine gq_bipush (v := nI 10) hX dX5_readsNumber_29 rfl (by decide) ?_
        refine gq_aload_n hX dX5_readsNumber_31 rfl rfl rfl ?_
        refine gq_getf hX dX5_readsNumber_32 rfl fX5_39 (mqR0 hb) rfl ?_
        refine gq_iload_n hX dX5_readsNumber_35 rfl rfl rfl ?_
        refine gq_ialdN hX dX5_readsNumber_36 rfl (mqR8 hb) rfl (by omega) (Nat.le_of_ble_eq_true rfl) ?_
        rw [show (rdT T (upd N k (nI (valN l a (q + 1)))) (a + (q + 1)) s).2 8 k = nI (valN l a (q + 1)) from upd_s _ _ _]
        refine gq_imul hX dX5_readsNumber_37 rfl ?_
        refine gq_aload_n hX dX5_readsNumber_38 rfl rfl rfl ?_
        refine gq_callVe hX dX5_readsNumber_39 rfl vX5_238 (mp_next hb (T := rdT T (upd N k (nI (valN l a (q + 1)))) (a + (q + 1)) s) (l := l) ht rfl (by omega)) rfl (mqR0 hb) rfl rfl (Nat.le_of_ble_eq_true rfl) ⟨(Nat.le_of_ble_eq_true rfl), (Nat.le_of_ble_eq_true rfl)⟩ (Nat.zero_add _) (Nat.zero_add _) ?_
        rw [hnc]
        refine gq_iadd hX dX5_readsNumber_42 rfl ?_
        refine gq_bipush (v := nI 48) hX dX5_readsNumber_43 rfl (by decide) ?_
        refine gq_isub hX dX5_readsNumber_45 rfl ?_
        rw [nI_dig h9.2.1, ← valN_s]
        refine gq_iastN hX dX5_readsNumber_46 rfl (mqR8 hb) rfl (by omega) (Nat.le_of_ble_eq_true rfl) (hb.2 8 (by decide)) (mqW8 hb) ?_
        rw [rdT_nu, show (rdT T (upd N k (nI (valN l a (q + 1)))) (a + (q + 1)) s).2 8 = upd N k (nI (valN l a (q + 1))) from rfl, upd_2]
        refine gq_aload_n hX dX5_readsNumber_47 rfl rfl rfl ?_
        refine gq_dup hX dX5_readsNumber_48 rfl rfl ?_
        refine gq_getf hX dX5_readsNumber_49 rfl fX5_235 (mqR0 hb) rfl ?_
        refine gq_iconst (v := nI 1) hX dX5_readsNumber_52 rfl (by decide) ?_
        refine gq_iadd hX dX5_readsNumber_53 rfl ?_
        rw [show (rdT T (upd N k (nI (valN l a (q + 1 + 1)))) (a + (q + 1)) s).1 6 = nI (a + (q + 1)) from rfl, inM]
        refine gq_putf hX dX5_readsNumber_54 rfl fX5_235 rfl rfl rfl (mqR0 hb) (Nat.le_of_ble_eq_true rfl) (hb.2 0 (by decide)) (mqW0_13 hb) ?_
        rw [rdT_at]
        refine gq_iinc hX dX5_readsNumber_57 rfl rfl (inc1 _) (Nat.le_of_ble_eq_true rfl) rfl ?_
        refine gq_goto (tgt := 12) hX dX5_readsNumber_60 rfl ?_
        have hd2 : dgm l (a + (q + 1)) (r + 1) = 1 + dgm l (a + (q + 1) + 1) r := by rw [dgm, if_pos hg]
        exact ih (q + 1) (by omega) (by rw [hdq, hd2, show a + (q + 1 + 1) = a + (q + 1) + 1 by omega]; omega)
      · refine gq_if_eqT (tgt := 63) hX dX5_readsNumber_21 rfl (by rw [if_neg hg]; rfl) ?_
        refine gq_iconst (v := nI 1) hX dX5_readsNumber_63 rfl (by decide) ?_
        have hd2 : dgm l (a + (q + 1)) (r + 1) = 0 := by rw [dgm, if_neg hg]
        have hd3 : dgm l a 3 = q + 1 := by rw [hdq, hd2]
        exact gq_zret hX hQ dX5_readsNumber_64 rfl rfl ⟨rfl, by rw [hd3]⟩
  exact lp 2 0 rfl (by rw [hd])

theorem dgm1_y {l : Ln} {a : Nat} (h : dgt l a = true) : dgm l a 1 = 1 := by rw [dgm, if_pos h]; rfl
theorem dgm1_n {l : Ln} {a : Nat} (h : ¬ dgt l a = true) : dgm l a 1 = 0 := by rw [dgm, if_neg h]
theorem dgm3_y {l : Ln} {a : Nat} (h : dgt l a = true) : dgm l a 3 ≠ 0 := by rw [dgm, if_pos h]; omega
theorem dgm3_n {l : Ln} {a : Nat} (h : ¬ dgt l a = true) : dgm l a 3 = 0 := by rw [dgm, if_neg h]

set_option maxRecDepth 100000 in
set_option maxHeartbeats 4000000 in
theorem mp_rdC {E : Ev} {b : Nat → Nat} {T : St} {w : Nat → Int32} {N : Nat → Int32} {s : Int32} {M : Hp} (hb : Lay E 9 b) {l : Ln} (ht : TxP T l) {a : Nat} (ha : a < 1000) (ha9 : a < 100)  : Ct E mX5_readsCommittee [.ref (b 0)] (MdW E b (rdT T N a s) w M) (RdR E b T w M (mG l (frmN 0) 10 1 a) s) 0 0 := by
  refine Ct.of gmX5_readsCommittee (ls := [.ref (b 0)]) rfl rfl (Nat.le_of_ble_eq_true rfl) ?_
  intro X hX Q hQ
  have hl60 := ht.2.1
  refine gq_aload_n hX dX5_readsCommittee_0 rfl rfl rfl ?_
  refine gq_bipush (v := nI 111) hX dX5_readsCommittee_1 rfl (by decide) ?_
  rcases Bool.eq_false_or_eq_true (nx l (a) 111) with h1 | h1
  · refine gq_callVe hX dX5_readsCommittee_3 rfl vX5_248 (mp_reads_y hb (T := T) (N := N) (s := s) (a := a) ht (by omega) h1) rfl (mqR0 hb) rfl rfl (Nat.le_of_ble_eq_true rfl) ⟨(Nat.le_of_ble_eq_true rfl), (Nat.le_of_ble_eq_true rfl)⟩ (Nat.zero_add _) (Nat.zero_add _) ?_
    refine gq_if_eqF (tgt := 54) hX dX5_readsCommittee_6 rfl rfl (by decide) ?_
    refine gq_aload_n hX dX5_readsCommittee_9 rfl rfl rfl ?_
    refine gq_bipush (v := nI 109) hX dX5_readsCommittee_10 rfl (by decide) ?_
    rcases Bool.eq_false_or_eq_true (nx l (a + 1) 109) with h2 | h2
    · refine gq_callVe hX dX5_readsCommittee_12 rfl vX5_248 (mp_reads_y hb (T := T) (N := N) (s := s) (a := a + 1) ht (by omega) h2) rfl (mqR0 hb) rfl rfl (Nat.le_of_ble_eq_true rfl) ⟨(Nat.le_of_ble_eq_true rfl), (Nat.le_of_ble_eq_true rfl)⟩ (Nat.zero_add _) (Nat.zero_add _) ?_
      refine gq_if_eqF (tgt := 54) hX dX5_readsCommittee_15 rfl rfl (by decide) ?_
      refine gq_aload_n hX dX5_readsCommittee_18 rfl rfl rfl ?_
      refine gq_bipush (v := nI 109) hX dX5_readsCommittee_19 rfl (by decide) ?_
      rcases Bool.eq_false_or_eq_true (nx l (a + 1 + 1) 109) with h3 | h3
      · refine gq_callVe hX dX5_readsCommittee_21 rfl vX5_248 (mp_reads_y hb (T := T) (N := N) (s := s) (a := a + 1 + 1) ht (by omega) h3) rfl (mqR0 hb) rfl rfl (Nat.le_of_ble_eq_true rfl) ⟨(Nat.le_of_ble_eq_true rfl), (Nat.le_of_ble_eq_true rfl)⟩ (Nat.zero_add _) (Nat.zero_add _) ?_
        refine gq_if_eqF (tgt := 54) hX dX5_readsCommittee_24 rfl rfl (by decide) ?_
        refine gq_aload_n hX dX5_readsCommittee_27 rfl rfl rfl ?_
        refine gq_bipush (v := nI 105) hX dX5_readsCommittee_28 rfl (by decide) ?_
        rcases Bool.eq_false_or_eq_true (nx l (a + 1 + 1 + 1) 105) with h4 | h4
        · refine gq_callVe hX dX5_readsCommittee_30 rfl vX5_248 (mp_reads_y hb (T := T) (N := N) (s := s) (a := a + 1 + 1 + 1) ht (by omega) h4) rfl (mqR0 hb) rfl rfl (Nat.le_of_ble_eq_true rfl) ⟨(Nat.le_of_ble_eq_true rfl), (Nat.le_of_ble_eq_true rfl)⟩ (Nat.zero_add _) (Nat.zero_add _) ?_
          refine gq_if_eqF (tgt := 54) hX dX5_readsCommittee_33 rfl rfl (by decide) ?_
          refine gq_aload_n hX dX5_readsCommittee_36 rfl rfl rfl ?_
          refine gq_bipush (v := nI 116) hX dX5_readsCommittee_37 rfl (by decide) ?_
          rcases Bool.eq_false_or_eq_true (nx l (a + 1 + 1 + 1 + 1) 116) with h5 | h5
          · refine gq_callVe hX dX5_readsCommittee_39 rfl vX5_248 (mp_reads_y hb (T := T) (N := N) (s := s) (a := a + 1 + 1 + 1 + 1) ht (by omega) h5) rfl (mqR0 hb) rfl rfl (Nat.le_of_ble_eq_true rfl) ⟨(Nat.le_of_ble_eq_true rfl), (Nat.le_of_ble_eq_true rfl)⟩ (Nat.zero_add _) (Nat.zero_add _) ?_
            refine gq_if_eqF (tgt := 54) hX dX5_readsCommittee_42 rfl rfl (by decide) ?_
            refine gq_aload_n hX dX5_readsCommittee_45 rfl rfl rfl ?_
            refine gq_bipush (v := nI 116) hX dX5_readsCommittee_46 rfl (by decide) ?_
            rcases Bool.eq_false_or_eq_true (nx l (a + 1 + 1 + 1 + 1 + 1) 116) with h6 | h6
            · refine gq_callVe hX dX5_readsCommittee_48 rfl vX5_248 (mp_reads_y hb (T := T) (N := N) (s := s) (a := a + 1 + 1 + 1 + 1 + 1) ht (by omega) h6) rfl (mqR0 hb) rfl rfl (Nat.le_of_ble_eq_true rfl) ⟨(Nat.le_of_ble_eq_true rfl), (Nat.le_of_ble_eq_true rfl)⟩ (Nat.zero_add _) (Nat.zero_add _) ?_
              refine gq_if_neT (tgt := 56) hX dX5_readsCommittee_51 rfl (by decide) ?_
              refine gq_aload_n hX dX5_readsCommittee_56 rfl rfl rfl ?_
              refine gq_bipush (v := nI 101) hX dX5_readsCommittee_57 rfl (by decide) ?_
              rcases Bool.eq_false_or_eq_true (nx l (a + 1 + 1 + 1 + 1 + 1 + 1) 101) with h7 | h7
              · refine gq_callVe hX dX5_readsCommittee_59 rfl vX5_248 (mp_reads_y hb (T := T) (N := N) (s := s) (a := a + 1 + 1 + 1 + 1 + 1 + 1) ht (by omega) h7) rfl (mqR0 hb) rfl rfl (Nat.le_of_ble_eq_true rfl) ⟨(Nat.le_of_ble_eq_true rfl), (Nat.le_of_ble_eq_true rfl)⟩ (Nat.zero_add _) (Nat.zero_add _) ?_
                refine gq_if_eqF (tgt := 95) hX dX5_readsCommittee_62 rfl rfl (by decide) ?_
                refine gq_aload_n hX dX5_readsCommittee_65 rfl rfl rfl ?_
                refine gq_bipush (v := nI 101) hX dX5_readsCommittee_66 rfl (by decide) ?_
                rcases Bool.eq_false_or_eq_true (nx l (a + 1 + 1 + 1 + 1 + 1 + 1 + 1) 101) with h8 | h8
                · refine gq_callVe hX dX5_readsCommittee_68 rfl vX5_248 (mp_reads_y hb (T := T) (N := N) (s := s) (a := a + 1 + 1 + 1 + 1 + 1 + 1 + 1) ht (by omega) h8) rfl (mqR0 hb) rfl rfl (Nat.le_of_ble_eq_true rfl) ⟨(Nat.le_of_ble_eq_true rfl), (Nat.le_of_ble_eq_true rfl)⟩ (Nat.zero_add _) (Nat.zero_add _) ?_
                  refine gq_if_eqF (tgt := 95) hX dX5_readsCommittee_71 rfl rfl (by decide) ?_
                  refine gq_aload_n hX dX5_readsCommittee_74 rfl rfl rfl ?_
                  refine gq_bipush (v := nI 32) hX dX5_readsCommittee_75 rfl (by decide) ?_
                  rcases Bool.eq_false_or_eq_true (nx l (a + 1 + 1 + 1 + 1 + 1 + 1 + 1 + 1) 32) with h9 | h9
                  · refine gq_callVe hX dX5_readsCommittee_77 rfl vX5_248 (mp_reads_y hb (T := T) (N := N) (s := s) (a := a + 1 + 1 + 1 + 1 + 1 + 1 + 1 + 1) ht (by omega) h9) rfl (mqR0 hb) rfl rfl (Nat.le_of_ble_eq_true rfl) ⟨(Nat.le_of_ble_eq_true rfl), (Nat.le_of_ble_eq_true rfl)⟩ (Nat.zero_add _) (Nat.zero_add _) ?_
                    refine gq_if_eqF (tgt := 95) hX dX5_readsCommittee_80 rfl rfl (by decide) ?_
                    refine gq_aload_n hX dX5_readsCommittee_83 rfl rfl rfl ?_
                    refine gq_iconst (v := nI 0) hX dX5_readsCommittee_84 rfl (by decide) ?_
                    by_cases h10 : dgt l (a + 1 + 1 + 1 + 1 + 1 + 1 + 1 + 1 + 1) = true
                    · refine gq_callVe hX dX5_readsCommittee_85 rfl vX5_245 (mp_dig_y hb (T := T) (N := N) (s := s) (a := a + 1 + 1 + 1 + 1 + 1 + 1 + 1 + 1 + 1) ht (by omega) (by decide) h10) rfl (mqR0 hb) rfl rfl (Nat.le_of_ble_eq_true rfl) ⟨(Nat.le_of_ble_eq_true rfl), (Nat.le_of_ble_eq_true rfl)⟩ (Nat.zero_add _) (Nat.zero_add _) ?_
                      refine gq_if_eqF (tgt := 95) hX dX5_readsCommittee_88 rfl rfl (by decide) ?_
                      refine gq_iconst (v := nI 1) hX dX5_readsCommittee_91 rfl (by decide) ?_
                      refine gq_goto (tgt := 96) hX dX5_readsCommittee_92 rfl ?_
                      have hr : mG l (frmN 0) 10 1 a = (true, a + 1 + 1 + 1 + 1 + 1 + 1 + 1 + 1 + 1 + 1, [l.1 (a + 1 + 1 + 1 + 1 + 1 + 1 + 1 + 1 + 1) - 48]) := (mG_y rfl (by decide) (by decide) h1).trans ((mG_y rfl (by decide) (by decide) h2).trans ((mG_y rfl (by decide) (by decide) h3).trans ((mG_y rfl (by decide) (by decide) h4).trans ((mG_y rfl (by decide) (by decide) h5).trans ((mG_y rfl (by decide) (by decide) h6).trans ((mG_y rfl (by decide) (by decide) h7).trans ((mG_y rfl (by decide) (by decide) h8).trans ((mG_y rfl (by decide) (by decide) h9).trans (mG_dy rfl (dgm1_y h10) (rfl))))))))))
                      refine gq_zret hX hQ dX5_readsCommittee_96 rfl rfl ?_
                      unfold RdR
                      rw [hr]
                      exact ⟨rfl, (upd N 0 (nI (l.1 (a + 1 + 1 + 1 + 1 + 1 + 1 + 1 + 1 + 1) - 48))), s, rfl, fun _ => ⟨rfl, fun q hq => match q, hq with | 0, _ => upd_s _ _ _ | _ + 1, h => absurd h (by simp)⟩⟩
                    · refine gq_callVe hX dX5_readsCommittee_85 rfl vX5_245 (mp_dig_n hb (T := T) (N := N) (s := s) (a := a + 1 + 1 + 1 + 1 + 1 + 1 + 1 + 1 + 1) ht (by omega) h10) rfl (mqR0 hb) rfl rfl (Nat.le_of_ble_eq_true rfl) ⟨(Nat.le_of_ble_eq_true rfl), (Nat.le_of_ble_eq_true rfl)⟩ (Nat.zero_add _) (Nat.zero_add _) ?_
                      refine gq_if_eqT (tgt := 95) hX dX5_readsCommittee_88 rfl rfl ?_
                      refine gq_iconst (v := nI 0) hX dX5_readsCommittee_95 rfl (by decide) ?_
                      have hr : (mG l (frmN 0) 10 1 a).1 = false ∧ (mG l (frmN 0) 10 1 a).2.1 = a + 1 + 1 + 1 + 1 + 1 + 1 + 1 + 1 + 1 := by rw [(mG_y rfl (by decide) (by decide) h1).trans ((mG_y rfl (by decide) (by decide) h2).trans ((mG_y rfl (by decide) (by decide) h3).trans ((mG_y rfl (by decide) (by decide) h4).trans ((mG_y rfl (by decide) (by decide) h5).trans ((mG_y rfl (by decide) (by decide) h6).trans ((mG_y rfl (by decide) (by decide) h7).trans ((mG_y rfl (by decide) (by decide) h8).trans ((mG_y rfl (by decide) (by decide) h9).trans (mG_dn rfl (dgm1_n h10))))))))))]; exact ⟨rfl, rfl⟩
                      refine gq_zret hX hQ dX5_readsCommittee_96 rfl rfl ?_
                      unfold RdR
                      rw [hr.1, hr.2]
                      exact ⟨rfl, N, s, rfl, fun h => by cases h⟩
                  · refine gq_callVe hX dX5_readsCommittee_77 rfl vX5_248 (mp_reads_n hb (T := T) (N := N) (s := s) (a := a + 1 + 1 + 1 + 1 + 1 + 1 + 1 + 1) ht (by omega) (by decide) h9) rfl (mqR0 hb) rfl rfl (Nat.le_of_ble_eq_true rfl) ⟨(Nat.le_of_ble_eq_true rfl), (Nat.le_of_ble_eq_true rfl)⟩ (Nat.zero_add _) (Nat.zero_add _) ?_
                    refine gq_if_eqT (tgt := 95) hX dX5_readsCommittee_80 rfl rfl ?_
                    refine gq_iconst (v := nI 0) hX dX5_readsCommittee_95 rfl (by decide) ?_
                    have hr : (mG l (frmN 0) 10 1 a).1 = false ∧ (mG l (frmN 0) 10 1 a).2.1 = a + 1 + 1 + 1 + 1 + 1 + 1 + 1 + 1 := by rw [(mG_y rfl (by decide) (by decide) h1).trans ((mG_y rfl (by decide) (by decide) h2).trans ((mG_y rfl (by decide) (by decide) h3).trans ((mG_y rfl (by decide) (by decide) h4).trans ((mG_y rfl (by decide) (by decide) h5).trans ((mG_y rfl (by decide) (by decide) h6).trans ((mG_y rfl (by decide) (by decide) h7).trans ((mG_y rfl (by decide) (by decide) h8).trans (mG_n rfl (by decide) (by decide) h9))))))))]; exact ⟨rfl, rfl⟩
                    refine gq_zret hX hQ dX5_readsCommittee_96 rfl rfl ?_
                    unfold RdR
                    rw [hr.1, hr.2]
                    exact ⟨rfl, N, s, rfl, fun h => by cases h⟩
                · refine gq_callVe hX dX5_readsCommittee_68 rfl vX5_248 (mp_reads_n hb (T := T) (N := N) (s := s) (a := a + 1 + 1 + 1 + 1 + 1 + 1 + 1) ht (by omega) (by decide) h8) rfl (mqR0 hb) rfl rfl (Nat.le_of_ble_eq_true rfl) ⟨(Nat.le_of_ble_eq_true rfl), (Nat.le_of_ble_eq_true rfl)⟩ (Nat.zero_add _) (Nat.zero_add _) ?_
                  refine gq_if_eqT (tgt := 95) hX dX5_readsCommittee_71 rfl rfl ?_
                  refine gq_iconst (v := nI 0) hX dX5_readsCommittee_95 rfl (by decide) ?_
                  have hr : (mG l (frmN 0) 10 1 a).1 = false ∧ (mG l (frmN 0) 10 1 a).2.1 = a + 1 + 1 + 1 + 1 + 1 + 1 + 1 := by rw [(mG_y rfl (by decide) (by decide) h1).trans ((mG_y rfl (by decide) (by decide) h2).trans ((mG_y rfl (by decide) (by decide) h3).trans ((mG_y rfl (by decide) (by decide) h4).trans ((mG_y rfl (by decide) (by decide) h5).trans ((mG_y rfl (by decide) (by decide) h6).trans ((mG_y rfl (by decide) (by decide) h7).trans (mG_n rfl (by decide) (by decide) h8)))))))]; exact ⟨rfl, rfl⟩
                  refine gq_zret hX hQ dX5_readsCommittee_96 rfl rfl ?_
                  unfold RdR
                  rw [hr.1, hr.2]
                  exact ⟨rfl, N, s, rfl, fun h => by cases h⟩
              · refine gq_callVe hX dX5_readsCommittee_59 rfl vX5_248 (mp_reads_n hb (T := T) (N := N) (s := s) (a := a + 1 + 1 + 1 + 1 + 1 + 1) ht (by omega) (by decide) h7) rfl (mqR0 hb) rfl rfl (Nat.le_of_ble_eq_true rfl) ⟨(Nat.le_of_ble_eq_true rfl), (Nat.le_of_ble_eq_true rfl)⟩ (Nat.zero_add _) (Nat.zero_add _) ?_
                refine gq_if_eqT (tgt := 95) hX dX5_readsCommittee_62 rfl rfl ?_
                refine gq_iconst (v := nI 0) hX dX5_readsCommittee_95 rfl (by decide) ?_
                have hr : (mG l (frmN 0) 10 1 a).1 = false ∧ (mG l (frmN 0) 10 1 a).2.1 = a + 1 + 1 + 1 + 1 + 1 + 1 := by rw [(mG_y rfl (by decide) (by decide) h1).trans ((mG_y rfl (by decide) (by decide) h2).trans ((mG_y rfl (by decide) (by decide) h3).trans ((mG_y rfl (by decide) (by decide) h4).trans ((mG_y rfl (by decide) (by decide) h5).trans ((mG_y rfl (by decide) (by decide) h6).trans (mG_n rfl (by decide) (by decide) h7))))))]; exact ⟨rfl, rfl⟩
                refine gq_zret hX hQ dX5_readsCommittee_96 rfl rfl ?_
                unfold RdR
                rw [hr.1, hr.2]
                exact ⟨rfl, N, s, rfl, fun h => by cases h⟩
            · refine gq_callVe hX dX5_readsCommittee_48 rfl vX5_248 (mp_reads_n hb (T := T) (N := N) (s := s) (a := a + 1 + 1 + 1 + 1 + 1) ht (by omega) (by decide) h6) rfl (mqR0 hb) rfl rfl (Nat.le_of_ble_eq_true rfl) ⟨(Nat.le_of_ble_eq_true rfl), (Nat.le_of_ble_eq_true rfl)⟩ (Nat.zero_add _) (Nat.zero_add _) ?_
              refine gq_if_neF (tgt := 56) hX dX5_readsCommittee_51 rfl rfl rfl ?_
              refine gq_iconst (v := nI 0) hX dX5_readsCommittee_54 rfl (by decide) ?_
              have hr : (mG l (frmN 0) 10 1 a).1 = false ∧ (mG l (frmN 0) 10 1 a).2.1 = a + 1 + 1 + 1 + 1 + 1 := by rw [(mG_y rfl (by decide) (by decide) h1).trans ((mG_y rfl (by decide) (by decide) h2).trans ((mG_y rfl (by decide) (by decide) h3).trans ((mG_y rfl (by decide) (by decide) h4).trans ((mG_y rfl (by decide) (by decide) h5).trans (mG_n rfl (by decide) (by decide) h6)))))]; exact ⟨rfl, rfl⟩
              refine gq_zret hX hQ dX5_readsCommittee_55 rfl rfl ?_
              unfold RdR
              rw [hr.1, hr.2]
              exact ⟨rfl, N, s, rfl, fun h => by cases h⟩
          · refine gq_callVe hX dX5_readsCommittee_39 rfl vX5_248 (mp_reads_n hb (T := T) (N := N) (s := s) (a := a + 1 + 1 + 1 + 1) ht (by omega) (by decide) h5) rfl (mqR0 hb) rfl rfl (Nat.le_of_ble_eq_true rfl) ⟨(Nat.le_of_ble_eq_true rfl), (Nat.le_of_ble_eq_true rfl)⟩ (Nat.zero_add _) (Nat.zero_add _) ?_
            refine gq_if_eqT (tgt := 54) hX dX5_readsCommittee_42 rfl rfl ?_
            refine gq_iconst (v := nI 0) hX dX5_readsCommittee_54 rfl (by decide) ?_
            have hr : (mG l (frmN 0) 10 1 a).1 = false ∧ (mG l (frmN 0) 10 1 a).2.1 = a + 1 + 1 + 1 + 1 := by rw [(mG_y rfl (by decide) (by decide) h1).trans ((mG_y rfl (by decide) (by decide) h2).trans ((mG_y rfl (by decide) (by decide) h3).trans ((mG_y rfl (by decide) (by decide) h4).trans (mG_n rfl (by decide) (by decide) h5))))]; exact ⟨rfl, rfl⟩
            refine gq_zret hX hQ dX5_readsCommittee_55 rfl rfl ?_
            unfold RdR
            rw [hr.1, hr.2]
            exact ⟨rfl, N, s, rfl, fun h => by cases h⟩
        · refine gq_callVe hX dX5_readsCommittee_30 rfl vX5_248 (mp_reads_n hb (T := T) (N := N) (s := s) (a := a + 1 + 1 + 1) ht (by omega) (by decide) h4) rfl (mqR0 hb) rfl rfl (Nat.le_of_ble_eq_true rfl) ⟨(Nat.le_of_ble_eq_true rfl), (Nat.le_of_ble_eq_true rfl)⟩ (Nat.zero_add _) (Nat.zero_add _) ?_
          refine gq_if_eqT (tgt := 54) hX dX5_readsCommittee_33 rfl rfl ?_
          refine gq_iconst (v := nI 0) hX dX5_readsCommittee_54 rfl (by decide) ?_
          have hr : (mG l (frmN 0) 10 1 a).1 = false ∧ (mG l (frmN 0) 10 1 a).2.1 = a + 1 + 1 + 1 := by rw [(mG_y rfl (by decide) (by decide) h1).trans ((mG_y rfl (by decide) (by decide) h2).trans ((mG_y rfl (by decide) (by decide) h3).trans (mG_n rfl (by decide) (by decide) h4)))]; exact ⟨rfl, rfl⟩
          refine gq_zret hX hQ dX5_readsCommittee_55 rfl rfl ?_
          unfold RdR
          rw [hr.1, hr.2]
          exact ⟨rfl, N, s, rfl, fun h => by cases h⟩
      · refine gq_callVe hX dX5_readsCommittee_21 rfl vX5_248 (mp_reads_n hb (T := T) (N := N) (s := s) (a := a + 1 + 1) ht (by omega) (by decide) h3) rfl (mqR0 hb) rfl rfl (Nat.le_of_ble_eq_true rfl) ⟨(Nat.le_of_ble_eq_true rfl), (Nat.le_of_ble_eq_true rfl)⟩ (Nat.zero_add _) (Nat.zero_add _) ?_
        refine gq_if_eqT (tgt := 54) hX dX5_readsCommittee_24 rfl rfl ?_
        refine gq_iconst (v := nI 0) hX dX5_readsCommittee_54 rfl (by decide) ?_
        have hr : (mG l (frmN 0) 10 1 a).1 = false ∧ (mG l (frmN 0) 10 1 a).2.1 = a + 1 + 1 := by rw [(mG_y rfl (by decide) (by decide) h1).trans ((mG_y rfl (by decide) (by decide) h2).trans (mG_n rfl (by decide) (by decide) h3))]; exact ⟨rfl, rfl⟩
        refine gq_zret hX hQ dX5_readsCommittee_55 rfl rfl ?_
        unfold RdR
        rw [hr.1, hr.2]
        exact ⟨rfl, N, s, rfl, fun h => by cases h⟩
    · refine gq_callVe hX dX5_readsCommittee_12 rfl vX5_248 (mp_reads_n hb (T := T) (N := N) (s := s) (a := a + 1) ht (by omega) (by decide) h2) rfl (mqR0 hb) rfl rfl (Nat.le_of_ble_eq_true rfl) ⟨(Nat.le_of_ble_eq_true rfl), (Nat.le_of_ble_eq_true rfl)⟩ (Nat.zero_add _) (Nat.zero_add _) ?_
      refine gq_if_eqT (tgt := 54) hX dX5_readsCommittee_15 rfl rfl ?_
      refine gq_iconst (v := nI 0) hX dX5_readsCommittee_54 rfl (by decide) ?_
      have hr : (mG l (frmN 0) 10 1 a).1 = false ∧ (mG l (frmN 0) 10 1 a).2.1 = a + 1 := by rw [(mG_y rfl (by decide) (by decide) h1).trans (mG_n rfl (by decide) (by decide) h2)]; exact ⟨rfl, rfl⟩
      refine gq_zret hX hQ dX5_readsCommittee_55 rfl rfl ?_
      unfold RdR
      rw [hr.1, hr.2]
      exact ⟨rfl, N, s, rfl, fun h => by cases h⟩
  · refine gq_callVe hX dX5_readsCommittee_3 rfl vX5_248 (mp_reads_n hb (T := T) (N := N) (s := s) (a := a) ht (by omega) (by decide) h1) rfl (mqR0 hb) rfl rfl (Nat.le_of_ble_eq_true rfl) ⟨(Nat.le_of_ble_eq_true rfl), (Nat.le_of_ble_eq_true rfl)⟩ (Nat.zero_add _) (Nat.zero_add _) ?_
    refine gq_if_eqT (tgt := 54) hX dX5_readsCommittee_6 rfl rfl ?_
    refine gq_iconst (v := nI 0) hX dX5_readsCommittee_54 rfl (by decide) ?_
    have hr : (mG l (frmN 0) 10 1 a).1 = false ∧ (mG l (frmN 0) 10 1 a).2.1 = a := by rw [mG_n rfl (by decide) (by decide) h1]; exact ⟨rfl, rfl⟩
    refine gq_zret hX hQ dX5_readsCommittee_55 rfl rfl ?_
    unfold RdR
    rw [hr.1, hr.2]
    exact ⟨rfl, N, s, rfl, fun h => by cases h⟩

set_option maxRecDepth 100000 in
set_option maxHeartbeats 4000000 in
theorem mp_rdL {E : Ev} {b : Nat → Nat} {T : St} {w : Nat → Int32} {N : Nat → Int32} {s : Int32} {M : Hp} (hb : Lay E 9 b) {l : Ln} (ht : TxP T l) {a : Nat} (ha : a < 1000) (ha9 : a < 100)  : Ct E mX5_readsLaunch [.ref (b 0)] (MdW E b (rdT T N a s) w M) (RdR E b T w M (mG l (frmN 3) 7 1 a) s) 0 0 := by
  refine Ct.of gmX5_readsLaunch (ls := [.ref (b 0)]) rfl rfl (Nat.le_of_ble_eq_true rfl) ?_
  intro X hX Q hQ
  have hl60 := ht.2.1
  refine gq_aload_n hX dX5_readsLaunch_0 rfl rfl rfl ?_
  refine gq_bipush (v := nI 97) hX dX5_readsLaunch_1 rfl (by decide) ?_
  rcases Bool.eq_false_or_eq_true (nx l (a) 97) with h11 | h11
  · refine gq_callVe hX dX5_readsLaunch_3 rfl vX5_248 (mp_reads_y hb (T := T) (N := N) (s := s) (a := a) ht (by omega) h11) rfl (mqR0 hb) rfl rfl (Nat.le_of_ble_eq_true rfl) ⟨(Nat.le_of_ble_eq_true rfl), (Nat.le_of_ble_eq_true rfl)⟩ (Nat.zero_add _) (Nat.zero_add _) ?_
    refine gq_if_eqF (tgt := 66) hX dX5_readsLaunch_6 rfl rfl (by decide) ?_
    refine gq_aload_n hX dX5_readsLaunch_9 rfl rfl rfl ?_
    refine gq_bipush (v := nI 117) hX dX5_readsLaunch_10 rfl (by decide) ?_
    rcases Bool.eq_false_or_eq_true (nx l (a + 1) 117) with h12 | h12
    · refine gq_callVe hX dX5_readsLaunch_12 rfl vX5_248 (mp_reads_y hb (T := T) (N := N) (s := s) (a := a + 1) ht (by omega) h12) rfl (mqR0 hb) rfl rfl (Nat.le_of_ble_eq_true rfl) ⟨(Nat.le_of_ble_eq_true rfl), (Nat.le_of_ble_eq_true rfl)⟩ (Nat.zero_add _) (Nat.zero_add _) ?_
      refine gq_if_eqF (tgt := 66) hX dX5_readsLaunch_15 rfl rfl (by decide) ?_
      refine gq_aload_n hX dX5_readsLaunch_18 rfl rfl rfl ?_
      refine gq_bipush (v := nI 110) hX dX5_readsLaunch_19 rfl (by decide) ?_
      rcases Bool.eq_false_or_eq_true (nx l (a + 1 + 1) 110) with h13 | h13
      · refine gq_callVe hX dX5_readsLaunch_21 rfl vX5_248 (mp_reads_y hb (T := T) (N := N) (s := s) (a := a + 1 + 1) ht (by omega) h13) rfl (mqR0 hb) rfl rfl (Nat.le_of_ble_eq_true rfl) ⟨(Nat.le_of_ble_eq_true rfl), (Nat.le_of_ble_eq_true rfl)⟩ (Nat.zero_add _) (Nat.zero_add _) ?_
        refine gq_if_eqF (tgt := 66) hX dX5_readsLaunch_24 rfl rfl (by decide) ?_
        refine gq_aload_n hX dX5_readsLaunch_27 rfl rfl rfl ?_
        refine gq_bipush (v := nI 99) hX dX5_readsLaunch_28 rfl (by decide) ?_
        rcases Bool.eq_false_or_eq_true (nx l (a + 1 + 1 + 1) 99) with h14 | h14
        · refine gq_callVe hX dX5_readsLaunch_30 rfl vX5_248 (mp_reads_y hb (T := T) (N := N) (s := s) (a := a + 1 + 1 + 1) ht (by omega) h14) rfl (mqR0 hb) rfl rfl (Nat.le_of_ble_eq_true rfl) ⟨(Nat.le_of_ble_eq_true rfl), (Nat.le_of_ble_eq_true rfl)⟩ (Nat.zero_add _) (Nat.zero_add _) ?_
          refine gq_if_eqF (tgt := 66) hX dX5_readsLaunch_33 rfl rfl (by decide) ?_
          refine gq_aload_n hX dX5_readsLaunch_36 rfl rfl rfl ?_
          refine gq_bipush (v := nI 104) hX dX5_readsLaunch_37 rfl (by decide) ?_
          rcases Bool.eq_false_or_eq_true (nx l (a + 1 + 1 + 1 + 1) 104) with h15 | h15
          · refine gq_callVe hX dX5_readsLaunch_39 rfl vX5_248 (mp_reads_y hb (T := T) (N := N) (s := s) (a := a + 1 + 1 + 1 + 1) ht (by omega) h15) rfl (mqR0 hb) rfl rfl (Nat.le_of_ble_eq_true rfl) ⟨(Nat.le_of_ble_eq_true rfl), (Nat.le_of_ble_eq_true rfl)⟩ (Nat.zero_add _) (Nat.zero_add _) ?_
            refine gq_if_eqF (tgt := 66) hX dX5_readsLaunch_42 rfl rfl (by decide) ?_
            refine gq_aload_n hX dX5_readsLaunch_45 rfl rfl rfl ?_
            refine gq_bipush (v := nI 32) hX dX5_readsLaunch_46 rfl (by decide) ?_
            rcases Bool.eq_false_or_eq_true (nx l (a + 1 + 1 + 1 + 1 + 1) 32) with h16 | h16
            · refine gq_callVe hX dX5_readsLaunch_48 rfl vX5_248 (mp_reads_y hb (T := T) (N := N) (s := s) (a := a + 1 + 1 + 1 + 1 + 1) ht (by omega) h16) rfl (mqR0 hb) rfl rfl (Nat.le_of_ble_eq_true rfl) ⟨(Nat.le_of_ble_eq_true rfl), (Nat.le_of_ble_eq_true rfl)⟩ (Nat.zero_add _) (Nat.zero_add _) ?_
              refine gq_if_eqF (tgt := 66) hX dX5_readsLaunch_51 rfl rfl (by decide) ?_
              refine gq_aload_n hX dX5_readsLaunch_54 rfl rfl rfl ?_
              refine gq_iconst (v := nI 0) hX dX5_readsLaunch_55 rfl (by decide) ?_
              by_cases h17 : dgt l (a + 1 + 1 + 1 + 1 + 1 + 1) = true
              · refine gq_callVe hX dX5_readsLaunch_56 rfl vX5_245 (mp_dig_y hb (T := T) (N := N) (s := s) (a := a + 1 + 1 + 1 + 1 + 1 + 1) ht (by omega) (by decide) h17) rfl (mqR0 hb) rfl rfl (Nat.le_of_ble_eq_true rfl) ⟨(Nat.le_of_ble_eq_true rfl), (Nat.le_of_ble_eq_true rfl)⟩ (Nat.zero_add _) (Nat.zero_add _) ?_
                refine gq_if_eqF (tgt := 66) hX dX5_readsLaunch_59 rfl rfl (by decide) ?_
                refine gq_iconst (v := nI 1) hX dX5_readsLaunch_62 rfl (by decide) ?_
                refine gq_goto (tgt := 67) hX dX5_readsLaunch_63 rfl ?_
                have hr : mG l (frmN 3) 7 1 a = (true, a + 1 + 1 + 1 + 1 + 1 + 1 + 1, [l.1 (a + 1 + 1 + 1 + 1 + 1 + 1) - 48]) := (mG_y rfl (by decide) (by decide) h11).trans ((mG_y rfl (by decide) (by decide) h12).trans ((mG_y rfl (by decide) (by decide) h13).trans ((mG_y rfl (by decide) (by decide) h14).trans ((mG_y rfl (by decide) (by decide) h15).trans ((mG_y rfl (by decide) (by decide) h16).trans (mG_dy rfl (dgm1_y h17) (rfl)))))))
                refine gq_zret hX hQ dX5_readsLaunch_67 rfl rfl ?_
                unfold RdR
                rw [hr]
                exact ⟨rfl, (upd N 0 (nI (l.1 (a + 1 + 1 + 1 + 1 + 1 + 1) - 48))), s, rfl, fun _ => ⟨rfl, fun q hq => match q, hq with | 0, _ => upd_s _ _ _ | _ + 1, h => absurd h (by simp)⟩⟩
              · refine gq_callVe hX dX5_readsLaunch_56 rfl vX5_245 (mp_dig_n hb (T := T) (N := N) (s := s) (a := a + 1 + 1 + 1 + 1 + 1 + 1) ht (by omega) h17) rfl (mqR0 hb) rfl rfl (Nat.le_of_ble_eq_true rfl) ⟨(Nat.le_of_ble_eq_true rfl), (Nat.le_of_ble_eq_true rfl)⟩ (Nat.zero_add _) (Nat.zero_add _) ?_
                refine gq_if_eqT (tgt := 66) hX dX5_readsLaunch_59 rfl rfl ?_
                refine gq_iconst (v := nI 0) hX dX5_readsLaunch_66 rfl (by decide) ?_
                have hr : (mG l (frmN 3) 7 1 a).1 = false ∧ (mG l (frmN 3) 7 1 a).2.1 = a + 1 + 1 + 1 + 1 + 1 + 1 := by rw [(mG_y rfl (by decide) (by decide) h11).trans ((mG_y rfl (by decide) (by decide) h12).trans ((mG_y rfl (by decide) (by decide) h13).trans ((mG_y rfl (by decide) (by decide) h14).trans ((mG_y rfl (by decide) (by decide) h15).trans ((mG_y rfl (by decide) (by decide) h16).trans (mG_dn rfl (dgm1_n h17)))))))]; exact ⟨rfl, rfl⟩
                refine gq_zret hX hQ dX5_readsLaunch_67 rfl rfl ?_
                unfold RdR
                rw [hr.1, hr.2]
                exact ⟨rfl, N, s, rfl, fun h => by cases h⟩
            · refine gq_callVe hX dX5_readsLaunch_48 rfl vX5_248 (mp_reads_n hb (T := T) (N := N) (s := s) (a := a + 1 + 1 + 1 + 1 + 1) ht (by omega) (by decide) h16) rfl (mqR0 hb) rfl rfl (Nat.le_of_ble_eq_true rfl) ⟨(Nat.le_of_ble_eq_true rfl), (Nat.le_of_ble_eq_true rfl)⟩ (Nat.zero_add _) (Nat.zero_add _) ?_
              refine gq_if_eqT (tgt := 66) hX dX5_readsLaunch_51 rfl rfl ?_
              refine gq_iconst (v := nI 0) hX dX5_readsLaunch_66 rfl (by decide) ?_
              have hr : (mG l (frmN 3) 7 1 a).1 = false ∧ (mG l (frmN 3) 7 1 a).2.1 = a + 1 + 1 + 1 + 1 + 1 := by rw [(mG_y rfl (by decide) (by decide) h11).trans ((mG_y rfl (by decide) (by decide) h12).trans ((mG_y rfl (by decide) (by decide) h13).trans ((mG_y rfl (by decide) (by decide) h14).trans ((mG_y rfl (by decide) (by decide) h15).trans (mG_n rfl (by decide) (by decide) h16)))))]; exact ⟨rfl, rfl⟩
              refine gq_zret hX hQ dX5_readsLaunch_67 rfl rfl ?_
              unfold RdR
              rw [hr.1, hr.2]
              exact ⟨rfl, N, s, rfl, fun h => by cases h⟩
          · refine gq_callVe hX dX5_readsLaunch_39 rfl vX5_248 (mp_reads_n hb (T := T) (N := N) (s := s) (a := a + 1 + 1 + 1 + 1) ht (by omega) (by decide) h15) rfl (mqR0 hb) rfl rfl (Nat.le_of_ble_eq_true rfl) ⟨(Nat.le_of_ble_eq_true rfl), (Nat.le_of_ble_eq_true rfl)⟩ (Nat.zero_add _) (Nat.zero_add _) ?_
            refine gq_if_eqT (tgt := 66) hX dX5_readsLaunch_42 rfl rfl ?_
            refine gq_iconst (v := nI 0) hX dX5_readsLaunch_66 rfl (by decide) ?_
            have hr : (mG l (frmN 3) 7 1 a).1 = false ∧ (mG l (frmN 3) 7 1 a).2.1 = a + 1 + 1 + 1 + 1 := by rw [(mG_y rfl (by decide) (by decide) h11).trans ((mG_y rfl (by decide) (by decide) h12).trans ((mG_y rfl (by decide) (by decide) h13).trans ((mG_y rfl (by decide) (by decide) h14).trans (mG_n rfl (by decide) (by decide) h15))))]; exact ⟨rfl, rfl⟩
            refine gq_zret hX hQ dX5_readsLaunch_67 rfl rfl ?_
            unfold RdR
            rw [hr.1, hr.2]
            exact ⟨rfl, N, s, rfl, fun h => by cases h⟩
        · refine gq_callVe hX dX5_readsLaunch_30 rfl vX5_248 (mp_reads_n hb (T := T) (N := N) (s := s) (a := a + 1 + 1 + 1) ht (by omega) (by decide) h14) rfl (mqR0 hb) rfl rfl (Nat.le_of_ble_eq_true rfl) ⟨(Nat.le_of_ble_eq_true rfl), (Nat.le_of_ble_eq_true rfl)⟩ (Nat.zero_add _) (Nat.zero_add _) ?_
          refine gq_if_eqT (tgt := 66) hX dX5_readsLaunch_33 rfl rfl ?_
          refine gq_iconst (v := nI 0) hX dX5_readsLaunch_66 rfl (by decide) ?_
          have hr : (mG l (frmN 3) 7 1 a).1 = false ∧ (mG l (frmN 3) 7 1 a).2.1 = a + 1 + 1 + 1 := by rw [(mG_y rfl (by decide) (by decide) h11).trans ((mG_y rfl (by decide) (by decide) h12).trans ((mG_y rfl (by decide) (by decide) h13).trans (mG_n rfl (by decide) (by decide) h14)))]; exact ⟨rfl, rfl⟩
          refine gq_zret hX hQ dX5_readsLaunch_67 rfl rfl ?_
          unfold RdR
          rw [hr.1, hr.2]
          exact ⟨rfl, N, s, rfl, fun h => by cases h⟩
      · refine gq_callVe hX dX5_readsLaunch_21 rfl vX5_248 (mp_reads_n hb (T := T) (N := N) (s := s) (a := a + 1 + 1) ht (by omega) (by decide) h13) rfl (mqR0 hb) rfl rfl (Nat.le_of_ble_eq_true rfl) ⟨(Nat.le_of_ble_eq_true rfl), (Nat.le_of_ble_eq_true rfl)⟩ (Nat.zero_add _) (Nat.zero_add _) ?_
        refine gq_if_eqT (tgt := 66) hX dX5_readsLaunch_24 rfl rfl ?_
        refine gq_iconst (v := nI 0) hX dX5_readsLaunch_66 rfl (by decide) ?_
        have hr : (mG l (frmN 3) 7 1 a).1 = false ∧ (mG l (frmN 3) 7 1 a).2.1 = a + 1 + 1 := by rw [(mG_y rfl (by decide) (by decide) h11).trans ((mG_y rfl (by decide) (by decide) h12).trans (mG_n rfl (by decide) (by decide) h13))]; exact ⟨rfl, rfl⟩
        refine gq_zret hX hQ dX5_readsLaunch_67 rfl rfl ?_
        unfold RdR
        rw [hr.1, hr.2]
        exact ⟨rfl, N, s, rfl, fun h => by cases h⟩
    · refine gq_callVe hX dX5_readsLaunch_12 rfl vX5_248 (mp_reads_n hb (T := T) (N := N) (s := s) (a := a + 1) ht (by omega) (by decide) h12) rfl (mqR0 hb) rfl rfl (Nat.le_of_ble_eq_true rfl) ⟨(Nat.le_of_ble_eq_true rfl), (Nat.le_of_ble_eq_true rfl)⟩ (Nat.zero_add _) (Nat.zero_add _) ?_
      refine gq_if_eqT (tgt := 66) hX dX5_readsLaunch_15 rfl rfl ?_
      refine gq_iconst (v := nI 0) hX dX5_readsLaunch_66 rfl (by decide) ?_
      have hr : (mG l (frmN 3) 7 1 a).1 = false ∧ (mG l (frmN 3) 7 1 a).2.1 = a + 1 := by rw [(mG_y rfl (by decide) (by decide) h11).trans (mG_n rfl (by decide) (by decide) h12)]; exact ⟨rfl, rfl⟩
      refine gq_zret hX hQ dX5_readsLaunch_67 rfl rfl ?_
      unfold RdR
      rw [hr.1, hr.2]
      exact ⟨rfl, N, s, rfl, fun h => by cases h⟩
  · refine gq_callVe hX dX5_readsLaunch_3 rfl vX5_248 (mp_reads_n hb (T := T) (N := N) (s := s) (a := a) ht (by omega) (by decide) h11) rfl (mqR0 hb) rfl rfl (Nat.le_of_ble_eq_true rfl) ⟨(Nat.le_of_ble_eq_true rfl), (Nat.le_of_ble_eq_true rfl)⟩ (Nat.zero_add _) (Nat.zero_add _) ?_
    refine gq_if_eqT (tgt := 66) hX dX5_readsLaunch_6 rfl rfl ?_
    refine gq_iconst (v := nI 0) hX dX5_readsLaunch_66 rfl (by decide) ?_
    have hr : (mG l (frmN 3) 7 1 a).1 = false ∧ (mG l (frmN 3) 7 1 a).2.1 = a := by rw [mG_n rfl (by decide) (by decide) h11]; exact ⟨rfl, rfl⟩
    refine gq_zret hX hQ dX5_readsLaunch_67 rfl rfl ?_
    unfold RdR
    rw [hr.1, hr.2]
    exact ⟨rfl, N, s, rfl, fun h => by cases h⟩

set_option maxRecDepth 100000 in
set_option maxHeartbeats 4000000 in
theorem mp_rdS {E : Ev} {b : Nat → Nat} {T : St} {w : Nat → Int32} {N : Nat → Int32} {s : Int32} {M : Hp} (hb : Lay E 9 b) {l : Ln} (ht : TxP T l) {a : Nat} (ha : a < 1000) (ha9 : a < 100)  : Ct E mX5_readsSecond [.ref (b 0)] (MdW E b (rdT T N a s) w M) (RdR E b T w M (mG l (frmN 7) 9 1 a) s) 0 0 := by
  refine Ct.of gmX5_readsSecond (ls := [.ref (b 0)]) rfl rfl (Nat.le_of_ble_eq_true rfl) ?_
  intro X hX Q hQ
  have hl60 := ht.2.1
  refine gq_aload_n hX dX5_readsSecond_0 rfl rfl rfl ?_
  refine gq_bipush (v := nI 101) hX dX5_readsSecond_1 rfl (by decide) ?_
  rcases Bool.eq_false_or_eq_true (nx l (a) 101) with h18 | h18
  · refine gq_callVe hX dX5_readsSecond_3 rfl vX5_248 (mp_reads_y hb (T := T) (N := N) (s := s) (a := a) ht (by omega) h18) rfl (mqR0 hb) rfl rfl (Nat.le_of_ble_eq_true rfl) ⟨(Nat.le_of_ble_eq_true rfl), (Nat.le_of_ble_eq_true rfl)⟩ (Nat.zero_add _) (Nat.zero_add _) ?_
    refine gq_if_eqF (tgt := 54) hX dX5_readsSecond_6 rfl rfl (by decide) ?_
    refine gq_aload_n hX dX5_readsSecond_9 rfl rfl rfl ?_
    refine gq_bipush (v := nI 99) hX dX5_readsSecond_10 rfl (by decide) ?_
    rcases Bool.eq_false_or_eq_true (nx l (a + 1) 99) with h19 | h19
    · refine gq_callVe hX dX5_readsSecond_12 rfl vX5_248 (mp_reads_y hb (T := T) (N := N) (s := s) (a := a + 1) ht (by omega) h19) rfl (mqR0 hb) rfl rfl (Nat.le_of_ble_eq_true rfl) ⟨(Nat.le_of_ble_eq_true rfl), (Nat.le_of_ble_eq_true rfl)⟩ (Nat.zero_add _) (Nat.zero_add _) ?_
      refine gq_if_eqF (tgt := 54) hX dX5_readsSecond_15 rfl rfl (by decide) ?_
      refine gq_aload_n hX dX5_readsSecond_18 rfl rfl rfl ?_
      refine gq_bipush (v := nI 111) hX dX5_readsSecond_19 rfl (by decide) ?_
      rcases Bool.eq_false_or_eq_true (nx l (a + 1 + 1) 111) with h20 | h20
      · refine gq_callVe hX dX5_readsSecond_21 rfl vX5_248 (mp_reads_y hb (T := T) (N := N) (s := s) (a := a + 1 + 1) ht (by omega) h20) rfl (mqR0 hb) rfl rfl (Nat.le_of_ble_eq_true rfl) ⟨(Nat.le_of_ble_eq_true rfl), (Nat.le_of_ble_eq_true rfl)⟩ (Nat.zero_add _) (Nat.zero_add _) ?_
        refine gq_if_eqF (tgt := 54) hX dX5_readsSecond_24 rfl rfl (by decide) ?_
        refine gq_aload_n hX dX5_readsSecond_27 rfl rfl rfl ?_
        refine gq_bipush (v := nI 110) hX dX5_readsSecond_28 rfl (by decide) ?_
        rcases Bool.eq_false_or_eq_true (nx l (a + 1 + 1 + 1) 110) with h21 | h21
        · refine gq_callVe hX dX5_readsSecond_30 rfl vX5_248 (mp_reads_y hb (T := T) (N := N) (s := s) (a := a + 1 + 1 + 1) ht (by omega) h21) rfl (mqR0 hb) rfl rfl (Nat.le_of_ble_eq_true rfl) ⟨(Nat.le_of_ble_eq_true rfl), (Nat.le_of_ble_eq_true rfl)⟩ (Nat.zero_add _) (Nat.zero_add _) ?_
          refine gq_if_eqF (tgt := 54) hX dX5_readsSecond_33 rfl rfl (by decide) ?_
          refine gq_aload_n hX dX5_readsSecond_36 rfl rfl rfl ?_
          refine gq_bipush (v := nI 100) hX dX5_readsSecond_37 rfl (by decide) ?_
          rcases Bool.eq_false_or_eq_true (nx l (a + 1 + 1 + 1 + 1) 100) with h22 | h22
          · refine gq_callVe hX dX5_readsSecond_39 rfl vX5_248 (mp_reads_y hb (T := T) (N := N) (s := s) (a := a + 1 + 1 + 1 + 1) ht (by omega) h22) rfl (mqR0 hb) rfl rfl (Nat.le_of_ble_eq_true rfl) ⟨(Nat.le_of_ble_eq_true rfl), (Nat.le_of_ble_eq_true rfl)⟩ (Nat.zero_add _) (Nat.zero_add _) ?_
            refine gq_if_eqF (tgt := 54) hX dX5_readsSecond_42 rfl rfl (by decide) ?_
            refine gq_aload_n hX dX5_readsSecond_45 rfl rfl rfl ?_
            refine gq_bipush (v := nI 32) hX dX5_readsSecond_46 rfl (by decide) ?_
            rcases Bool.eq_false_or_eq_true (nx l (a + 1 + 1 + 1 + 1 + 1) 32) with h23 | h23
            · refine gq_callVe hX dX5_readsSecond_48 rfl vX5_248 (mp_reads_y hb (T := T) (N := N) (s := s) (a := a + 1 + 1 + 1 + 1 + 1) ht (by omega) h23) rfl (mqR0 hb) rfl rfl (Nat.le_of_ble_eq_true rfl) ⟨(Nat.le_of_ble_eq_true rfl), (Nat.le_of_ble_eq_true rfl)⟩ (Nat.zero_add _) (Nat.zero_add _) ?_
              refine gq_if_neT (tgt := 56) hX dX5_readsSecond_51 rfl (by decide) ?_
              refine gq_aload_n hX dX5_readsSecond_56 rfl rfl rfl ?_
              refine gq_iconst (v := nI 0) hX dX5_readsSecond_57 rfl (by decide) ?_
              by_cases h24 : dgt l (a + 1 + 1 + 1 + 1 + 1 + 1) = true
              · refine gq_callVe hX dX5_readsSecond_58 rfl vX5_245 (mp_dig_y hb (T := T) (N := N) (s := s) (a := a + 1 + 1 + 1 + 1 + 1 + 1) ht (by omega) (by decide) h24) rfl (mqR0 hb) rfl rfl (Nat.le_of_ble_eq_true rfl) ⟨(Nat.le_of_ble_eq_true rfl), (Nat.le_of_ble_eq_true rfl)⟩ (Nat.zero_add _) (Nat.zero_add _) ?_
                refine gq_if_eqF (tgt := 85) hX dX5_readsSecond_61 rfl rfl (by decide) ?_
                refine gq_aload_n hX dX5_readsSecond_64 rfl rfl rfl ?_
                refine gq_bipush (v := nI 32) hX dX5_readsSecond_65 rfl (by decide) ?_
                rcases Bool.eq_false_or_eq_true (nx l (a + 1 + 1 + 1 + 1 + 1 + 1 + 1) 32) with h25 | h25
                · refine gq_callVe hX dX5_readsSecond_67 rfl vX5_248 (mp_reads_y hb (T := T) (N := (upd N 0 (nI (l.1 (a + 1 + 1 + 1 + 1 + 1 + 1) - 48)))) (s := s) (a := a + 1 + 1 + 1 + 1 + 1 + 1 + 1) ht (by omega) h25) rfl (mqR0 hb) rfl rfl (Nat.le_of_ble_eq_true rfl) ⟨(Nat.le_of_ble_eq_true rfl), (Nat.le_of_ble_eq_true rfl)⟩ (Nat.zero_add _) (Nat.zero_add _) ?_
                  refine gq_if_eqF (tgt := 85) hX dX5_readsSecond_70 rfl rfl (by decide) ?_
                  refine gq_aload_n hX dX5_readsSecond_73 rfl rfl rfl ?_
                  refine gq_iconst (v := nI 1) hX dX5_readsSecond_74 rfl (by decide) ?_
                  by_cases h26 : dgt l (a + 1 + 1 + 1 + 1 + 1 + 1 + 1 + 1) = true
                  · have dh26 := dgm_le (l := l) (a := a + 1 + 1 + 1 + 1 + 1 + 1 + 1 + 1) 3
                    refine gq_callVe hX dX5_readsSecond_75 rfl vX5_251 (mp_num_y hb (T := T) (N := (upd N 0 (nI (l.1 (a + 1 + 1 + 1 + 1 + 1 + 1) - 48)))) (s := s) (a := a + 1 + 1 + 1 + 1 + 1 + 1 + 1 + 1) ht (by omega) (by decide) h26) rfl (mqR0 hb) rfl rfl (Nat.le_of_ble_eq_true rfl) ⟨(Nat.le_of_ble_eq_true rfl), (Nat.le_of_ble_eq_true rfl)⟩ (Nat.zero_add _) (Nat.zero_add _) ?_
                    refine gq_if_eqF (tgt := 85) hX dX5_readsSecond_78 rfl rfl (by decide) ?_
                    refine gq_iconst (v := nI 1) hX dX5_readsSecond_81 rfl (by decide) ?_
                    refine gq_goto (tgt := 86) hX dX5_readsSecond_82 rfl ?_
                    have hr : mG l (frmN 7) 9 1 a = (true, a + 1 + 1 + 1 + 1 + 1 + 1 + 1 + 1 + dgm l (a + 1 + 1 + 1 + 1 + 1 + 1 + 1 + 1) 3, [l.1 (a + 1 + 1 + 1 + 1 + 1 + 1) - 48, valN l (a + 1 + 1 + 1 + 1 + 1 + 1 + 1 + 1) (dgm l (a + 1 + 1 + 1 + 1 + 1 + 1 + 1 + 1) 3)]) := (mG_y rfl (by decide) (by decide) h18).trans ((mG_y rfl (by decide) (by decide) h19).trans ((mG_y rfl (by decide) (by decide) h20).trans ((mG_y rfl (by decide) (by decide) h21).trans ((mG_y rfl (by decide) (by decide) h22).trans ((mG_y rfl (by decide) (by decide) h23).trans (mG_dy rfl (dgm1_y h24) ((mG_y rfl (by decide) (by decide) h25).trans (mG_Dy rfl rfl (dgm3_y h26) (rfl)))))))))
                    refine gq_zret hX hQ dX5_readsSecond_86 rfl rfl ?_
                    unfold RdR
                    rw [hr]
                    exact ⟨rfl, (upd (upd N 0 (nI (l.1 (a + 1 + 1 + 1 + 1 + 1 + 1) - 48))) 1 (nI (valN l (a + 1 + 1 + 1 + 1 + 1 + 1 + 1 + 1) (dgm l (a + 1 + 1 + 1 + 1 + 1 + 1 + 1 + 1) 3)))), s, rfl, fun _ => ⟨rfl, fun q hq => match q, hq with | 0, _ => (upd_n _ (by decide)).trans (upd_s _ _ _) | 1, _ => upd_s _ _ _ | _ + 2, h => absurd h (by simp)⟩⟩
                  · refine gq_callVe hX dX5_readsSecond_75 rfl vX5_251 (mp_num_n hb (T := T) (N := (upd N 0 (nI (l.1 (a + 1 + 1 + 1 + 1 + 1 + 1) - 48)))) (s := s) (a := a + 1 + 1 + 1 + 1 + 1 + 1 + 1 + 1) ht (by omega) h26) rfl (mqR0 hb) rfl rfl (Nat.le_of_ble_eq_true rfl) ⟨(Nat.le_of_ble_eq_true rfl), (Nat.le_of_ble_eq_true rfl)⟩ (Nat.zero_add _) (Nat.zero_add _) ?_
                    refine gq_if_eqT (tgt := 85) hX dX5_readsSecond_78 rfl rfl ?_
                    refine gq_iconst (v := nI 0) hX dX5_readsSecond_85 rfl (by decide) ?_
                    have hr : (mG l (frmN 7) 9 1 a).1 = false ∧ (mG l (frmN 7) 9 1 a).2.1 = a + 1 + 1 + 1 + 1 + 1 + 1 + 1 + 1 := by rw [(mG_y rfl (by decide) (by decide) h18).trans ((mG_y rfl (by decide) (by decide) h19).trans ((mG_y rfl (by decide) (by decide) h20).trans ((mG_y rfl (by decide) (by decide) h21).trans ((mG_y rfl (by decide) (by decide) h22).trans ((mG_y rfl (by decide) (by decide) h23).trans (mG_dy rfl (dgm1_y h24) ((mG_y rfl (by decide) (by decide) h25).trans (mG_Dn rfl (dgm3_n h26)))))))))]; exact ⟨rfl, rfl⟩
                    refine gq_zret hX hQ dX5_readsSecond_86 rfl rfl ?_
                    unfold RdR
                    rw [hr.1, hr.2]
                    exact ⟨rfl, (upd N 0 (nI (l.1 (a + 1 + 1 + 1 + 1 + 1 + 1) - 48))), s, rfl, fun h => by cases h⟩
                · refine gq_callVe hX dX5_readsSecond_67 rfl vX5_248 (mp_reads_n hb (T := T) (N := (upd N 0 (nI (l.1 (a + 1 + 1 + 1 + 1 + 1 + 1) - 48)))) (s := s) (a := a + 1 + 1 + 1 + 1 + 1 + 1 + 1) ht (by omega) (by decide) h25) rfl (mqR0 hb) rfl rfl (Nat.le_of_ble_eq_true rfl) ⟨(Nat.le_of_ble_eq_true rfl), (Nat.le_of_ble_eq_true rfl)⟩ (Nat.zero_add _) (Nat.zero_add _) ?_
                  refine gq_if_eqT (tgt := 85) hX dX5_readsSecond_70 rfl rfl ?_
                  refine gq_iconst (v := nI 0) hX dX5_readsSecond_85 rfl (by decide) ?_
                  have hr : (mG l (frmN 7) 9 1 a).1 = false ∧ (mG l (frmN 7) 9 1 a).2.1 = a + 1 + 1 + 1 + 1 + 1 + 1 + 1 := by rw [(mG_y rfl (by decide) (by decide) h18).trans ((mG_y rfl (by decide) (by decide) h19).trans ((mG_y rfl (by decide) (by decide) h20).trans ((mG_y rfl (by decide) (by decide) h21).trans ((mG_y rfl (by decide) (by decide) h22).trans ((mG_y rfl (by decide) (by decide) h23).trans (mG_dy rfl (dgm1_y h24) (mG_n rfl (by decide) (by decide) h25)))))))]; exact ⟨rfl, rfl⟩
                  refine gq_zret hX hQ dX5_readsSecond_86 rfl rfl ?_
                  unfold RdR
                  rw [hr.1, hr.2]
                  exact ⟨rfl, (upd N 0 (nI (l.1 (a + 1 + 1 + 1 + 1 + 1 + 1) - 48))), s, rfl, fun h => by cases h⟩
              · refine gq_callVe hX dX5_readsSecond_58 rfl vX5_245 (mp_dig_n hb (T := T) (N := N) (s := s) (a := a + 1 + 1 + 1 + 1 + 1 + 1) ht (by omega) h24) rfl (mqR0 hb) rfl rfl (Nat.le_of_ble_eq_true rfl) ⟨(Nat.le_of_ble_eq_true rfl), (Nat.le_of_ble_eq_true rfl)⟩ (Nat.zero_add _) (Nat.zero_add _) ?_
                refine gq_if_eqT (tgt := 85) hX dX5_readsSecond_61 rfl rfl ?_
                refine gq_iconst (v := nI 0) hX dX5_readsSecond_85 rfl (by decide) ?_
                have hr : (mG l (frmN 7) 9 1 a).1 = false ∧ (mG l (frmN 7) 9 1 a).2.1 = a + 1 + 1 + 1 + 1 + 1 + 1 := by rw [(mG_y rfl (by decide) (by decide) h18).trans ((mG_y rfl (by decide) (by decide) h19).trans ((mG_y rfl (by decide) (by decide) h20).trans ((mG_y rfl (by decide) (by decide) h21).trans ((mG_y rfl (by decide) (by decide) h22).trans ((mG_y rfl (by decide) (by decide) h23).trans (mG_dn rfl (dgm1_n h24)))))))]; exact ⟨rfl, rfl⟩
                refine gq_zret hX hQ dX5_readsSecond_86 rfl rfl ?_
                unfold RdR
                rw [hr.1, hr.2]
                exact ⟨rfl, N, s, rfl, fun h => by cases h⟩
            · refine gq_callVe hX dX5_readsSecond_48 rfl vX5_248 (mp_reads_n hb (T := T) (N := N) (s := s) (a := a + 1 + 1 + 1 + 1 + 1) ht (by omega) (by decide) h23) rfl (mqR0 hb) rfl rfl (Nat.le_of_ble_eq_true rfl) ⟨(Nat.le_of_ble_eq_true rfl), (Nat.le_of_ble_eq_true rfl)⟩ (Nat.zero_add _) (Nat.zero_add _) ?_
              refine gq_if_neF (tgt := 56) hX dX5_readsSecond_51 rfl rfl rfl ?_
              refine gq_iconst (v := nI 0) hX dX5_readsSecond_54 rfl (by decide) ?_
              have hr : (mG l (frmN 7) 9 1 a).1 = false ∧ (mG l (frmN 7) 9 1 a).2.1 = a + 1 + 1 + 1 + 1 + 1 := by rw [(mG_y rfl (by decide) (by decide) h18).trans ((mG_y rfl (by decide) (by decide) h19).trans ((mG_y rfl (by decide) (by decide) h20).trans ((mG_y rfl (by decide) (by decide) h21).trans ((mG_y rfl (by decide) (by decide) h22).trans (mG_n rfl (by decide) (by decide) h23)))))]; exact ⟨rfl, rfl⟩
              refine gq_zret hX hQ dX5_readsSecond_55 rfl rfl ?_
              unfold RdR
              rw [hr.1, hr.2]
              exact ⟨rfl, N, s, rfl, fun h => by cases h⟩
          · refine gq_callVe hX dX5_readsSecond_39 rfl vX5_248 (mp_reads_n hb (T := T) (N := N) (s := s) (a := a + 1 + 1 + 1 + 1) ht (by omega) (by decide) h22) rfl (mqR0 hb) rfl rfl (Nat.le_of_ble_eq_true rfl) ⟨(Nat.le_of_ble_eq_true rfl), (Nat.le_of_ble_eq_true rfl)⟩ (Nat.zero_add _) (Nat.zero_add _) ?_
            refine gq_if_eqT (tgt := 54) hX dX5_readsSecond_42 rfl rfl ?_
            refine gq_iconst (v := nI 0) hX dX5_readsSecond_54 rfl (by decide) ?_
            have hr : (mG l (frmN 7) 9 1 a).1 = false ∧ (mG l (frmN 7) 9 1 a).2.1 = a + 1 + 1 + 1 + 1 := by rw [(mG_y rfl (by decide) (by decide) h18).trans ((mG_y rfl (by decide) (by decide) h19).trans ((mG_y rfl (by decide) (by decide) h20).trans ((mG_y rfl (by decide) (by decide) h21).trans (mG_n rfl (by decide) (by decide) h22))))]; exact ⟨rfl, rfl⟩
            refine gq_zret hX hQ dX5_readsSecond_55 rfl rfl ?_
            unfold RdR
            rw [hr.1, hr.2]
            exact ⟨rfl, N, s, rfl, fun h => by cases h⟩
        · refine gq_callVe hX dX5_readsSecond_30 rfl vX5_248 (mp_reads_n hb (T := T) (N := N) (s := s) (a := a + 1 + 1 + 1) ht (by omega) (by decide) h21) rfl (mqR0 hb) rfl rfl (Nat.le_of_ble_eq_true rfl) ⟨(Nat.le_of_ble_eq_true rfl), (Nat.le_of_ble_eq_true rfl)⟩ (Nat.zero_add _) (Nat.zero_add _) ?_
          refine gq_if_eqT (tgt := 54) hX dX5_readsSecond_33 rfl rfl ?_
          refine gq_iconst (v := nI 0) hX dX5_readsSecond_54 rfl (by decide) ?_
          have hr : (mG l (frmN 7) 9 1 a).1 = false ∧ (mG l (frmN 7) 9 1 a).2.1 = a + 1 + 1 + 1 := by rw [(mG_y rfl (by decide) (by decide) h18).trans ((mG_y rfl (by decide) (by decide) h19).trans ((mG_y rfl (by decide) (by decide) h20).trans (mG_n rfl (by decide) (by decide) h21)))]; exact ⟨rfl, rfl⟩
          refine gq_zret hX hQ dX5_readsSecond_55 rfl rfl ?_
          unfold RdR
          rw [hr.1, hr.2]
          exact ⟨rfl, N, s, rfl, fun h => by cases h⟩
      · refine gq_callVe hX dX5_readsSecond_21 rfl vX5_248 (mp_reads_n hb (T := T) (N := N) (s := s) (a := a + 1 + 1) ht (by omega) (by decide) h20) rfl (mqR0 hb) rfl rfl (Nat.le_of_ble_eq_true rfl) ⟨(Nat.le_of_ble_eq_true rfl), (Nat.le_of_ble_eq_true rfl)⟩ (Nat.zero_add _) (Nat.zero_add _) ?_
        refine gq_if_eqT (tgt := 54) hX dX5_readsSecond_24 rfl rfl ?_
        refine gq_iconst (v := nI 0) hX dX5_readsSecond_54 rfl (by decide) ?_
        have hr : (mG l (frmN 7) 9 1 a).1 = false ∧ (mG l (frmN 7) 9 1 a).2.1 = a + 1 + 1 := by rw [(mG_y rfl (by decide) (by decide) h18).trans ((mG_y rfl (by decide) (by decide) h19).trans (mG_n rfl (by decide) (by decide) h20))]; exact ⟨rfl, rfl⟩
        refine gq_zret hX hQ dX5_readsSecond_55 rfl rfl ?_
        unfold RdR
        rw [hr.1, hr.2]
        exact ⟨rfl, N, s, rfl, fun h => by cases h⟩
    · refine gq_callVe hX dX5_readsSecond_12 rfl vX5_248 (mp_reads_n hb (T := T) (N := N) (s := s) (a := a + 1) ht (by omega) (by decide) h19) rfl (mqR0 hb) rfl rfl (Nat.le_of_ble_eq_true rfl) ⟨(Nat.le_of_ble_eq_true rfl), (Nat.le_of_ble_eq_true rfl)⟩ (Nat.zero_add _) (Nat.zero_add _) ?_
      refine gq_if_eqT (tgt := 54) hX dX5_readsSecond_15 rfl rfl ?_
      refine gq_iconst (v := nI 0) hX dX5_readsSecond_54 rfl (by decide) ?_
      have hr : (mG l (frmN 7) 9 1 a).1 = false ∧ (mG l (frmN 7) 9 1 a).2.1 = a + 1 := by rw [(mG_y rfl (by decide) (by decide) h18).trans (mG_n rfl (by decide) (by decide) h19)]; exact ⟨rfl, rfl⟩
      refine gq_zret hX hQ dX5_readsSecond_55 rfl rfl ?_
      unfold RdR
      rw [hr.1, hr.2]
      exact ⟨rfl, N, s, rfl, fun h => by cases h⟩
  · refine gq_callVe hX dX5_readsSecond_3 rfl vX5_248 (mp_reads_n hb (T := T) (N := N) (s := s) (a := a) ht (by omega) (by decide) h18) rfl (mqR0 hb) rfl rfl (Nat.le_of_ble_eq_true rfl) ⟨(Nat.le_of_ble_eq_true rfl), (Nat.le_of_ble_eq_true rfl)⟩ (Nat.zero_add _) (Nat.zero_add _) ?_
    refine gq_if_eqT (tgt := 54) hX dX5_readsSecond_6 rfl rfl ?_
    refine gq_iconst (v := nI 0) hX dX5_readsSecond_54 rfl (by decide) ?_
    have hr : (mG l (frmN 7) 9 1 a).1 = false ∧ (mG l (frmN 7) 9 1 a).2.1 = a := by rw [mG_n rfl (by decide) (by decide) h18]; exact ⟨rfl, rfl⟩
    refine gq_zret hX hQ dX5_readsSecond_55 rfl rfl ?_
    unfold RdR
    rw [hr.1, hr.2]
    exact ⟨rfl, N, s, rfl, fun h => by cases h⟩

set_option maxRecDepth 100000 in
set_option maxHeartbeats 4000000 in
theorem mp_rdU {E : Ev} {b : Nat → Nat} {T : St} {w : Nat → Int32} {N : Nat → Int32} {s : Int32} {M : Hp} (hb : Lay E 9 b) {l : Ln} (ht : TxP T l) {a : Nat} (ha : a < 1000) (ha9 : a < 100)  : Ct E mX5_readsUntable [.ref (b 0)] (MdW E b (rdT T N a s) w M) (RdR E b T w M (mG l (frmN 8) 8 1 a) (nI 110)) 0 0 := by
  refine Ct.of gmX5_readsUntable (ls := [.ref (b 0)]) rfl rfl (Nat.le_of_ble_eq_true rfl) ?_
  intro X hX Q hQ
  have hl60 := ht.2.1
  refine gq_aload_n hX dX5_readsUntable_0 rfl rfl rfl ?_
  refine gq_bipush (v := nI 110) hX dX5_readsUntable_1 rfl (by decide) ?_
  refine gq_putf hX dX5_readsUntable_3 rfl fX5_254 rfl rfl rfl (mqR0 hb) (Nat.le_of_ble_eq_true rfl) (hb.2 0 (by decide)) (mqW0_18 hb) ?_
  rw [rdT_so]
  refine gq_aload_n hX dX5_readsUntable_6 rfl rfl rfl ?_
  refine gq_bipush (v := nI 110) hX dX5_readsUntable_7 rfl (by decide) ?_
  rcases Bool.eq_false_or_eq_true (nx l (a) 110) with h27 | h27
  · refine gq_callVe hX dX5_readsUntable_9 rfl vX5_248 (mp_reads_y hb (T := T) (N := N) (s := (nI 110)) (a := a) ht (by omega) h27) rfl (mqR0 hb) rfl rfl (Nat.le_of_ble_eq_true rfl) ⟨(Nat.le_of_ble_eq_true rfl), (Nat.le_of_ble_eq_true rfl)⟩ (Nat.zero_add _) (Nat.zero_add _) ?_
    refine gq_if_eqF (tgt := 60) hX dX5_readsUntable_12 rfl rfl (by decide) ?_
    refine gq_aload_n hX dX5_readsUntable_15 rfl rfl rfl ?_
    refine gq_bipush (v := nI 116) hX dX5_readsUntable_16 rfl (by decide) ?_
    rcases Bool.eq_false_or_eq_true (nx l (a + 1) 116) with h28 | h28
    · refine gq_callVe hX dX5_readsUntable_18 rfl vX5_248 (mp_reads_y hb (T := T) (N := N) (s := (nI 110)) (a := a + 1) ht (by omega) h28) rfl (mqR0 hb) rfl rfl (Nat.le_of_ble_eq_true rfl) ⟨(Nat.le_of_ble_eq_true rfl), (Nat.le_of_ble_eq_true rfl)⟩ (Nat.zero_add _) (Nat.zero_add _) ?_
      refine gq_if_eqF (tgt := 60) hX dX5_readsUntable_21 rfl rfl (by decide) ?_
      refine gq_aload_n hX dX5_readsUntable_24 rfl rfl rfl ?_
      refine gq_bipush (v := nI 97) hX dX5_readsUntable_25 rfl (by decide) ?_
      rcases Bool.eq_false_or_eq_true (nx l (a + 1 + 1) 97) with h29 | h29
      · refine gq_callVe hX dX5_readsUntable_27 rfl vX5_248 (mp_reads_y hb (T := T) (N := N) (s := (nI 110)) (a := a + 1 + 1) ht (by omega) h29) rfl (mqR0 hb) rfl rfl (Nat.le_of_ble_eq_true rfl) ⟨(Nat.le_of_ble_eq_true rfl), (Nat.le_of_ble_eq_true rfl)⟩ (Nat.zero_add _) (Nat.zero_add _) ?_
        refine gq_if_eqF (tgt := 60) hX dX5_readsUntable_30 rfl rfl (by decide) ?_
        refine gq_aload_n hX dX5_readsUntable_33 rfl rfl rfl ?_
        refine gq_bipush (v := nI 98) hX dX5_readsUntable_34 rfl (by decide) ?_
        rcases Bool.eq_false_or_eq_true (nx l (a + 1 + 1 + 1) 98) with h30 | h30
        · refine gq_callVe hX dX5_readsUntable_36 rfl vX5_248 (mp_reads_y hb (T := T) (N := N) (s := (nI 110)) (a := a + 1 + 1 + 1) ht (by omega) h30) rfl (mqR0 hb) rfl rfl (Nat.le_of_ble_eq_true rfl) ⟨(Nat.le_of_ble_eq_true rfl), (Nat.le_of_ble_eq_true rfl)⟩ (Nat.zero_add _) (Nat.zero_add _) ?_
          refine gq_if_eqF (tgt := 60) hX dX5_readsUntable_39 rfl rfl (by decide) ?_
          refine gq_aload_n hX dX5_readsUntable_42 rfl rfl rfl ?_
          refine gq_bipush (v := nI 108) hX dX5_readsUntable_43 rfl (by decide) ?_
          rcases Bool.eq_false_or_eq_true (nx l (a + 1 + 1 + 1 + 1) 108) with h31 | h31
          · refine gq_callVe hX dX5_readsUntable_45 rfl vX5_248 (mp_reads_y hb (T := T) (N := N) (s := (nI 110)) (a := a + 1 + 1 + 1 + 1) ht (by omega) h31) rfl (mqR0 hb) rfl rfl (Nat.le_of_ble_eq_true rfl) ⟨(Nat.le_of_ble_eq_true rfl), (Nat.le_of_ble_eq_true rfl)⟩ (Nat.zero_add _) (Nat.zero_add _) ?_
            refine gq_if_eqF (tgt := 60) hX dX5_readsUntable_48 rfl rfl (by decide) ?_
            refine gq_aload_n hX dX5_readsUntable_51 rfl rfl rfl ?_
            refine gq_bipush (v := nI 101) hX dX5_readsUntable_52 rfl (by decide) ?_
            rcases Bool.eq_false_or_eq_true (nx l (a + 1 + 1 + 1 + 1 + 1) 101) with h32 | h32
            · refine gq_callVe hX dX5_readsUntable_54 rfl vX5_248 (mp_reads_y hb (T := T) (N := N) (s := (nI 110)) (a := a + 1 + 1 + 1 + 1 + 1) ht (by omega) h32) rfl (mqR0 hb) rfl rfl (Nat.le_of_ble_eq_true rfl) ⟨(Nat.le_of_ble_eq_true rfl), (Nat.le_of_ble_eq_true rfl)⟩ (Nat.zero_add _) (Nat.zero_add _) ?_
              refine gq_if_neT (tgt := 62) hX dX5_readsUntable_57 rfl (by decide) ?_
              refine gq_aload_n hX dX5_readsUntable_62 rfl rfl rfl ?_
              refine gq_bipush (v := nI 32) hX dX5_readsUntable_63 rfl (by decide) ?_
              rcases Bool.eq_false_or_eq_true (nx l (a + 1 + 1 + 1 + 1 + 1 + 1) 32) with h33 | h33
              · refine gq_callVe hX dX5_readsUntable_65 rfl vX5_248 (mp_reads_y hb (T := T) (N := N) (s := (nI 110)) (a := a + 1 + 1 + 1 + 1 + 1 + 1) ht (by omega) h33) rfl (mqR0 hb) rfl rfl (Nat.le_of_ble_eq_true rfl) ⟨(Nat.le_of_ble_eq_true rfl), (Nat.le_of_ble_eq_true rfl)⟩ (Nat.zero_add _) (Nat.zero_add _) ?_
                refine gq_if_eqF (tgt := 83) hX dX5_readsUntable_68 rfl rfl (by decide) ?_
                refine gq_aload_n hX dX5_readsUntable_71 rfl rfl rfl ?_
                refine gq_iconst (v := nI 0) hX dX5_readsUntable_72 rfl (by decide) ?_
                by_cases h34 : dgt l (a + 1 + 1 + 1 + 1 + 1 + 1 + 1) = true
                · have dh34 := dgm_le (l := l) (a := a + 1 + 1 + 1 + 1 + 1 + 1 + 1) 3
                  refine gq_callVe hX dX5_readsUntable_73 rfl vX5_251 (mp_num_y hb (T := T) (N := N) (s := (nI 110)) (a := a + 1 + 1 + 1 + 1 + 1 + 1 + 1) ht (by omega) (by decide) h34) rfl (mqR0 hb) rfl rfl (Nat.le_of_ble_eq_true rfl) ⟨(Nat.le_of_ble_eq_true rfl), (Nat.le_of_ble_eq_true rfl)⟩ (Nat.zero_add _) (Nat.zero_add _) ?_
                  refine gq_if_eqF (tgt := 83) hX dX5_readsUntable_76 rfl rfl (by decide) ?_
                  refine gq_iconst (v := nI 1) hX dX5_readsUntable_79 rfl (by decide) ?_
                  refine gq_goto (tgt := 84) hX dX5_readsUntable_80 rfl ?_
                  have hr : mG l (frmN 8) 8 1 a = (true, a + 1 + 1 + 1 + 1 + 1 + 1 + 1 + dgm l (a + 1 + 1 + 1 + 1 + 1 + 1 + 1) 3, [valN l (a + 1 + 1 + 1 + 1 + 1 + 1 + 1) (dgm l (a + 1 + 1 + 1 + 1 + 1 + 1 + 1) 3)]) := (mG_y rfl (by decide) (by decide) h27).trans ((mG_y rfl (by decide) (by decide) h28).trans ((mG_y rfl (by decide) (by decide) h29).trans ((mG_y rfl (by decide) (by decide) h30).trans ((mG_y rfl (by decide) (by decide) h31).trans ((mG_y rfl (by decide) (by decide) h32).trans ((mG_y rfl (by decide) (by decide) h33).trans (mG_Dy rfl rfl (dgm3_y h34) (rfl))))))))
                  refine gq_zret hX hQ dX5_readsUntable_84 rfl rfl ?_
                  unfold RdR
                  rw [hr]
                  exact ⟨rfl, (upd N 0 (nI (valN l (a + 1 + 1 + 1 + 1 + 1 + 1 + 1) (dgm l (a + 1 + 1 + 1 + 1 + 1 + 1 + 1) 3)))), (nI 110), rfl, fun _ => ⟨rfl, fun q hq => match q, hq with | 0, _ => upd_s _ _ _ | _ + 1, h => absurd h (by simp)⟩⟩
                · refine gq_callVe hX dX5_readsUntable_73 rfl vX5_251 (mp_num_n hb (T := T) (N := N) (s := (nI 110)) (a := a + 1 + 1 + 1 + 1 + 1 + 1 + 1) ht (by omega) h34) rfl (mqR0 hb) rfl rfl (Nat.le_of_ble_eq_true rfl) ⟨(Nat.le_of_ble_eq_true rfl), (Nat.le_of_ble_eq_true rfl)⟩ (Nat.zero_add _) (Nat.zero_add _) ?_
                  refine gq_if_eqT (tgt := 83) hX dX5_readsUntable_76 rfl rfl ?_
                  refine gq_iconst (v := nI 0) hX dX5_readsUntable_83 rfl (by decide) ?_
                  have hr : (mG l (frmN 8) 8 1 a).1 = false ∧ (mG l (frmN 8) 8 1 a).2.1 = a + 1 + 1 + 1 + 1 + 1 + 1 + 1 := by rw [(mG_y rfl (by decide) (by decide) h27).trans ((mG_y rfl (by decide) (by decide) h28).trans ((mG_y rfl (by decide) (by decide) h29).trans ((mG_y rfl (by decide) (by decide) h30).trans ((mG_y rfl (by decide) (by decide) h31).trans ((mG_y rfl (by decide) (by decide) h32).trans ((mG_y rfl (by decide) (by decide) h33).trans (mG_Dn rfl (dgm3_n h34))))))))]; exact ⟨rfl, rfl⟩
                  refine gq_zret hX hQ dX5_readsUntable_84 rfl rfl ?_
                  unfold RdR
                  rw [hr.1, hr.2]
                  exact ⟨rfl, N, (nI 110), rfl, fun h => by cases h⟩
              · refine gq_callVe hX dX5_readsUntable_65 rfl vX5_248 (mp_reads_n hb (T := T) (N := N) (s := (nI 110)) (a := a + 1 + 1 + 1 + 1 + 1 + 1) ht (by omega) (by decide) h33) rfl (mqR0 hb) rfl rfl (Nat.le_of_ble_eq_true rfl) ⟨(Nat.le_of_ble_eq_true rfl), (Nat.le_of_ble_eq_true rfl)⟩ (Nat.zero_add _) (Nat.zero_add _) ?_
                refine gq_if_eqT (tgt := 83) hX dX5_readsUntable_68 rfl rfl ?_
                refine gq_iconst (v := nI 0) hX dX5_readsUntable_83 rfl (by decide) ?_
                have hr : (mG l (frmN 8) 8 1 a).1 = false ∧ (mG l (frmN 8) 8 1 a).2.1 = a + 1 + 1 + 1 + 1 + 1 + 1 := by rw [(mG_y rfl (by decide) (by decide) h27).trans ((mG_y rfl (by decide) (by decide) h28).trans ((mG_y rfl (by decide) (by decide) h29).trans ((mG_y rfl (by decide) (by decide) h30).trans ((mG_y rfl (by decide) (by decide) h31).trans ((mG_y rfl (by decide) (by decide) h32).trans (mG_n rfl (by decide) (by decide) h33))))))]; exact ⟨rfl, rfl⟩
                refine gq_zret hX hQ dX5_readsUntable_84 rfl rfl ?_
                unfold RdR
                rw [hr.1, hr.2]
                exact ⟨rfl, N, (nI 110), rfl, fun h => by cases h⟩
            · refine gq_callVe hX dX5_readsUntable_54 rfl vX5_248 (mp_reads_n hb (T := T) (N := N) (s := (nI 110)) (a := a + 1 + 1 + 1 + 1 + 1) ht (by omega) (by decide) h32) rfl (mqR0 hb) rfl rfl (Nat.le_of_ble_eq_true rfl) ⟨(Nat.le_of_ble_eq_true rfl), (Nat.le_of_ble_eq_true rfl)⟩ (Nat.zero_add _) (Nat.zero_add _) ?_
              refine gq_if_neF (tgt := 62) hX dX5_readsUntable_57 rfl rfl rfl ?_
              refine gq_iconst (v := nI 0) hX dX5_readsUntable_60 rfl (by decide) ?_
              have hr : (mG l (frmN 8) 8 1 a).1 = false ∧ (mG l (frmN 8) 8 1 a).2.1 = a + 1 + 1 + 1 + 1 + 1 := by rw [(mG_y rfl (by decide) (by decide) h27).trans ((mG_y rfl (by decide) (by decide) h28).trans ((mG_y rfl (by decide) (by decide) h29).trans ((mG_y rfl (by decide) (by decide) h30).trans ((mG_y rfl (by decide) (by decide) h31).trans (mG_n rfl (by decide) (by decide) h32)))))]; exact ⟨rfl, rfl⟩
              refine gq_zret hX hQ dX5_readsUntable_61 rfl rfl ?_
              unfold RdR
              rw [hr.1, hr.2]
              exact ⟨rfl, N, (nI 110), rfl, fun h => by cases h⟩
          · refine gq_callVe hX dX5_readsUntable_45 rfl vX5_248 (mp_reads_n hb (T := T) (N := N) (s := (nI 110)) (a := a + 1 + 1 + 1 + 1) ht (by omega) (by decide) h31) rfl (mqR0 hb) rfl rfl (Nat.le_of_ble_eq_true rfl) ⟨(Nat.le_of_ble_eq_true rfl), (Nat.le_of_ble_eq_true rfl)⟩ (Nat.zero_add _) (Nat.zero_add _) ?_
            refine gq_if_eqT (tgt := 60) hX dX5_readsUntable_48 rfl rfl ?_
            refine gq_iconst (v := nI 0) hX dX5_readsUntable_60 rfl (by decide) ?_
            have hr : (mG l (frmN 8) 8 1 a).1 = false ∧ (mG l (frmN 8) 8 1 a).2.1 = a + 1 + 1 + 1 + 1 := by rw [(mG_y rfl (by decide) (by decide) h27).trans ((mG_y rfl (by decide) (by decide) h28).trans ((mG_y rfl (by decide) (by decide) h29).trans ((mG_y rfl (by decide) (by decide) h30).trans (mG_n rfl (by decide) (by decide) h31))))]; exact ⟨rfl, rfl⟩
            refine gq_zret hX hQ dX5_readsUntable_61 rfl rfl ?_
            unfold RdR
            rw [hr.1, hr.2]
            exact ⟨rfl, N, (nI 110), rfl, fun h => by cases h⟩
        · refine gq_callVe hX dX5_readsUntable_36 rfl vX5_248 (mp_reads_n hb (T := T) (N := N) (s := (nI 110)) (a := a + 1 + 1 + 1) ht (by omega) (by decide) h30) rfl (mqR0 hb) rfl rfl (Nat.le_of_ble_eq_true rfl) ⟨(Nat.le_of_ble_eq_true rfl), (Nat.le_of_ble_eq_true rfl)⟩ (Nat.zero_add _) (Nat.zero_add _) ?_
          refine gq_if_eqT (tgt := 60) hX dX5_readsUntable_39 rfl rfl ?_
          refine gq_iconst (v := nI 0) hX dX5_readsUntable_60 rfl (by decide) ?_
          have hr : (mG l (frmN 8) 8 1 a).1 = false ∧ (mG l (frmN 8) 8 1 a).2.1 = a + 1 + 1 + 1 := by rw [(mG_y rfl (by decide) (by decide) h27).trans ((mG_y rfl (by decide) (by decide) h28).trans ((mG_y rfl (by decide) (by decide) h29).trans (mG_n rfl (by decide) (by decide) h30)))]; exact ⟨rfl, rfl⟩
          refine gq_zret hX hQ dX5_readsUntable_61 rfl rfl ?_
          unfold RdR
          rw [hr.1, hr.2]
          exact ⟨rfl, N, (nI 110), rfl, fun h => by cases h⟩
      · refine gq_callVe hX dX5_readsUntable_27 rfl vX5_248 (mp_reads_n hb (T := T) (N := N) (s := (nI 110)) (a := a + 1 + 1) ht (by omega) (by decide) h29) rfl (mqR0 hb) rfl rfl (Nat.le_of_ble_eq_true rfl) ⟨(Nat.le_of_ble_eq_true rfl), (Nat.le_of_ble_eq_true rfl)⟩ (Nat.zero_add _) (Nat.zero_add _) ?_
        refine gq_if_eqT (tgt := 60) hX dX5_readsUntable_30 rfl rfl ?_
        refine gq_iconst (v := nI 0) hX dX5_readsUntable_60 rfl (by decide) ?_
        have hr : (mG l (frmN 8) 8 1 a).1 = false ∧ (mG l (frmN 8) 8 1 a).2.1 = a + 1 + 1 := by rw [(mG_y rfl (by decide) (by decide) h27).trans ((mG_y rfl (by decide) (by decide) h28).trans (mG_n rfl (by decide) (by decide) h29))]; exact ⟨rfl, rfl⟩
        refine gq_zret hX hQ dX5_readsUntable_61 rfl rfl ?_
        unfold RdR
        rw [hr.1, hr.2]
        exact ⟨rfl, N, (nI 110), rfl, fun h => by cases h⟩
    · refine gq_callVe hX dX5_readsUntable_18 rfl vX5_248 (mp_reads_n hb (T := T) (N := N) (s := (nI 110)) (a := a + 1) ht (by omega) (by decide) h28) rfl (mqR0 hb) rfl rfl (Nat.le_of_ble_eq_true rfl) ⟨(Nat.le_of_ble_eq_true rfl), (Nat.le_of_ble_eq_true rfl)⟩ (Nat.zero_add _) (Nat.zero_add _) ?_
      refine gq_if_eqT (tgt := 60) hX dX5_readsUntable_21 rfl rfl ?_
      refine gq_iconst (v := nI 0) hX dX5_readsUntable_60 rfl (by decide) ?_
      have hr : (mG l (frmN 8) 8 1 a).1 = false ∧ (mG l (frmN 8) 8 1 a).2.1 = a + 1 := by rw [(mG_y rfl (by decide) (by decide) h27).trans (mG_n rfl (by decide) (by decide) h28)]; exact ⟨rfl, rfl⟩
      refine gq_zret hX hQ dX5_readsUntable_61 rfl rfl ?_
      unfold RdR
      rw [hr.1, hr.2]
      exact ⟨rfl, N, (nI 110), rfl, fun h => by cases h⟩
  · refine gq_callVe hX dX5_readsUntable_9 rfl vX5_248 (mp_reads_n hb (T := T) (N := N) (s := (nI 110)) (a := a) ht (by omega) (by decide) h27) rfl (mqR0 hb) rfl rfl (Nat.le_of_ble_eq_true rfl) ⟨(Nat.le_of_ble_eq_true rfl), (Nat.le_of_ble_eq_true rfl)⟩ (Nat.zero_add _) (Nat.zero_add _) ?_
    refine gq_if_eqT (tgt := 60) hX dX5_readsUntable_12 rfl rfl ?_
    refine gq_iconst (v := nI 0) hX dX5_readsUntable_60 rfl (by decide) ?_
    have hr : (mG l (frmN 8) 8 1 a).1 = false ∧ (mG l (frmN 8) 8 1 a).2.1 = a := by rw [mG_n rfl (by decide) (by decide) h27]; exact ⟨rfl, rfl⟩
    refine gq_zret hX hQ dX5_readsUntable_61 rfl rfl ?_
    unfold RdR
    rw [hr.1, hr.2]
    exact ⟨rfl, N, (nI 110), rfl, fun h => by cases h⟩

set_option maxRecDepth 100000 in
set_option maxHeartbeats 4000000 in
theorem mp_rdW {E : Ev} {b : Nat → Nat} {T : St} {w : Nat → Int32} {N : Nat → Int32} {s : Int32} {M : Hp} (hb : Lay E 9 b) {l : Ln} (ht : TxP T l) {a : Nat} (ha : a < 1000) (ha9 : a < 100)  : Ct E mX5_readsWithdraw [.ref (b 0)] (MdW E b (rdT T N a s) w M) (RdR E b T w M (mG l (frmN 9) 9 1 a) s) 0 0 := by
  refine Ct.of gmX5_readsWithdraw (ls := [.ref (b 0)]) rfl rfl (Nat.le_of_ble_eq_true rfl) ?_
  intro X hX Q hQ
  have hl60 := ht.2.1
  refine gq_aload_n hX dX5_readsWithdraw_0 rfl rfl rfl ?_
  refine gq_bipush (v := nI 105) hX dX5_readsWithdraw_1 rfl (by decide) ?_
  rcases Bool.eq_false_or_eq_true (nx l (a) 105) with h35 | h35
  · refine gq_callVe hX dX5_readsWithdraw_3 rfl vX5_248 (mp_reads_y hb (T := T) (N := N) (s := s) (a := a) ht (by omega) h35) rfl (mqR0 hb) rfl rfl (Nat.le_of_ble_eq_true rfl) ⟨(Nat.le_of_ble_eq_true rfl), (Nat.le_of_ble_eq_true rfl)⟩ (Nat.zero_add _) (Nat.zero_add _) ?_
    refine gq_if_eqF (tgt := 54) hX dX5_readsWithdraw_6 rfl rfl (by decide) ?_
    refine gq_aload_n hX dX5_readsWithdraw_9 rfl rfl rfl ?_
    refine gq_bipush (v := nI 116) hX dX5_readsWithdraw_10 rfl (by decide) ?_
    rcases Bool.eq_false_or_eq_true (nx l (a + 1) 116) with h36 | h36
    · refine gq_callVe hX dX5_readsWithdraw_12 rfl vX5_248 (mp_reads_y hb (T := T) (N := N) (s := s) (a := a + 1) ht (by omega) h36) rfl (mqR0 hb) rfl rfl (Nat.le_of_ble_eq_true rfl) ⟨(Nat.le_of_ble_eq_true rfl), (Nat.le_of_ble_eq_true rfl)⟩ (Nat.zero_add _) (Nat.zero_add _) ?_
      refine gq_if_eqF (tgt := 54) hX dX5_readsWithdraw_15 rfl rfl (by decide) ?_
      refine gq_aload_n hX dX5_readsWithdraw_18 rfl rfl rfl ?_
      refine gq_bipush (v := nI 104) hX dX5_readsWithdraw_19 rfl (by decide) ?_
      rcases Bool.eq_false_or_eq_true (nx l (a + 1 + 1) 104) with h37 | h37
      · refine gq_callVe hX dX5_readsWithdraw_21 rfl vX5_248 (mp_reads_y hb (T := T) (N := N) (s := s) (a := a + 1 + 1) ht (by omega) h37) rfl (mqR0 hb) rfl rfl (Nat.le_of_ble_eq_true rfl) ⟨(Nat.le_of_ble_eq_true rfl), (Nat.le_of_ble_eq_true rfl)⟩ (Nat.zero_add _) (Nat.zero_add _) ?_
        refine gq_if_eqF (tgt := 54) hX dX5_readsWithdraw_24 rfl rfl (by decide) ?_
        refine gq_aload_n hX dX5_readsWithdraw_27 rfl rfl rfl ?_
        refine gq_bipush (v := nI 100) hX dX5_readsWithdraw_28 rfl (by decide) ?_
        rcases Bool.eq_false_or_eq_true (nx l (a + 1 + 1 + 1) 100) with h38 | h38
        · refine gq_callVe hX dX5_readsWithdraw_30 rfl vX5_248 (mp_reads_y hb (T := T) (N := N) (s := s) (a := a + 1 + 1 + 1) ht (by omega) h38) rfl (mqR0 hb) rfl rfl (Nat.le_of_ble_eq_true rfl) ⟨(Nat.le_of_ble_eq_true rfl), (Nat.le_of_ble_eq_true rfl)⟩ (Nat.zero_add _) (Nat.zero_add _) ?_
          refine gq_if_eqF (tgt := 54) hX dX5_readsWithdraw_33 rfl rfl (by decide) ?_
          refine gq_aload_n hX dX5_readsWithdraw_36 rfl rfl rfl ?_
          refine gq_bipush (v := nI 114) hX dX5_readsWithdraw_37 rfl (by decide) ?_
          rcases Bool.eq_false_or_eq_true (nx l (a + 1 + 1 + 1 + 1) 114) with h39 | h39
          · refine gq_callVe hX dX5_readsWithdraw_39 rfl vX5_248 (mp_reads_y hb (T := T) (N := N) (s := s) (a := a + 1 + 1 + 1 + 1) ht (by omega) h39) rfl (mqR0 hb) rfl rfl (Nat.le_of_ble_eq_true rfl) ⟨(Nat.le_of_ble_eq_true rfl), (Nat.le_of_ble_eq_true rfl)⟩ (Nat.zero_add _) (Nat.zero_add _) ?_
            refine gq_if_eqF (tgt := 54) hX dX5_readsWithdraw_42 rfl rfl (by decide) ?_
            refine gq_aload_n hX dX5_readsWithdraw_45 rfl rfl rfl ?_
            refine gq_bipush (v := nI 97) hX dX5_readsWithdraw_46 rfl (by decide) ?_
            rcases Bool.eq_false_or_eq_true (nx l (a + 1 + 1 + 1 + 1 + 1) 97) with h40 | h40
            · refine gq_callVe hX dX5_readsWithdraw_48 rfl vX5_248 (mp_reads_y hb (T := T) (N := N) (s := s) (a := a + 1 + 1 + 1 + 1 + 1) ht (by omega) h40) rfl (mqR0 hb) rfl rfl (Nat.le_of_ble_eq_true rfl) ⟨(Nat.le_of_ble_eq_true rfl), (Nat.le_of_ble_eq_true rfl)⟩ (Nat.zero_add _) (Nat.zero_add _) ?_
              refine gq_if_neT (tgt := 56) hX dX5_readsWithdraw_51 rfl (by decide) ?_
              refine gq_aload_n hX dX5_readsWithdraw_56 rfl rfl rfl ?_
              refine gq_bipush (v := nI 119) hX dX5_readsWithdraw_57 rfl (by decide) ?_
              rcases Bool.eq_false_or_eq_true (nx l (a + 1 + 1 + 1 + 1 + 1 + 1) 119) with h41 | h41
              · refine gq_callVe hX dX5_readsWithdraw_59 rfl vX5_248 (mp_reads_y hb (T := T) (N := N) (s := s) (a := a + 1 + 1 + 1 + 1 + 1 + 1) ht (by omega) h41) rfl (mqR0 hb) rfl rfl (Nat.le_of_ble_eq_true rfl) ⟨(Nat.le_of_ble_eq_true rfl), (Nat.le_of_ble_eq_true rfl)⟩ (Nat.zero_add _) (Nat.zero_add _) ?_
                refine gq_if_eqF (tgt := 86) hX dX5_readsWithdraw_62 rfl rfl (by decide) ?_
                refine gq_aload_n hX dX5_readsWithdraw_65 rfl rfl rfl ?_
                refine gq_bipush (v := nI 32) hX dX5_readsWithdraw_66 rfl (by decide) ?_
                rcases Bool.eq_false_or_eq_true (nx l (a + 1 + 1 + 1 + 1 + 1 + 1 + 1) 32) with h42 | h42
                · refine gq_callVe hX dX5_readsWithdraw_68 rfl vX5_248 (mp_reads_y hb (T := T) (N := N) (s := s) (a := a + 1 + 1 + 1 + 1 + 1 + 1 + 1) ht (by omega) h42) rfl (mqR0 hb) rfl rfl (Nat.le_of_ble_eq_true rfl) ⟨(Nat.le_of_ble_eq_true rfl), (Nat.le_of_ble_eq_true rfl)⟩ (Nat.zero_add _) (Nat.zero_add _) ?_
                  refine gq_if_eqF (tgt := 86) hX dX5_readsWithdraw_71 rfl rfl (by decide) ?_
                  refine gq_aload_n hX dX5_readsWithdraw_74 rfl rfl rfl ?_
                  refine gq_iconst (v := nI 0) hX dX5_readsWithdraw_75 rfl (by decide) ?_
                  by_cases h43 : dgt l (a + 1 + 1 + 1 + 1 + 1 + 1 + 1 + 1) = true
                  · have dh43 := dgm_le (l := l) (a := a + 1 + 1 + 1 + 1 + 1 + 1 + 1 + 1) 3
                    refine gq_callVe hX dX5_readsWithdraw_76 rfl vX5_251 (mp_num_y hb (T := T) (N := N) (s := s) (a := a + 1 + 1 + 1 + 1 + 1 + 1 + 1 + 1) ht (by omega) (by decide) h43) rfl (mqR0 hb) rfl rfl (Nat.le_of_ble_eq_true rfl) ⟨(Nat.le_of_ble_eq_true rfl), (Nat.le_of_ble_eq_true rfl)⟩ (Nat.zero_add _) (Nat.zero_add _) ?_
                    refine gq_if_eqF (tgt := 86) hX dX5_readsWithdraw_79 rfl rfl (by decide) ?_
                    refine gq_iconst (v := nI 1) hX dX5_readsWithdraw_82 rfl (by decide) ?_
                    refine gq_goto (tgt := 87) hX dX5_readsWithdraw_83 rfl ?_
                    have hr : mG l (frmN 9) 9 1 a = (true, a + 1 + 1 + 1 + 1 + 1 + 1 + 1 + 1 + dgm l (a + 1 + 1 + 1 + 1 + 1 + 1 + 1 + 1) 3, [valN l (a + 1 + 1 + 1 + 1 + 1 + 1 + 1 + 1) (dgm l (a + 1 + 1 + 1 + 1 + 1 + 1 + 1 + 1) 3)]) := (mG_y rfl (by decide) (by decide) h35).trans ((mG_y rfl (by decide) (by decide) h36).trans ((mG_y rfl (by decide) (by decide) h37).trans ((mG_y rfl (by decide) (by decide) h38).trans ((mG_y rfl (by decide) (by decide) h39).trans ((mG_y rfl (by decide) (by decide) h40).trans ((mG_y rfl (by decide) (by decide) h41).trans ((mG_y rfl (by decide) (by decide) h42).trans (mG_Dy rfl rfl (dgm3_y h43) (rfl)))))))))
                    refine gq_zret hX hQ dX5_readsWithdraw_87 rfl rfl ?_
                    unfold RdR
                    rw [hr]
                    exact ⟨rfl, (upd N 0 (nI (valN l (a + 1 + 1 + 1 + 1 + 1 + 1 + 1 + 1) (dgm l (a + 1 + 1 + 1 + 1 + 1 + 1 + 1 + 1) 3)))), s, rfl, fun _ => ⟨rfl, fun q hq => match q, hq with | 0, _ => upd_s _ _ _ | _ + 1, h => absurd h (by simp)⟩⟩
                  · refine gq_callVe hX dX5_readsWithdraw_76 rfl vX5_251 (mp_num_n hb (T := T) (N := N) (s := s) (a := a + 1 + 1 + 1 + 1 + 1 + 1 + 1 + 1) ht (by omega) h43) rfl (mqR0 hb) rfl rfl (Nat.le_of_ble_eq_true rfl) ⟨(Nat.le_of_ble_eq_true rfl), (Nat.le_of_ble_eq_true rfl)⟩ (Nat.zero_add _) (Nat.zero_add _) ?_
                    refine gq_if_eqT (tgt := 86) hX dX5_readsWithdraw_79 rfl rfl ?_
                    refine gq_iconst (v := nI 0) hX dX5_readsWithdraw_86 rfl (by decide) ?_
                    have hr : (mG l (frmN 9) 9 1 a).1 = false ∧ (mG l (frmN 9) 9 1 a).2.1 = a + 1 + 1 + 1 + 1 + 1 + 1 + 1 + 1 := by rw [(mG_y rfl (by decide) (by decide) h35).trans ((mG_y rfl (by decide) (by decide) h36).trans ((mG_y rfl (by decide) (by decide) h37).trans ((mG_y rfl (by decide) (by decide) h38).trans ((mG_y rfl (by decide) (by decide) h39).trans ((mG_y rfl (by decide) (by decide) h40).trans ((mG_y rfl (by decide) (by decide) h41).trans ((mG_y rfl (by decide) (by decide) h42).trans (mG_Dn rfl (dgm3_n h43)))))))))]; exact ⟨rfl, rfl⟩
                    refine gq_zret hX hQ dX5_readsWithdraw_87 rfl rfl ?_
                    unfold RdR
                    rw [hr.1, hr.2]
                    exact ⟨rfl, N, s, rfl, fun h => by cases h⟩
                · refine gq_callVe hX dX5_readsWithdraw_68 rfl vX5_248 (mp_reads_n hb (T := T) (N := N) (s := s) (a := a + 1 + 1 + 1 + 1 + 1 + 1 + 1) ht (by omega) (by decide) h42) rfl (mqR0 hb) rfl rfl (Nat.le_of_ble_eq_true rfl) ⟨(Nat.le_of_ble_eq_true rfl), (Nat.le_of_ble_eq_true rfl)⟩ (Nat.zero_add _) (Nat.zero_add _) ?_
                  refine gq_if_eqT (tgt := 86) hX dX5_readsWithdraw_71 rfl rfl ?_
                  refine gq_iconst (v := nI 0) hX dX5_readsWithdraw_86 rfl (by decide) ?_
                  have hr : (mG l (frmN 9) 9 1 a).1 = false ∧ (mG l (frmN 9) 9 1 a).2.1 = a + 1 + 1 + 1 + 1 + 1 + 1 + 1 := by rw [(mG_y rfl (by decide) (by decide) h35).trans ((mG_y rfl (by decide) (by decide) h36).trans ((mG_y rfl (by decide) (by decide) h37).trans ((mG_y rfl (by decide) (by decide) h38).trans ((mG_y rfl (by decide) (by decide) h39).trans ((mG_y rfl (by decide) (by decide) h40).trans ((mG_y rfl (by decide) (by decide) h41).trans (mG_n rfl (by decide) (by decide) h42)))))))]; exact ⟨rfl, rfl⟩
                  refine gq_zret hX hQ dX5_readsWithdraw_87 rfl rfl ?_
                  unfold RdR
                  rw [hr.1, hr.2]
                  exact ⟨rfl, N, s, rfl, fun h => by cases h⟩
              · refine gq_callVe hX dX5_readsWithdraw_59 rfl vX5_248 (mp_reads_n hb (T := T) (N := N) (s := s) (a := a + 1 + 1 + 1 + 1 + 1 + 1) ht (by omega) (by decide) h41) rfl (mqR0 hb) rfl rfl (Nat.le_of_ble_eq_true rfl) ⟨(Nat.le_of_ble_eq_true rfl), (Nat.le_of_ble_eq_true rfl)⟩ (Nat.zero_add _) (Nat.zero_add _) ?_
                refine gq_if_eqT (tgt := 86) hX dX5_readsWithdraw_62 rfl rfl ?_
                refine gq_iconst (v := nI 0) hX dX5_readsWithdraw_86 rfl (by decide) ?_
                have hr : (mG l (frmN 9) 9 1 a).1 = false ∧ (mG l (frmN 9) 9 1 a).2.1 = a + 1 + 1 + 1 + 1 + 1 + 1 := by rw [(mG_y rfl (by decide) (by decide) h35).trans ((mG_y rfl (by decide) (by decide) h36).trans ((mG_y rfl (by decide) (by decide) h37).trans ((mG_y rfl (by decide) (by decide) h38).trans ((mG_y rfl (by decide) (by decide) h39).trans ((mG_y rfl (by decide) (by decide) h40).trans (mG_n rfl (by decide) (by decide) h41))))))]; exact ⟨rfl, rfl⟩
                refine gq_zret hX hQ dX5_readsWithdraw_87 rfl rfl ?_
                unfold RdR
                rw [hr.1, hr.2]
                exact ⟨rfl, N, s, rfl, fun h => by cases h⟩
            · refine gq_callVe hX dX5_readsWithdraw_48 rfl vX5_248 (mp_reads_n hb (T := T) (N := N) (s := s) (a := a + 1 + 1 + 1 + 1 + 1) ht (by omega) (by decide) h40) rfl (mqR0 hb) rfl rfl (Nat.le_of_ble_eq_true rfl) ⟨(Nat.le_of_ble_eq_true rfl), (Nat.le_of_ble_eq_true rfl)⟩ (Nat.zero_add _) (Nat.zero_add _) ?_
              refine gq_if_neF (tgt := 56) hX dX5_readsWithdraw_51 rfl rfl rfl ?_
              refine gq_iconst (v := nI 0) hX dX5_readsWithdraw_54 rfl (by decide) ?_
              have hr : (mG l (frmN 9) 9 1 a).1 = false ∧ (mG l (frmN 9) 9 1 a).2.1 = a + 1 + 1 + 1 + 1 + 1 := by rw [(mG_y rfl (by decide) (by decide) h35).trans ((mG_y rfl (by decide) (by decide) h36).trans ((mG_y rfl (by decide) (by decide) h37).trans ((mG_y rfl (by decide) (by decide) h38).trans ((mG_y rfl (by decide) (by decide) h39).trans (mG_n rfl (by decide) (by decide) h40)))))]; exact ⟨rfl, rfl⟩
              refine gq_zret hX hQ dX5_readsWithdraw_55 rfl rfl ?_
              unfold RdR
              rw [hr.1, hr.2]
              exact ⟨rfl, N, s, rfl, fun h => by cases h⟩
          · refine gq_callVe hX dX5_readsWithdraw_39 rfl vX5_248 (mp_reads_n hb (T := T) (N := N) (s := s) (a := a + 1 + 1 + 1 + 1) ht (by omega) (by decide) h39) rfl (mqR0 hb) rfl rfl (Nat.le_of_ble_eq_true rfl) ⟨(Nat.le_of_ble_eq_true rfl), (Nat.le_of_ble_eq_true rfl)⟩ (Nat.zero_add _) (Nat.zero_add _) ?_
            refine gq_if_eqT (tgt := 54) hX dX5_readsWithdraw_42 rfl rfl ?_
            refine gq_iconst (v := nI 0) hX dX5_readsWithdraw_54 rfl (by decide) ?_
            have hr : (mG l (frmN 9) 9 1 a).1 = false ∧ (mG l (frmN 9) 9 1 a).2.1 = a + 1 + 1 + 1 + 1 := by rw [(mG_y rfl (by decide) (by decide) h35).trans ((mG_y rfl (by decide) (by decide) h36).trans ((mG_y rfl (by decide) (by decide) h37).trans ((mG_y rfl (by decide) (by decide) h38).trans (mG_n rfl (by decide) (by decide) h39))))]; exact ⟨rfl, rfl⟩
            refine gq_zret hX hQ dX5_readsWithdraw_55 rfl rfl ?_
            unfold RdR
            rw [hr.1, hr.2]
            exact ⟨rfl, N, s, rfl, fun h => by cases h⟩
        · refine gq_callVe hX dX5_readsWithdraw_30 rfl vX5_248 (mp_reads_n hb (T := T) (N := N) (s := s) (a := a + 1 + 1 + 1) ht (by omega) (by decide) h38) rfl (mqR0 hb) rfl rfl (Nat.le_of_ble_eq_true rfl) ⟨(Nat.le_of_ble_eq_true rfl), (Nat.le_of_ble_eq_true rfl)⟩ (Nat.zero_add _) (Nat.zero_add _) ?_
          refine gq_if_eqT (tgt := 54) hX dX5_readsWithdraw_33 rfl rfl ?_
          refine gq_iconst (v := nI 0) hX dX5_readsWithdraw_54 rfl (by decide) ?_
          have hr : (mG l (frmN 9) 9 1 a).1 = false ∧ (mG l (frmN 9) 9 1 a).2.1 = a + 1 + 1 + 1 := by rw [(mG_y rfl (by decide) (by decide) h35).trans ((mG_y rfl (by decide) (by decide) h36).trans ((mG_y rfl (by decide) (by decide) h37).trans (mG_n rfl (by decide) (by decide) h38)))]; exact ⟨rfl, rfl⟩
          refine gq_zret hX hQ dX5_readsWithdraw_55 rfl rfl ?_
          unfold RdR
          rw [hr.1, hr.2]
          exact ⟨rfl, N, s, rfl, fun h => by cases h⟩
      · refine gq_callVe hX dX5_readsWithdraw_21 rfl vX5_248 (mp_reads_n hb (T := T) (N := N) (s := s) (a := a + 1 + 1) ht (by omega) (by decide) h37) rfl (mqR0 hb) rfl rfl (Nat.le_of_ble_eq_true rfl) ⟨(Nat.le_of_ble_eq_true rfl), (Nat.le_of_ble_eq_true rfl)⟩ (Nat.zero_add _) (Nat.zero_add _) ?_
        refine gq_if_eqT (tgt := 54) hX dX5_readsWithdraw_24 rfl rfl ?_
        refine gq_iconst (v := nI 0) hX dX5_readsWithdraw_54 rfl (by decide) ?_
        have hr : (mG l (frmN 9) 9 1 a).1 = false ∧ (mG l (frmN 9) 9 1 a).2.1 = a + 1 + 1 := by rw [(mG_y rfl (by decide) (by decide) h35).trans ((mG_y rfl (by decide) (by decide) h36).trans (mG_n rfl (by decide) (by decide) h37))]; exact ⟨rfl, rfl⟩
        refine gq_zret hX hQ dX5_readsWithdraw_55 rfl rfl ?_
        unfold RdR
        rw [hr.1, hr.2]
        exact ⟨rfl, N, s, rfl, fun h => by cases h⟩
    · refine gq_callVe hX dX5_readsWithdraw_12 rfl vX5_248 (mp_reads_n hb (T := T) (N := N) (s := s) (a := a + 1) ht (by omega) (by decide) h36) rfl (mqR0 hb) rfl rfl (Nat.le_of_ble_eq_true rfl) ⟨(Nat.le_of_ble_eq_true rfl), (Nat.le_of_ble_eq_true rfl)⟩ (Nat.zero_add _) (Nat.zero_add _) ?_
      refine gq_if_eqT (tgt := 54) hX dX5_readsWithdraw_15 rfl rfl ?_
      refine gq_iconst (v := nI 0) hX dX5_readsWithdraw_54 rfl (by decide) ?_
      have hr : (mG l (frmN 9) 9 1 a).1 = false ∧ (mG l (frmN 9) 9 1 a).2.1 = a + 1 := by rw [(mG_y rfl (by decide) (by decide) h35).trans (mG_n rfl (by decide) (by decide) h36)]; exact ⟨rfl, rfl⟩
      refine gq_zret hX hQ dX5_readsWithdraw_55 rfl rfl ?_
      unfold RdR
      rw [hr.1, hr.2]
      exact ⟨rfl, N, s, rfl, fun h => by cases h⟩
  · refine gq_callVe hX dX5_readsWithdraw_3 rfl vX5_248 (mp_reads_n hb (T := T) (N := N) (s := s) (a := a) ht (by omega) (by decide) h35) rfl (mqR0 hb) rfl rfl (Nat.le_of_ble_eq_true rfl) ⟨(Nat.le_of_ble_eq_true rfl), (Nat.le_of_ble_eq_true rfl)⟩ (Nat.zero_add _) (Nat.zero_add _) ?_
    refine gq_if_eqT (tgt := 54) hX dX5_readsWithdraw_6 rfl rfl ?_
    refine gq_iconst (v := nI 0) hX dX5_readsWithdraw_54 rfl (by decide) ?_
    have hr : (mG l (frmN 9) 9 1 a).1 = false ∧ (mG l (frmN 9) 9 1 a).2.1 = a := by rw [mG_n rfl (by decide) (by decide) h35]; exact ⟨rfl, rfl⟩
    refine gq_zret hX hQ dX5_readsWithdraw_55 rfl rfl ?_
    unfold RdR
    rw [hr.1, hr.2]
    exact ⟨rfl, N, s, rfl, fun h => by cases h⟩

set_option maxRecDepth 100000 in
set_option maxHeartbeats 4000000 in
theorem mp_rdP_a {E : Ev} {b : Nat → Nat} {T : St} {w : Nat → Int32} {N : Nat → Int32} {s : Int32} {M : Hp} (hb : Lay E 9 b) {l : Ln} (ht : TxP T l) {a : Nat} (ha : a < 1000) (ha9 : a < 100) (k1 : nx l a 97 = true) (k2 : nx l (a + 1) 121 = true)  : Ct E mX5_readsP [.ref (b 0)] (MdW E b (rdT T N a s) w M) (RdR E b T w M (mG l (frmN 2) 6 1 a) s) 0 0 := by
  refine Ct.of gmX5_readsP (ls := [.ref (b 0)]) rfl rfl (Nat.le_of_ble_eq_true rfl) ?_
  intro X hX Q hQ
  have hl60 := ht.2.1
  refine gq_aload_n hX dX5_readsP_0 rfl rfl rfl ?_
  refine gq_bipush (v := nI 97) hX dX5_readsP_1 rfl (by decide) ?_
  refine gq_callVe hX dX5_readsP_3 rfl vX5_248 (mp_reads_y hb (T := T) (N := N) (s := s) (a := a) ht (by omega) k1) rfl (mqR0 hb) rfl rfl (Nat.le_of_ble_eq_true rfl) ⟨(Nat.le_of_ble_eq_true rfl), (Nat.le_of_ble_eq_true rfl)⟩ (Nat.zero_add _) (Nat.zero_add _) ?_
  refine gq_if_neT (tgt := 11) hX dX5_readsP_6 rfl (by decide) ?_
  refine gq_aload_n hX dX5_readsP_11 rfl rfl rfl ?_
  refine gq_bipush (v := nI 121) hX dX5_readsP_12 rfl (by decide) ?_
  refine gq_callVe hX dX5_readsP_14 rfl vX5_248 (mp_reads_y hb (T := T) (N := N) (s := s) (a := a + 1) ht (by omega) k2) rfl (mqR0 hb) rfl rfl (Nat.le_of_ble_eq_true rfl) ⟨(Nat.le_of_ble_eq_true rfl), (Nat.le_of_ble_eq_true rfl)⟩ (Nat.zero_add _) (Nat.zero_add _) ?_
  refine gq_if_eqF (tgt := 60) hX dX5_readsP_17 rfl rfl (by decide) ?_
  refine gq_aload_n hX dX5_readsP_20 rfl rfl rfl ?_
  refine gq_bipush (v := nI 32) hX dX5_readsP_21 rfl (by decide) ?_
  rcases Bool.eq_false_or_eq_true (nx l (a + 1 + 1) 32) with h44 | h44
  · refine gq_callVe hX dX5_readsP_23 rfl vX5_248 (mp_reads_y hb (T := T) (N := N) (s := s) (a := a + 1 + 1) ht (by omega) h44) rfl (mqR0 hb) rfl rfl (Nat.le_of_ble_eq_true rfl) ⟨(Nat.le_of_ble_eq_true rfl), (Nat.le_of_ble_eq_true rfl)⟩ (Nat.zero_add _) (Nat.zero_add _) ?_
    refine gq_if_eqF (tgt := 58) hX dX5_readsP_26 rfl rfl (by decide) ?_
    refine gq_aload_n hX dX5_readsP_29 rfl rfl rfl ?_
    refine gq_iconst (v := nI 0) hX dX5_readsP_30 rfl (by decide) ?_
    by_cases h45 : dgt l (a + 1 + 1 + 1) = true
    · refine gq_callVe hX dX5_readsP_31 rfl vX5_245 (mp_dig_y hb (T := T) (N := N) (s := s) (a := a + 1 + 1 + 1) ht (by omega) (by decide) h45) rfl (mqR0 hb) rfl rfl (Nat.le_of_ble_eq_true rfl) ⟨(Nat.le_of_ble_eq_true rfl), (Nat.le_of_ble_eq_true rfl)⟩ (Nat.zero_add _) (Nat.zero_add _) ?_
      refine gq_if_eqF (tgt := 58) hX dX5_readsP_34 rfl rfl (by decide) ?_
      refine gq_aload_n hX dX5_readsP_37 rfl rfl rfl ?_
      refine gq_bipush (v := nI 32) hX dX5_readsP_38 rfl (by decide) ?_
      rcases Bool.eq_false_or_eq_true (nx l (a + 1 + 1 + 1 + 1) 32) with h46 | h46
      · refine gq_callVe hX dX5_readsP_40 rfl vX5_248 (mp_reads_y hb (T := T) (N := (upd N 0 (nI (l.1 (a + 1 + 1 + 1) - 48)))) (s := s) (a := a + 1 + 1 + 1 + 1) ht (by omega) h46) rfl (mqR0 hb) rfl rfl (Nat.le_of_ble_eq_true rfl) ⟨(Nat.le_of_ble_eq_true rfl), (Nat.le_of_ble_eq_true rfl)⟩ (Nat.zero_add _) (Nat.zero_add _) ?_
        refine gq_if_eqF (tgt := 58) hX dX5_readsP_43 rfl rfl (by decide) ?_
        refine gq_aload_n hX dX5_readsP_46 rfl rfl rfl ?_
        refine gq_iconst (v := nI 1) hX dX5_readsP_47 rfl (by decide) ?_
        by_cases h47 : dgt l (a + 1 + 1 + 1 + 1 + 1) = true
        · have dh47 := dgm_le (l := l) (a := a + 1 + 1 + 1 + 1 + 1) 3
          refine gq_callVe hX dX5_readsP_48 rfl vX5_251 (mp_num_y hb (T := T) (N := (upd N 0 (nI (l.1 (a + 1 + 1 + 1) - 48)))) (s := s) (a := a + 1 + 1 + 1 + 1 + 1) ht (by omega) (by decide) h47) rfl (mqR0 hb) rfl rfl (Nat.le_of_ble_eq_true rfl) ⟨(Nat.le_of_ble_eq_true rfl), (Nat.le_of_ble_eq_true rfl)⟩ (Nat.zero_add _) (Nat.zero_add _) ?_
          refine gq_if_eqF (tgt := 58) hX dX5_readsP_51 rfl rfl (by decide) ?_
          refine gq_iconst (v := nI 1) hX dX5_readsP_54 rfl (by decide) ?_
          refine gq_goto (tgt := 59) hX dX5_readsP_55 rfl ?_
          have hr : mG l (frmN 2) 6 1 a = (true, a + 1 + 1 + 1 + 1 + 1 + dgm l (a + 1 + 1 + 1 + 1 + 1) 3, [l.1 (a + 1 + 1 + 1) - 48, valN l (a + 1 + 1 + 1 + 1 + 1) (dgm l (a + 1 + 1 + 1 + 1 + 1) 3)]) := (mG_y rfl (by decide) (by decide) k1).trans ((mG_y rfl (by decide) (by decide) k2).trans ((mG_y rfl (by decide) (by decide) h44).trans (mG_dy rfl (dgm1_y h45) ((mG_y rfl (by decide) (by decide) h46).trans (mG_Dy rfl rfl (dgm3_y h47) (rfl))))))
          refine gq_zret hX hQ dX5_readsP_59 rfl rfl ?_
          unfold RdR
          rw [hr]
          exact ⟨rfl, (upd (upd N 0 (nI (l.1 (a + 1 + 1 + 1) - 48))) 1 (nI (valN l (a + 1 + 1 + 1 + 1 + 1) (dgm l (a + 1 + 1 + 1 + 1 + 1) 3)))), s, rfl, fun _ => ⟨rfl, fun q hq => match q, hq with | 0, _ => (upd_n _ (by decide)).trans (upd_s _ _ _) | 1, _ => upd_s _ _ _ | _ + 2, h => absurd h (by simp)⟩⟩
        · refine gq_callVe hX dX5_readsP_48 rfl vX5_251 (mp_num_n hb (T := T) (N := (upd N 0 (nI (l.1 (a + 1 + 1 + 1) - 48)))) (s := s) (a := a + 1 + 1 + 1 + 1 + 1) ht (by omega) h47) rfl (mqR0 hb) rfl rfl (Nat.le_of_ble_eq_true rfl) ⟨(Nat.le_of_ble_eq_true rfl), (Nat.le_of_ble_eq_true rfl)⟩ (Nat.zero_add _) (Nat.zero_add _) ?_
          refine gq_if_eqT (tgt := 58) hX dX5_readsP_51 rfl rfl ?_
          refine gq_iconst (v := nI 0) hX dX5_readsP_58 rfl (by decide) ?_
          have hr : (mG l (frmN 2) 6 1 a).1 = false ∧ (mG l (frmN 2) 6 1 a).2.1 = a + 1 + 1 + 1 + 1 + 1 := by rw [(mG_y rfl (by decide) (by decide) k1).trans ((mG_y rfl (by decide) (by decide) k2).trans ((mG_y rfl (by decide) (by decide) h44).trans (mG_dy rfl (dgm1_y h45) ((mG_y rfl (by decide) (by decide) h46).trans (mG_Dn rfl (dgm3_n h47))))))]; exact ⟨rfl, rfl⟩
          refine gq_zret hX hQ dX5_readsP_59 rfl rfl ?_
          unfold RdR
          rw [hr.1, hr.2]
          exact ⟨rfl, (upd N 0 (nI (l.1 (a + 1 + 1 + 1) - 48))), s, rfl, fun h => by cases h⟩
      · refine gq_callVe hX dX5_readsP_40 rfl vX5_248 (mp_reads_n hb (T := T) (N := (upd N 0 (nI (l.1 (a + 1 + 1 + 1) - 48)))) (s := s) (a := a + 1 + 1 + 1 + 1) ht (by omega) (by decide) h46) rfl (mqR0 hb) rfl rfl (Nat.le_of_ble_eq_true rfl) ⟨(Nat.le_of_ble_eq_true rfl), (Nat.le_of_ble_eq_true rfl)⟩ (Nat.zero_add _) (Nat.zero_add _) ?_
        refine gq_if_eqT (tgt := 58) hX dX5_readsP_43 rfl rfl ?_
        refine gq_iconst (v := nI 0) hX dX5_readsP_58 rfl (by decide) ?_
        have hr : (mG l (frmN 2) 6 1 a).1 = false ∧ (mG l (frmN 2) 6 1 a).2.1 = a + 1 + 1 + 1 + 1 := by rw [(mG_y rfl (by decide) (by decide) k1).trans ((mG_y rfl (by decide) (by decide) k2).trans ((mG_y rfl (by decide) (by decide) h44).trans (mG_dy rfl (dgm1_y h45) (mG_n rfl (by decide) (by decide) h46))))]; exact ⟨rfl, rfl⟩
        refine gq_zret hX hQ dX5_readsP_59 rfl rfl ?_
        unfold RdR
        rw [hr.1, hr.2]
        exact ⟨rfl, (upd N 0 (nI (l.1 (a + 1 + 1 + 1) - 48))), s, rfl, fun h => by cases h⟩
    · refine gq_callVe hX dX5_readsP_31 rfl vX5_245 (mp_dig_n hb (T := T) (N := N) (s := s) (a := a + 1 + 1 + 1) ht (by omega) h45) rfl (mqR0 hb) rfl rfl (Nat.le_of_ble_eq_true rfl) ⟨(Nat.le_of_ble_eq_true rfl), (Nat.le_of_ble_eq_true rfl)⟩ (Nat.zero_add _) (Nat.zero_add _) ?_
      refine gq_if_eqT (tgt := 58) hX dX5_readsP_34 rfl rfl ?_
      refine gq_iconst (v := nI 0) hX dX5_readsP_58 rfl (by decide) ?_
      have hr : (mG l (frmN 2) 6 1 a).1 = false ∧ (mG l (frmN 2) 6 1 a).2.1 = a + 1 + 1 + 1 := by rw [(mG_y rfl (by decide) (by decide) k1).trans ((mG_y rfl (by decide) (by decide) k2).trans ((mG_y rfl (by decide) (by decide) h44).trans (mG_dn rfl (dgm1_n h45))))]; exact ⟨rfl, rfl⟩
      refine gq_zret hX hQ dX5_readsP_59 rfl rfl ?_
      unfold RdR
      rw [hr.1, hr.2]
      exact ⟨rfl, N, s, rfl, fun h => by cases h⟩
  · refine gq_callVe hX dX5_readsP_23 rfl vX5_248 (mp_reads_n hb (T := T) (N := N) (s := s) (a := a + 1 + 1) ht (by omega) (by decide) h44) rfl (mqR0 hb) rfl rfl (Nat.le_of_ble_eq_true rfl) ⟨(Nat.le_of_ble_eq_true rfl), (Nat.le_of_ble_eq_true rfl)⟩ (Nat.zero_add _) (Nat.zero_add _) ?_
    refine gq_if_eqT (tgt := 58) hX dX5_readsP_26 rfl rfl ?_
    refine gq_iconst (v := nI 0) hX dX5_readsP_58 rfl (by decide) ?_
    have hr : (mG l (frmN 2) 6 1 a).1 = false ∧ (mG l (frmN 2) 6 1 a).2.1 = a + 1 + 1 := by rw [(mG_y rfl (by decide) (by decide) k1).trans ((mG_y rfl (by decide) (by decide) k2).trans (mG_n rfl (by decide) (by decide) h44))]; exact ⟨rfl, rfl⟩
    refine gq_zret hX hQ dX5_readsP_59 rfl rfl ?_
    unfold RdR
    rw [hr.1, hr.2]
    exact ⟨rfl, N, s, rfl, fun h => by cases h⟩

set_option maxRecDepth 100000 in
set_option maxHeartbeats 4000000 in
theorem mp_rdP_b {E : Ev} {b : Nat → Nat} {T : St} {w : Nat → Int32} {N : Nat → Int32} {s : Int32} {M : Hp} (hb : Lay E 9 b) {l : Ln} (ht : TxP T l) {a : Nat} (ha : a < 1000) (ha9 : a < 100) (k1 : nx l a 97 = true) (k2 : nx l (a + 1) 121 = false)  : Ct E mX5_readsP [.ref (b 0)] (MdW E b (rdT T N a s) w M) (RdR E b T w M (mG l (frmN 12) 5 1 a) (nI 104)) 0 0 := by
  refine Ct.of gmX5_readsP (ls := [.ref (b 0)]) rfl rfl (Nat.le_of_ble_eq_true rfl) ?_
  intro X hX Q hQ
  have hl60 := ht.2.1
  refine gq_aload_n hX dX5_readsP_0 rfl rfl rfl ?_
  refine gq_bipush (v := nI 97) hX dX5_readsP_1 rfl (by decide) ?_
  refine gq_callVe hX dX5_readsP_3 rfl vX5_248 (mp_reads_y hb (T := T) (N := N) (s := s) (a := a) ht (by omega) k1) rfl (mqR0 hb) rfl rfl (Nat.le_of_ble_eq_true rfl) ⟨(Nat.le_of_ble_eq_true rfl), (Nat.le_of_ble_eq_true rfl)⟩ (Nat.zero_add _) (Nat.zero_add _) ?_
  refine gq_if_neT (tgt := 11) hX dX5_readsP_6 rfl (by decide) ?_
  refine gq_aload_n hX dX5_readsP_11 rfl rfl rfl ?_
  refine gq_bipush (v := nI 121) hX dX5_readsP_12 rfl (by decide) ?_
  refine gq_callVe hX dX5_readsP_14 rfl vX5_248 (mp_reads_n hb (T := T) (N := N) (s := s) (a := a + 1) ht (by omega) (by decide) k2) rfl (mqR0 hb) rfl rfl (Nat.le_of_ble_eq_true rfl) ⟨(Nat.le_of_ble_eq_true rfl), (Nat.le_of_ble_eq_true rfl)⟩ (Nat.zero_add _) (Nat.zero_add _) ?_
  refine gq_if_eqT (tgt := 60) hX dX5_readsP_17 rfl rfl ?_
  refine gq_aload_n hX dX5_readsP_60 rfl rfl rfl ?_
  refine gq_bipush (v := nI 104) hX dX5_readsP_61 rfl (by decide) ?_
  refine gq_putf hX dX5_readsP_63 rfl fX5_254 rfl rfl rfl (mqR0 hb) (Nat.le_of_ble_eq_true rfl) (hb.2 0 (by decide)) (mqW0_18 hb) ?_
  rw [rdT_so]
  refine gq_aload_n hX dX5_readsP_66 rfl rfl rfl ?_
  refine gq_bipush (v := nI 115) hX dX5_readsP_67 rfl (by decide) ?_
  rcases Bool.eq_false_or_eq_true (nx l (a + 1) 115) with h48 | h48
  · refine gq_callVe hX dX5_readsP_69 rfl vX5_248 (mp_reads_y hb (T := T) (N := N) (s := (nI 104)) (a := a + 1) ht (by omega) h48) rfl (mqR0 hb) rfl rfl (Nat.le_of_ble_eq_true rfl) ⟨(Nat.le_of_ble_eq_true rfl), (Nat.le_of_ble_eq_true rfl)⟩ (Nat.zero_add _) (Nat.zero_add _) ?_
    refine gq_if_eqF (tgt := 105) hX dX5_readsP_72 rfl rfl (by decide) ?_
    refine gq_aload_n hX dX5_readsP_75 rfl rfl rfl ?_
    refine gq_bipush (v := nI 115) hX dX5_readsP_76 rfl (by decide) ?_
    rcases Bool.eq_false_or_eq_true (nx l (a + 1 + 1) 115) with h49 | h49
    · refine gq_callVe hX dX5_readsP_78 rfl vX5_248 (mp_reads_y hb (T := T) (N := N) (s := (nI 104)) (a := a + 1 + 1) ht (by omega) h49) rfl (mqR0 hb) rfl rfl (Nat.le_of_ble_eq_true rfl) ⟨(Nat.le_of_ble_eq_true rfl), (Nat.le_of_ble_eq_true rfl)⟩ (Nat.zero_add _) (Nat.zero_add _) ?_
      refine gq_if_eqF (tgt := 105) hX dX5_readsP_81 rfl rfl (by decide) ?_
      refine gq_aload_n hX dX5_readsP_84 rfl rfl rfl ?_
      refine gq_bipush (v := nI 32) hX dX5_readsP_85 rfl (by decide) ?_
      rcases Bool.eq_false_or_eq_true (nx l (a + 1 + 1 + 1) 32) with h50 | h50
      · refine gq_callVe hX dX5_readsP_87 rfl vX5_248 (mp_reads_y hb (T := T) (N := N) (s := (nI 104)) (a := a + 1 + 1 + 1) ht (by omega) h50) rfl (mqR0 hb) rfl rfl (Nat.le_of_ble_eq_true rfl) ⟨(Nat.le_of_ble_eq_true rfl), (Nat.le_of_ble_eq_true rfl)⟩ (Nat.zero_add _) (Nat.zero_add _) ?_
        refine gq_if_eqF (tgt := 105) hX dX5_readsP_90 rfl rfl (by decide) ?_
        refine gq_aload_n hX dX5_readsP_93 rfl rfl rfl ?_
        refine gq_iconst (v := nI 0) hX dX5_readsP_94 rfl (by decide) ?_
        by_cases h51 : dgt l (a + 1 + 1 + 1 + 1) = true
        · have dh51 := dgm_le (l := l) (a := a + 1 + 1 + 1 + 1) 3
          refine gq_callVe hX dX5_readsP_95 rfl vX5_251 (mp_num_y hb (T := T) (N := N) (s := (nI 104)) (a := a + 1 + 1 + 1 + 1) ht (by omega) (by decide) h51) rfl (mqR0 hb) rfl rfl (Nat.le_of_ble_eq_true rfl) ⟨(Nat.le_of_ble_eq_true rfl), (Nat.le_of_ble_eq_true rfl)⟩ (Nat.zero_add _) (Nat.zero_add _) ?_
          refine gq_if_eqF (tgt := 105) hX dX5_readsP_98 rfl rfl (by decide) ?_
          refine gq_iconst (v := nI 1) hX dX5_readsP_101 rfl (by decide) ?_
          refine gq_goto (tgt := 106) hX dX5_readsP_102 rfl ?_
          have hr : mG l (frmN 12) 5 1 a = (true, a + 1 + 1 + 1 + 1 + dgm l (a + 1 + 1 + 1 + 1) 3, [valN l (a + 1 + 1 + 1 + 1) (dgm l (a + 1 + 1 + 1 + 1) 3)]) := (mG_y rfl (by decide) (by decide) k1).trans ((mG_y rfl (by decide) (by decide) h48).trans ((mG_y rfl (by decide) (by decide) h49).trans ((mG_y rfl (by decide) (by decide) h50).trans (mG_Dy rfl rfl (dgm3_y h51) (rfl)))))
          refine gq_zret hX hQ dX5_readsP_106 rfl rfl ?_
          unfold RdR
          rw [hr]
          exact ⟨rfl, (upd N 0 (nI (valN l (a + 1 + 1 + 1 + 1) (dgm l (a + 1 + 1 + 1 + 1) 3)))), (nI 104), rfl, fun _ => ⟨rfl, fun q hq => match q, hq with | 0, _ => upd_s _ _ _ | _ + 1, h => absurd h (by simp)⟩⟩
        · refine gq_callVe hX dX5_readsP_95 rfl vX5_251 (mp_num_n hb (T := T) (N := N) (s := (nI 104)) (a := a + 1 + 1 + 1 + 1) ht (by omega) h51) rfl (mqR0 hb) rfl rfl (Nat.le_of_ble_eq_true rfl) ⟨(Nat.le_of_ble_eq_true rfl), (Nat.le_of_ble_eq_true rfl)⟩ (Nat.zero_add _) (Nat.zero_add _) ?_
          refine gq_if_eqT (tgt := 105) hX dX5_readsP_98 rfl rfl ?_
          refine gq_iconst (v := nI 0) hX dX5_readsP_105 rfl (by decide) ?_
          have hr : (mG l (frmN 12) 5 1 a).1 = false ∧ (mG l (frmN 12) 5 1 a).2.1 = a + 1 + 1 + 1 + 1 := by rw [(mG_y rfl (by decide) (by decide) k1).trans ((mG_y rfl (by decide) (by decide) h48).trans ((mG_y rfl (by decide) (by decide) h49).trans ((mG_y rfl (by decide) (by decide) h50).trans (mG_Dn rfl (dgm3_n h51)))))]; exact ⟨rfl, rfl⟩
          refine gq_zret hX hQ dX5_readsP_106 rfl rfl ?_
          unfold RdR
          rw [hr.1, hr.2]
          exact ⟨rfl, N, (nI 104), rfl, fun h => by cases h⟩
      · refine gq_callVe hX dX5_readsP_87 rfl vX5_248 (mp_reads_n hb (T := T) (N := N) (s := (nI 104)) (a := a + 1 + 1 + 1) ht (by omega) (by decide) h50) rfl (mqR0 hb) rfl rfl (Nat.le_of_ble_eq_true rfl) ⟨(Nat.le_of_ble_eq_true rfl), (Nat.le_of_ble_eq_true rfl)⟩ (Nat.zero_add _) (Nat.zero_add _) ?_
        refine gq_if_eqT (tgt := 105) hX dX5_readsP_90 rfl rfl ?_
        refine gq_iconst (v := nI 0) hX dX5_readsP_105 rfl (by decide) ?_
        have hr : (mG l (frmN 12) 5 1 a).1 = false ∧ (mG l (frmN 12) 5 1 a).2.1 = a + 1 + 1 + 1 := by rw [(mG_y rfl (by decide) (by decide) k1).trans ((mG_y rfl (by decide) (by decide) h48).trans ((mG_y rfl (by decide) (by decide) h49).trans (mG_n rfl (by decide) (by decide) h50)))]; exact ⟨rfl, rfl⟩
        refine gq_zret hX hQ dX5_readsP_106 rfl rfl ?_
        unfold RdR
        rw [hr.1, hr.2]
        exact ⟨rfl, N, (nI 104), rfl, fun h => by cases h⟩
    · refine gq_callVe hX dX5_readsP_78 rfl vX5_248 (mp_reads_n hb (T := T) (N := N) (s := (nI 104)) (a := a + 1 + 1) ht (by omega) (by decide) h49) rfl (mqR0 hb) rfl rfl (Nat.le_of_ble_eq_true rfl) ⟨(Nat.le_of_ble_eq_true rfl), (Nat.le_of_ble_eq_true rfl)⟩ (Nat.zero_add _) (Nat.zero_add _) ?_
      refine gq_if_eqT (tgt := 105) hX dX5_readsP_81 rfl rfl ?_
      refine gq_iconst (v := nI 0) hX dX5_readsP_105 rfl (by decide) ?_
      have hr : (mG l (frmN 12) 5 1 a).1 = false ∧ (mG l (frmN 12) 5 1 a).2.1 = a + 1 + 1 := by rw [(mG_y rfl (by decide) (by decide) k1).trans ((mG_y rfl (by decide) (by decide) h48).trans (mG_n rfl (by decide) (by decide) h49))]; exact ⟨rfl, rfl⟩
      refine gq_zret hX hQ dX5_readsP_106 rfl rfl ?_
      unfold RdR
      rw [hr.1, hr.2]
      exact ⟨rfl, N, (nI 104), rfl, fun h => by cases h⟩
  · refine gq_callVe hX dX5_readsP_69 rfl vX5_248 (mp_reads_n hb (T := T) (N := N) (s := (nI 104)) (a := a + 1) ht (by omega) (by decide) h48) rfl (mqR0 hb) rfl rfl (Nat.le_of_ble_eq_true rfl) ⟨(Nat.le_of_ble_eq_true rfl), (Nat.le_of_ble_eq_true rfl)⟩ (Nat.zero_add _) (Nat.zero_add _) ?_
    refine gq_if_eqT (tgt := 105) hX dX5_readsP_72 rfl rfl ?_
    refine gq_iconst (v := nI 0) hX dX5_readsP_105 rfl (by decide) ?_
    have hr : (mG l (frmN 12) 5 1 a).1 = false ∧ (mG l (frmN 12) 5 1 a).2.1 = a + 1 := by rw [(mG_y rfl (by decide) (by decide) k1).trans (mG_n rfl (by decide) (by decide) h48)]; exact ⟨rfl, rfl⟩
    refine gq_zret hX hQ dX5_readsP_106 rfl rfl ?_
    unfold RdR
    rw [hr.1, hr.2]
    exact ⟨rfl, N, (nI 104), rfl, fun h => by cases h⟩

set_option maxRecDepth 100000 in
set_option maxHeartbeats 4000000 in
theorem mp_rdP_c {E : Ev} {b : Nat → Nat} {T : St} {w : Nat → Int32} {N : Nat → Int32} {s : Int32} {M : Hp} (hb : Lay E 9 b) {l : Ln} (ht : TxP T l) {a : Nat} (ha : a < 1000) (ha9 : a < 100) (k1 : nx l a 97 = false)  : Ct E mX5_readsP [.ref (b 0)] (MdW E b (rdT T N a s) w M) (RdR E b T w M (mG l (frmN 2) 6 1 a) s) 0 0 := by
  refine Ct.of gmX5_readsP (ls := [.ref (b 0)]) rfl rfl (Nat.le_of_ble_eq_true rfl) ?_
  intro X hX Q hQ
  have hl60 := ht.2.1
  refine gq_aload_n hX dX5_readsP_0 rfl rfl rfl ?_
  refine gq_bipush (v := nI 97) hX dX5_readsP_1 rfl (by decide) ?_
  refine gq_callVe hX dX5_readsP_3 rfl vX5_248 (mp_reads_n hb (T := T) (N := N) (s := s) (a := a) ht (by omega) (by decide) k1) rfl (mqR0 hb) rfl rfl (Nat.le_of_ble_eq_true rfl) ⟨(Nat.le_of_ble_eq_true rfl), (Nat.le_of_ble_eq_true rfl)⟩ (Nat.zero_add _) (Nat.zero_add _) ?_
  refine gq_if_neF (tgt := 11) hX dX5_readsP_6 rfl rfl rfl ?_
  refine gq_iconst (v := nI 0) hX dX5_readsP_9 rfl (by decide) ?_
  have hr : (mG l (frmN 2) 6 1 a).1 = false ∧ (mG l (frmN 2) 6 1 a).2.1 = a := by rw [mG_n rfl (by decide) (by decide) k1]; exact ⟨rfl, rfl⟩
  refine gq_zret hX hQ dX5_readsP_10 rfl rfl ?_
  unfold RdR
  rw [hr.1, hr.2]
  exact ⟨rfl, N, s, rfl, fun h => by cases h⟩

set_option maxRecDepth 100000 in
set_option maxHeartbeats 4000000 in
theorem mp_rdR_a {E : Ev} {b : Nat → Nat} {T : St} {w : Nat → Int32} {N : Nat → Int32} {s : Int32} {M : Hp} (hb : Lay E 9 b) {l : Ln} (ht : TxP T l) {a : Nat} (ha : a < 1000) (ha9 : a < 100) (k1 : nx l a 101 = true) (k2 : nx l (a + 1) 110 = true)  : Ct E mX5_readsR [.ref (b 0)] (MdW E b (rdT T N a s) w M) (RdR E b T w M (mG l (frmN 4) 6 1 a) s) 0 0 := by
  refine Ct.of gmX5_readsR (ls := [.ref (b 0)]) rfl rfl (Nat.le_of_ble_eq_true rfl) ?_
  intro X hX Q hQ
  have hl60 := ht.2.1
  refine gq_aload_n hX dX5_readsR_0 rfl rfl rfl ?_
  refine gq_bipush (v := nI 101) hX dX5_readsR_1 rfl (by decide) ?_
  refine gq_callVe hX dX5_readsR_3 rfl vX5_248 (mp_reads_y hb (T := T) (N := N) (s := s) (a := a) ht (by omega) k1) rfl (mqR0 hb) rfl rfl (Nat.le_of_ble_eq_true rfl) ⟨(Nat.le_of_ble_eq_true rfl), (Nat.le_of_ble_eq_true rfl)⟩ (Nat.zero_add _) (Nat.zero_add _) ?_
  refine gq_if_neT (tgt := 11) hX dX5_readsR_6 rfl (by decide) ?_
  refine gq_aload_n hX dX5_readsR_11 rfl rfl rfl ?_
  refine gq_bipush (v := nI 110) hX dX5_readsR_12 rfl (by decide) ?_
  refine gq_callVe hX dX5_readsR_14 rfl vX5_248 (mp_reads_y hb (T := T) (N := N) (s := s) (a := a + 1) ht (by omega) k2) rfl (mqR0 hb) rfl rfl (Nat.le_of_ble_eq_true rfl) ⟨(Nat.le_of_ble_eq_true rfl), (Nat.le_of_ble_eq_true rfl)⟩ (Nat.zero_add _) (Nat.zero_add _) ?_
  refine gq_if_eqF (tgt := 60) hX dX5_readsR_17 rfl rfl (by decide) ?_
  refine gq_aload_n hX dX5_readsR_20 rfl rfl rfl ?_
  refine gq_bipush (v := nI 116) hX dX5_readsR_21 rfl (by decide) ?_
  rcases Bool.eq_false_or_eq_true (nx l (a + 1 + 1) 116) with h52 | h52
  · refine gq_callVe hX dX5_readsR_23 rfl vX5_248 (mp_reads_y hb (T := T) (N := N) (s := s) (a := a + 1 + 1) ht (by omega) h52) rfl (mqR0 hb) rfl rfl (Nat.le_of_ble_eq_true rfl) ⟨(Nat.le_of_ble_eq_true rfl), (Nat.le_of_ble_eq_true rfl)⟩ (Nat.zero_add _) (Nat.zero_add _) ?_
    refine gq_if_eqF (tgt := 58) hX dX5_readsR_26 rfl rfl (by decide) ?_
    refine gq_aload_n hX dX5_readsR_29 rfl rfl rfl ?_
    refine gq_bipush (v := nI 32) hX dX5_readsR_30 rfl (by decide) ?_
    rcases Bool.eq_false_or_eq_true (nx l (a + 1 + 1 + 1) 32) with h53 | h53
    · refine gq_callVe hX dX5_readsR_32 rfl vX5_248 (mp_reads_y hb (T := T) (N := N) (s := s) (a := a + 1 + 1 + 1) ht (by omega) h53) rfl (mqR0 hb) rfl rfl (Nat.le_of_ble_eq_true rfl) ⟨(Nat.le_of_ble_eq_true rfl), (Nat.le_of_ble_eq_true rfl)⟩ (Nat.zero_add _) (Nat.zero_add _) ?_
      refine gq_if_eqF (tgt := 58) hX dX5_readsR_35 rfl rfl (by decide) ?_
      refine gq_aload_n hX dX5_readsR_38 rfl rfl rfl ?_
      refine gq_iconst (v := nI 0) hX dX5_readsR_39 rfl (by decide) ?_
      by_cases h54 : dgt l (a + 1 + 1 + 1 + 1) = true
      · refine gq_callVe hX dX5_readsR_40 rfl vX5_245 (mp_dig_y hb (T := T) (N := N) (s := s) (a := a + 1 + 1 + 1 + 1) ht (by omega) (by decide) h54) rfl (mqR0 hb) rfl rfl (Nat.le_of_ble_eq_true rfl) ⟨(Nat.le_of_ble_eq_true rfl), (Nat.le_of_ble_eq_true rfl)⟩ (Nat.zero_add _) (Nat.zero_add _) ?_
        refine gq_if_eqF (tgt := 58) hX dX5_readsR_43 rfl rfl (by decide) ?_
        refine gq_aload_n hX dX5_readsR_46 rfl rfl rfl ?_
        refine gq_iconst (v := nI 1) hX dX5_readsR_47 rfl (by decide) ?_
        by_cases h55 : dgt l (a + 1 + 1 + 1 + 1 + 1) = true
        · refine gq_callVe hX dX5_readsR_48 rfl vX5_245 (mp_dig_y hb (T := T) (N := (upd N 0 (nI (l.1 (a + 1 + 1 + 1 + 1) - 48)))) (s := s) (a := a + 1 + 1 + 1 + 1 + 1) ht (by omega) (by decide) h55) rfl (mqR0 hb) rfl rfl (Nat.le_of_ble_eq_true rfl) ⟨(Nat.le_of_ble_eq_true rfl), (Nat.le_of_ble_eq_true rfl)⟩ (Nat.zero_add _) (Nat.zero_add _) ?_
          refine gq_if_eqF (tgt := 58) hX dX5_readsR_51 rfl rfl (by decide) ?_
          refine gq_iconst (v := nI 1) hX dX5_readsR_54 rfl (by decide) ?_
          refine gq_goto (tgt := 59) hX dX5_readsR_55 rfl ?_
          have hr : mG l (frmN 4) 6 1 a = (true, a + 1 + 1 + 1 + 1 + 1 + 1, [l.1 (a + 1 + 1 + 1 + 1) - 48, l.1 (a + 1 + 1 + 1 + 1 + 1) - 48]) := (mG_y rfl (by decide) (by decide) k1).trans ((mG_y rfl (by decide) (by decide) k2).trans ((mG_y rfl (by decide) (by decide) h52).trans ((mG_y rfl (by decide) (by decide) h53).trans (mG_dy rfl (dgm1_y h54) (mG_dy rfl (dgm1_y h55) (rfl))))))
          refine gq_zret hX hQ dX5_readsR_59 rfl rfl ?_
          unfold RdR
          rw [hr]
          exact ⟨rfl, (upd (upd N 0 (nI (l.1 (a + 1 + 1 + 1 + 1) - 48))) 1 (nI (l.1 (a + 1 + 1 + 1 + 1 + 1) - 48))), s, rfl, fun _ => ⟨rfl, fun q hq => match q, hq with | 0, _ => (upd_n _ (by decide)).trans (upd_s _ _ _) | 1, _ => upd_s _ _ _ | _ + 2, h => absurd h (by simp)⟩⟩
        · refine gq_callVe hX dX5_readsR_48 rfl vX5_245 (mp_dig_n hb (T := T) (N := (upd N 0 (nI (l.1 (a + 1 + 1 + 1 + 1) - 48)))) (s := s) (a := a + 1 + 1 + 1 + 1 + 1) ht (by omega) h55) rfl (mqR0 hb) rfl rfl (Nat.le_of_ble_eq_true rfl) ⟨(Nat.le_of_ble_eq_true rfl), (Nat.le_of_ble_eq_true rfl)⟩ (Nat.zero_add _) (Nat.zero_add _) ?_
          refine gq_if_eqT (tgt := 58) hX dX5_readsR_51 rfl rfl ?_
          refine gq_iconst (v := nI 0) hX dX5_readsR_58 rfl (by decide) ?_
          have hr : (mG l (frmN 4) 6 1 a).1 = false ∧ (mG l (frmN 4) 6 1 a).2.1 = a + 1 + 1 + 1 + 1 + 1 := by rw [(mG_y rfl (by decide) (by decide) k1).trans ((mG_y rfl (by decide) (by decide) k2).trans ((mG_y rfl (by decide) (by decide) h52).trans ((mG_y rfl (by decide) (by decide) h53).trans (mG_dy rfl (dgm1_y h54) (mG_dn rfl (dgm1_n h55))))))]; exact ⟨rfl, rfl⟩
          refine gq_zret hX hQ dX5_readsR_59 rfl rfl ?_
          unfold RdR
          rw [hr.1, hr.2]
          exact ⟨rfl, (upd N 0 (nI (l.1 (a + 1 + 1 + 1 + 1) - 48))), s, rfl, fun h => by cases h⟩
      · refine gq_callVe hX dX5_readsR_40 rfl vX5_245 (mp_dig_n hb (T := T) (N := N) (s := s) (a := a + 1 + 1 + 1 + 1) ht (by omega) h54) rfl (mqR0 hb) rfl rfl (Nat.le_of_ble_eq_true rfl) ⟨(Nat.le_of_ble_eq_true rfl), (Nat.le_of_ble_eq_true rfl)⟩ (Nat.zero_add _) (Nat.zero_add _) ?_
        refine gq_if_eqT (tgt := 58) hX dX5_readsR_43 rfl rfl ?_
        refine gq_iconst (v := nI 0) hX dX5_readsR_58 rfl (by decide) ?_
        have hr : (mG l (frmN 4) 6 1 a).1 = false ∧ (mG l (frmN 4) 6 1 a).2.1 = a + 1 + 1 + 1 + 1 := by rw [(mG_y rfl (by decide) (by decide) k1).trans ((mG_y rfl (by decide) (by decide) k2).trans ((mG_y rfl (by decide) (by decide) h52).trans ((mG_y rfl (by decide) (by decide) h53).trans (mG_dn rfl (dgm1_n h54)))))]; exact ⟨rfl, rfl⟩
        refine gq_zret hX hQ dX5_readsR_59 rfl rfl ?_
        unfold RdR
        rw [hr.1, hr.2]
        exact ⟨rfl, N, s, rfl, fun h => by cases h⟩
    · refine gq_callVe hX dX5_readsR_32 rfl vX5_248 (mp_reads_n hb (T := T) (N := N) (s := s) (a := a + 1 + 1 + 1) ht (by omega) (by decide) h53) rfl (mqR0 hb) rfl rfl (Nat.le_of_ble_eq_true rfl) ⟨(Nat.le_of_ble_eq_true rfl), (Nat.le_of_ble_eq_true rfl)⟩ (Nat.zero_add _) (Nat.zero_add _) ?_
      refine gq_if_eqT (tgt := 58) hX dX5_readsR_35 rfl rfl ?_
      refine gq_iconst (v := nI 0) hX dX5_readsR_58 rfl (by decide) ?_
      have hr : (mG l (frmN 4) 6 1 a).1 = false ∧ (mG l (frmN 4) 6 1 a).2.1 = a + 1 + 1 + 1 := by rw [(mG_y rfl (by decide) (by decide) k1).trans ((mG_y rfl (by decide) (by decide) k2).trans ((mG_y rfl (by decide) (by decide) h52).trans (mG_n rfl (by decide) (by decide) h53)))]; exact ⟨rfl, rfl⟩
      refine gq_zret hX hQ dX5_readsR_59 rfl rfl ?_
      unfold RdR
      rw [hr.1, hr.2]
      exact ⟨rfl, N, s, rfl, fun h => by cases h⟩
  · refine gq_callVe hX dX5_readsR_23 rfl vX5_248 (mp_reads_n hb (T := T) (N := N) (s := s) (a := a + 1 + 1) ht (by omega) (by decide) h52) rfl (mqR0 hb) rfl rfl (Nat.le_of_ble_eq_true rfl) ⟨(Nat.le_of_ble_eq_true rfl), (Nat.le_of_ble_eq_true rfl)⟩ (Nat.zero_add _) (Nat.zero_add _) ?_
    refine gq_if_eqT (tgt := 58) hX dX5_readsR_26 rfl rfl ?_
    refine gq_iconst (v := nI 0) hX dX5_readsR_58 rfl (by decide) ?_
    have hr : (mG l (frmN 4) 6 1 a).1 = false ∧ (mG l (frmN 4) 6 1 a).2.1 = a + 1 + 1 := by rw [(mG_y rfl (by decide) (by decide) k1).trans ((mG_y rfl (by decide) (by decide) k2).trans (mG_n rfl (by decide) (by decide) h52))]; exact ⟨rfl, rfl⟩
    refine gq_zret hX hQ dX5_readsR_59 rfl rfl ?_
    unfold RdR
    rw [hr.1, hr.2]
    exact ⟨rfl, N, s, rfl, fun h => by cases h⟩

set_option maxRecDepth 100000 in
set_option maxHeartbeats 4000000 in
theorem mp_rdR_b {E : Ev} {b : Nat → Nat} {T : St} {w : Nat → Int32} {N : Nat → Int32} {s : Int32} {M : Hp} (hb : Lay E 9 b) {l : Ln} (ht : TxP T l) {a : Nat} (ha : a < 1000) (ha9 : a < 100) (k1 : nx l a 101 = true) (k2 : nx l (a + 1) 110 = false)  : Ct E mX5_readsR [.ref (b 0)] (MdW E b (rdT T N a s) w M) (RdR E b T w M (mG l (frmN 5) 8 1 a) (nI 98)) 0 0 := by
  refine Ct.of gmX5_readsR (ls := [.ref (b 0)]) rfl rfl (Nat.le_of_ble_eq_true rfl) ?_
  intro X hX Q hQ
  have hl60 := ht.2.1
  refine gq_aload_n hX dX5_readsR_0 rfl rfl rfl ?_
  refine gq_bipush (v := nI 101) hX dX5_readsR_1 rfl (by decide) ?_
  refine gq_callVe hX dX5_readsR_3 rfl vX5_248 (mp_reads_y hb (T := T) (N := N) (s := s) (a := a) ht (by omega) k1) rfl (mqR0 hb) rfl rfl (Nat.le_of_ble_eq_true rfl) ⟨(Nat.le_of_ble_eq_true rfl), (Nat.le_of_ble_eq_true rfl)⟩ (Nat.zero_add _) (Nat.zero_add _) ?_
  refine gq_if_neT (tgt := 11) hX dX5_readsR_6 rfl (by decide) ?_
  refine gq_aload_n hX dX5_readsR_11 rfl rfl rfl ?_
  refine gq_bipush (v := nI 110) hX dX5_readsR_12 rfl (by decide) ?_
  refine gq_callVe hX dX5_readsR_14 rfl vX5_248 (mp_reads_n hb (T := T) (N := N) (s := s) (a := a + 1) ht (by omega) (by decide) k2) rfl (mqR0 hb) rfl rfl (Nat.le_of_ble_eq_true rfl) ⟨(Nat.le_of_ble_eq_true rfl), (Nat.le_of_ble_eq_true rfl)⟩ (Nat.zero_add _) (Nat.zero_add _) ?_
  refine gq_if_eqT (tgt := 60) hX dX5_readsR_17 rfl rfl ?_
  refine gq_aload_n hX dX5_readsR_60 rfl rfl rfl ?_
  refine gq_bipush (v := nI 98) hX dX5_readsR_61 rfl (by decide) ?_
  refine gq_putf hX dX5_readsR_63 rfl fX5_254 rfl rfl rfl (mqR0 hb) (Nat.le_of_ble_eq_true rfl) (hb.2 0 (by decide)) (mqW0_18 hb) ?_
  rw [rdT_so]
  refine gq_aload_n hX dX5_readsR_66 rfl rfl rfl ?_
  refine gq_bipush (v := nI 116) hX dX5_readsR_67 rfl (by decide) ?_
  rcases Bool.eq_false_or_eq_true (nx l (a + 1) 116) with h56 | h56
  · refine gq_callVe hX dX5_readsR_69 rfl vX5_248 (mp_reads_y hb (T := T) (N := N) (s := (nI 98)) (a := a + 1) ht (by omega) h56) rfl (mqR0 hb) rfl rfl (Nat.le_of_ble_eq_true rfl) ⟨(Nat.le_of_ble_eq_true rfl), (Nat.le_of_ble_eq_true rfl)⟩ (Nat.zero_add _) (Nat.zero_add _) ?_
    refine gq_if_eqF (tgt := 131) hX dX5_readsR_72 rfl rfl (by decide) ?_
    refine gq_aload_n hX dX5_readsR_75 rfl rfl rfl ?_
    refine gq_bipush (v := nI 117) hX dX5_readsR_76 rfl (by decide) ?_
    rcases Bool.eq_false_or_eq_true (nx l (a + 1 + 1) 117) with h57 | h57
    · refine gq_callVe hX dX5_readsR_78 rfl vX5_248 (mp_reads_y hb (T := T) (N := N) (s := (nI 98)) (a := a + 1 + 1) ht (by omega) h57) rfl (mqR0 hb) rfl rfl (Nat.le_of_ble_eq_true rfl) ⟨(Nat.le_of_ble_eq_true rfl), (Nat.le_of_ble_eq_true rfl)⟩ (Nat.zero_add _) (Nat.zero_add _) ?_
      refine gq_if_eqF (tgt := 131) hX dX5_readsR_81 rfl rfl (by decide) ?_
      refine gq_aload_n hX dX5_readsR_84 rfl rfl rfl ?_
      refine gq_bipush (v := nI 114) hX dX5_readsR_85 rfl (by decide) ?_
      rcases Bool.eq_false_or_eq_true (nx l (a + 1 + 1 + 1) 114) with h58 | h58
      · refine gq_callVe hX dX5_readsR_87 rfl vX5_248 (mp_reads_y hb (T := T) (N := N) (s := (nI 98)) (a := a + 1 + 1 + 1) ht (by omega) h58) rfl (mqR0 hb) rfl rfl (Nat.le_of_ble_eq_true rfl) ⟨(Nat.le_of_ble_eq_true rfl), (Nat.le_of_ble_eq_true rfl)⟩ (Nat.zero_add _) (Nat.zero_add _) ?_
        refine gq_if_eqF (tgt := 131) hX dX5_readsR_90 rfl rfl (by decide) ?_
        refine gq_aload_n hX dX5_readsR_93 rfl rfl rfl ?_
        refine gq_bipush (v := nI 110) hX dX5_readsR_94 rfl (by decide) ?_
        rcases Bool.eq_false_or_eq_true (nx l (a + 1 + 1 + 1 + 1) 110) with h59 | h59
        · refine gq_callVe hX dX5_readsR_96 rfl vX5_248 (mp_reads_y hb (T := T) (N := N) (s := (nI 98)) (a := a + 1 + 1 + 1 + 1) ht (by omega) h59) rfl (mqR0 hb) rfl rfl (Nat.le_of_ble_eq_true rfl) ⟨(Nat.le_of_ble_eq_true rfl), (Nat.le_of_ble_eq_true rfl)⟩ (Nat.zero_add _) (Nat.zero_add _) ?_
          refine gq_if_eqF (tgt := 131) hX dX5_readsR_99 rfl rfl (by decide) ?_
          refine gq_aload_n hX dX5_readsR_102 rfl rfl rfl ?_
          refine gq_bipush (v := nI 32) hX dX5_readsR_103 rfl (by decide) ?_
          rcases Bool.eq_false_or_eq_true (nx l (a + 1 + 1 + 1 + 1 + 1) 32) with h60 | h60
          · refine gq_callVe hX dX5_readsR_105 rfl vX5_248 (mp_reads_y hb (T := T) (N := N) (s := (nI 98)) (a := a + 1 + 1 + 1 + 1 + 1) ht (by omega) h60) rfl (mqR0 hb) rfl rfl (Nat.le_of_ble_eq_true rfl) ⟨(Nat.le_of_ble_eq_true rfl), (Nat.le_of_ble_eq_true rfl)⟩ (Nat.zero_add _) (Nat.zero_add _) ?_
            refine gq_if_eqF (tgt := 131) hX dX5_readsR_108 rfl rfl (by decide) ?_
            refine gq_aload_n hX dX5_readsR_111 rfl rfl rfl ?_
            refine gq_iconst (v := nI 0) hX dX5_readsR_112 rfl (by decide) ?_
            by_cases h61 : dgt l (a + 1 + 1 + 1 + 1 + 1 + 1) = true
            · refine gq_callVe hX dX5_readsR_113 rfl vX5_245 (mp_dig_y hb (T := T) (N := N) (s := (nI 98)) (a := a + 1 + 1 + 1 + 1 + 1 + 1) ht (by omega) (by decide) h61) rfl (mqR0 hb) rfl rfl (Nat.le_of_ble_eq_true rfl) ⟨(Nat.le_of_ble_eq_true rfl), (Nat.le_of_ble_eq_true rfl)⟩ (Nat.zero_add _) (Nat.zero_add _) ?_
              refine gq_if_eqF (tgt := 131) hX dX5_readsR_116 rfl rfl (by decide) ?_
              refine gq_aload_n hX dX5_readsR_119 rfl rfl rfl ?_
              refine gq_iconst (v := nI 1) hX dX5_readsR_120 rfl (by decide) ?_
              by_cases h62 : dgt l (a + 1 + 1 + 1 + 1 + 1 + 1 + 1) = true
              · refine gq_callVe hX dX5_readsR_121 rfl vX5_245 (mp_dig_y hb (T := T) (N := (upd N 0 (nI (l.1 (a + 1 + 1 + 1 + 1 + 1 + 1) - 48)))) (s := (nI 98)) (a := a + 1 + 1 + 1 + 1 + 1 + 1 + 1) ht (by omega) (by decide) h62) rfl (mqR0 hb) rfl rfl (Nat.le_of_ble_eq_true rfl) ⟨(Nat.le_of_ble_eq_true rfl), (Nat.le_of_ble_eq_true rfl)⟩ (Nat.zero_add _) (Nat.zero_add _) ?_
                refine gq_if_eqF (tgt := 131) hX dX5_readsR_124 rfl rfl (by decide) ?_
                refine gq_iconst (v := nI 1) hX dX5_readsR_127 rfl (by decide) ?_
                refine gq_goto (tgt := 132) hX dX5_readsR_128 rfl ?_
                have hr : mG l (frmN 5) 8 1 a = (true, a + 1 + 1 + 1 + 1 + 1 + 1 + 1 + 1, [l.1 (a + 1 + 1 + 1 + 1 + 1 + 1) - 48, l.1 (a + 1 + 1 + 1 + 1 + 1 + 1 + 1) - 48]) := (mG_y rfl (by decide) (by decide) k1).trans ((mG_y rfl (by decide) (by decide) h56).trans ((mG_y rfl (by decide) (by decide) h57).trans ((mG_y rfl (by decide) (by decide) h58).trans ((mG_y rfl (by decide) (by decide) h59).trans ((mG_y rfl (by decide) (by decide) h60).trans (mG_dy rfl (dgm1_y h61) (mG_dy rfl (dgm1_y h62) (rfl))))))))
                refine gq_zret hX hQ dX5_readsR_132 rfl rfl ?_
                unfold RdR
                rw [hr]
                exact ⟨rfl, (upd (upd N 0 (nI (l.1 (a + 1 + 1 + 1 + 1 + 1 + 1) - 48))) 1 (nI (l.1 (a + 1 + 1 + 1 + 1 + 1 + 1 + 1) - 48))), (nI 98), rfl, fun _ => ⟨rfl, fun q hq => match q, hq with | 0, _ => (upd_n _ (by decide)).trans (upd_s _ _ _) | 1, _ => upd_s _ _ _ | _ + 2, h => absurd h (by simp)⟩⟩
              · refine gq_callVe hX dX5_readsR_121 rfl vX5_245 (mp_dig_n hb (T := T) (N := (upd N 0 (nI (l.1 (a + 1 + 1 + 1 + 1 + 1 + 1) - 48)))) (s := (nI 98)) (a := a + 1 + 1 + 1 + 1 + 1 + 1 + 1) ht (by omega) h62) rfl (mqR0 hb) rfl rfl (Nat.le_of_ble_eq_true rfl) ⟨(Nat.le_of_ble_eq_true rfl), (Nat.le_of_ble_eq_true rfl)⟩ (Nat.zero_add _) (Nat.zero_add _) ?_
                refine gq_if_eqT (tgt := 131) hX dX5_readsR_124 rfl rfl ?_
                refine gq_iconst (v := nI 0) hX dX5_readsR_131 rfl (by decide) ?_
                have hr : (mG l (frmN 5) 8 1 a).1 = false ∧ (mG l (frmN 5) 8 1 a).2.1 = a + 1 + 1 + 1 + 1 + 1 + 1 + 1 := by rw [(mG_y rfl (by decide) (by decide) k1).trans ((mG_y rfl (by decide) (by decide) h56).trans ((mG_y rfl (by decide) (by decide) h57).trans ((mG_y rfl (by decide) (by decide) h58).trans ((mG_y rfl (by decide) (by decide) h59).trans ((mG_y rfl (by decide) (by decide) h60).trans (mG_dy rfl (dgm1_y h61) (mG_dn rfl (dgm1_n h62))))))))]; exact ⟨rfl, rfl⟩
                refine gq_zret hX hQ dX5_readsR_132 rfl rfl ?_
                unfold RdR
                rw [hr.1, hr.2]
                exact ⟨rfl, (upd N 0 (nI (l.1 (a + 1 + 1 + 1 + 1 + 1 + 1) - 48))), (nI 98), rfl, fun h => by cases h⟩
            · refine gq_callVe hX dX5_readsR_113 rfl vX5_245 (mp_dig_n hb (T := T) (N := N) (s := (nI 98)) (a := a + 1 + 1 + 1 + 1 + 1 + 1) ht (by omega) h61) rfl (mqR0 hb) rfl rfl (Nat.le_of_ble_eq_true rfl) ⟨(Nat.le_of_ble_eq_true rfl), (Nat.le_of_ble_eq_true rfl)⟩ (Nat.zero_add _) (Nat.zero_add _) ?_
              refine gq_if_eqT (tgt := 131) hX dX5_readsR_116 rfl rfl ?_
              refine gq_iconst (v := nI 0) hX dX5_readsR_131 rfl (by decide) ?_
              have hr : (mG l (frmN 5) 8 1 a).1 = false ∧ (mG l (frmN 5) 8 1 a).2.1 = a + 1 + 1 + 1 + 1 + 1 + 1 := by rw [(mG_y rfl (by decide) (by decide) k1).trans ((mG_y rfl (by decide) (by decide) h56).trans ((mG_y rfl (by decide) (by decide) h57).trans ((mG_y rfl (by decide) (by decide) h58).trans ((mG_y rfl (by decide) (by decide) h59).trans ((mG_y rfl (by decide) (by decide) h60).trans (mG_dn rfl (dgm1_n h61)))))))]; exact ⟨rfl, rfl⟩
              refine gq_zret hX hQ dX5_readsR_132 rfl rfl ?_
              unfold RdR
              rw [hr.1, hr.2]
              exact ⟨rfl, N, (nI 98), rfl, fun h => by cases h⟩
          · refine gq_callVe hX dX5_readsR_105 rfl vX5_248 (mp_reads_n hb (T := T) (N := N) (s := (nI 98)) (a := a + 1 + 1 + 1 + 1 + 1) ht (by omega) (by decide) h60) rfl (mqR0 hb) rfl rfl (Nat.le_of_ble_eq_true rfl) ⟨(Nat.le_of_ble_eq_true rfl), (Nat.le_of_ble_eq_true rfl)⟩ (Nat.zero_add _) (Nat.zero_add _) ?_
            refine gq_if_eqT (tgt := 131) hX dX5_readsR_108 rfl rfl ?_
            refine gq_iconst (v := nI 0) hX dX5_readsR_131 rfl (by decide) ?_
            have hr : (mG l (frmN 5) 8 1 a).1 = false ∧ (mG l (frmN 5) 8 1 a).2.1 = a + 1 + 1 + 1 + 1 + 1 := by rw [(mG_y rfl (by decide) (by decide) k1).trans ((mG_y rfl (by decide) (by decide) h56).trans ((mG_y rfl (by decide) (by decide) h57).trans ((mG_y rfl (by decide) (by decide) h58).trans ((mG_y rfl (by decide) (by decide) h59).trans (mG_n rfl (by decide) (by decide) h60)))))]; exact ⟨rfl, rfl⟩
            refine gq_zret hX hQ dX5_readsR_132 rfl rfl ?_
            unfold RdR
            rw [hr.1, hr.2]
            exact ⟨rfl, N, (nI 98), rfl, fun h => by cases h⟩
        · refine gq_callVe hX dX5_readsR_96 rfl vX5_248 (mp_reads_n hb (T := T) (N := N) (s := (nI 98)) (a := a + 1 + 1 + 1 + 1) ht (by omega) (by decide) h59) rfl (mqR0 hb) rfl rfl (Nat.le_of_ble_eq_true rfl) ⟨(Nat.le_of_ble_eq_true rfl), (Nat.le_of_ble_eq_true rfl)⟩ (Nat.zero_add _) (Nat.zero_add _) ?_
          refine gq_if_eqT (tgt := 131) hX dX5_readsR_99 rfl rfl ?_
          refine gq_iconst (v := nI 0) hX dX5_readsR_131 rfl (by decide) ?_
          have hr : (mG l (frmN 5) 8 1 a).1 = false ∧ (mG l (frmN 5) 8 1 a).2.1 = a + 1 + 1 + 1 + 1 := by rw [(mG_y rfl (by decide) (by decide) k1).trans ((mG_y rfl (by decide) (by decide) h56).trans ((mG_y rfl (by decide) (by decide) h57).trans ((mG_y rfl (by decide) (by decide) h58).trans (mG_n rfl (by decide) (by decide) h59))))]; exact ⟨rfl, rfl⟩
          refine gq_zret hX hQ dX5_readsR_132 rfl rfl ?_
          unfold RdR
          rw [hr.1, hr.2]
          exact ⟨rfl, N, (nI 98), rfl, fun h => by cases h⟩
      · refine gq_callVe hX dX5_readsR_87 rfl vX5_248 (mp_reads_n hb (T := T) (N := N) (s := (nI 98)) (a := a + 1 + 1 + 1) ht (by omega) (by decide) h58) rfl (mqR0 hb) rfl rfl (Nat.le_of_ble_eq_true rfl) ⟨(Nat.le_of_ble_eq_true rfl), (Nat.le_of_ble_eq_true rfl)⟩ (Nat.zero_add _) (Nat.zero_add _) ?_
        refine gq_if_eqT (tgt := 131) hX dX5_readsR_90 rfl rfl ?_
        refine gq_iconst (v := nI 0) hX dX5_readsR_131 rfl (by decide) ?_
        have hr : (mG l (frmN 5) 8 1 a).1 = false ∧ (mG l (frmN 5) 8 1 a).2.1 = a + 1 + 1 + 1 := by rw [(mG_y rfl (by decide) (by decide) k1).trans ((mG_y rfl (by decide) (by decide) h56).trans ((mG_y rfl (by decide) (by decide) h57).trans (mG_n rfl (by decide) (by decide) h58)))]; exact ⟨rfl, rfl⟩
        refine gq_zret hX hQ dX5_readsR_132 rfl rfl ?_
        unfold RdR
        rw [hr.1, hr.2]
        exact ⟨rfl, N, (nI 98), rfl, fun h => by cases h⟩
    · refine gq_callVe hX dX5_readsR_78 rfl vX5_248 (mp_reads_n hb (T := T) (N := N) (s := (nI 98)) (a := a + 1 + 1) ht (by omega) (by decide) h57) rfl (mqR0 hb) rfl rfl (Nat.le_of_ble_eq_true rfl) ⟨(Nat.le_of_ble_eq_true rfl), (Nat.le_of_ble_eq_true rfl)⟩ (Nat.zero_add _) (Nat.zero_add _) ?_
      refine gq_if_eqT (tgt := 131) hX dX5_readsR_81 rfl rfl ?_
      refine gq_iconst (v := nI 0) hX dX5_readsR_131 rfl (by decide) ?_
      have hr : (mG l (frmN 5) 8 1 a).1 = false ∧ (mG l (frmN 5) 8 1 a).2.1 = a + 1 + 1 := by rw [(mG_y rfl (by decide) (by decide) k1).trans ((mG_y rfl (by decide) (by decide) h56).trans (mG_n rfl (by decide) (by decide) h57))]; exact ⟨rfl, rfl⟩
      refine gq_zret hX hQ dX5_readsR_132 rfl rfl ?_
      unfold RdR
      rw [hr.1, hr.2]
      exact ⟨rfl, N, (nI 98), rfl, fun h => by cases h⟩
  · refine gq_callVe hX dX5_readsR_69 rfl vX5_248 (mp_reads_n hb (T := T) (N := N) (s := (nI 98)) (a := a + 1) ht (by omega) (by decide) h56) rfl (mqR0 hb) rfl rfl (Nat.le_of_ble_eq_true rfl) ⟨(Nat.le_of_ble_eq_true rfl), (Nat.le_of_ble_eq_true rfl)⟩ (Nat.zero_add _) (Nat.zero_add _) ?_
    refine gq_if_eqT (tgt := 131) hX dX5_readsR_72 rfl rfl ?_
    refine gq_iconst (v := nI 0) hX dX5_readsR_131 rfl (by decide) ?_
    have hr : (mG l (frmN 5) 8 1 a).1 = false ∧ (mG l (frmN 5) 8 1 a).2.1 = a + 1 := by rw [(mG_y rfl (by decide) (by decide) k1).trans (mG_n rfl (by decide) (by decide) h56)]; exact ⟨rfl, rfl⟩
    refine gq_zret hX hQ dX5_readsR_132 rfl rfl ?_
    unfold RdR
    rw [hr.1, hr.2]
    exact ⟨rfl, N, (nI 98), rfl, fun h => by cases h⟩

set_option maxRecDepth 100000 in
set_option maxHeartbeats 4000000 in
theorem mp_rdR_c {E : Ev} {b : Nat → Nat} {T : St} {w : Nat → Int32} {N : Nat → Int32} {s : Int32} {M : Hp} (hb : Lay E 9 b) {l : Ln} (ht : TxP T l) {a : Nat} (ha : a < 1000) (ha9 : a < 100) (k1 : nx l a 101 = false)  : Ct E mX5_readsR [.ref (b 0)] (MdW E b (rdT T N a s) w M) (RdR E b T w M (mG l (frmN 4) 6 1 a) s) 0 0 := by
  refine Ct.of gmX5_readsR (ls := [.ref (b 0)]) rfl rfl (Nat.le_of_ble_eq_true rfl) ?_
  intro X hX Q hQ
  have hl60 := ht.2.1
  refine gq_aload_n hX dX5_readsR_0 rfl rfl rfl ?_
  refine gq_bipush (v := nI 101) hX dX5_readsR_1 rfl (by decide) ?_
  refine gq_callVe hX dX5_readsR_3 rfl vX5_248 (mp_reads_n hb (T := T) (N := N) (s := s) (a := a) ht (by omega) (by decide) k1) rfl (mqR0 hb) rfl rfl (Nat.le_of_ble_eq_true rfl) ⟨(Nat.le_of_ble_eq_true rfl), (Nat.le_of_ble_eq_true rfl)⟩ (Nat.zero_add _) (Nat.zero_add _) ?_
  refine gq_if_neF (tgt := 11) hX dX5_readsR_6 rfl rfl rfl ?_
  refine gq_iconst (v := nI 0) hX dX5_readsR_9 rfl (by decide) ?_
  have hr : (mG l (frmN 4) 6 1 a).1 = false ∧ (mG l (frmN 4) 6 1 a).2.1 = a := by rw [mG_n rfl (by decide) (by decide) k1]; exact ⟨rfl, rfl⟩
  refine gq_zret hX hQ dX5_readsR_10 rfl rfl ?_
  unfold RdR
  rw [hr.1, hr.2]
  exact ⟨rfl, N, s, rfl, fun h => by cases h⟩

set_option maxRecDepth 100000 in
set_option maxHeartbeats 4000000 in
theorem mp_rdG_a {E : Ev} {b : Nat → Nat} {T : St} {w : Nat → Int32} {N : Nat → Int32} {s : Int32} {M : Hp} (hb : Lay E 9 b) {l : Ln} (ht : TxP T l) {a : Nat} (ha : a < 1000) (ha9 : a < 100) (k1 : nx l a 114 = true)  : Ct E mX5_readsG [.ref (b 0)] (MdW E b (rdT T N a s) w M) (RdR E b T w M (mG l (frmN 6) 8 1 a) s) 0 0 := by
  refine Ct.of gmX5_readsG (ls := [.ref (b 0)]) rfl rfl (Nat.le_of_ble_eq_true rfl) ?_
  intro X hX Q hQ
  have hl60 := ht.2.1
  refine gq_aload_n hX dX5_readsG_0 rfl rfl rfl ?_
  refine gq_bipush (v := nI 114) hX dX5_readsG_1 rfl (by decide) ?_
  refine gq_callVe hX dX5_readsG_3 rfl vX5_248 (mp_reads_y hb (T := T) (N := N) (s := s) (a := a) ht (by omega) k1) rfl (mqR0 hb) rfl rfl (Nat.le_of_ble_eq_true rfl) ⟨(Nat.le_of_ble_eq_true rfl), (Nat.le_of_ble_eq_true rfl)⟩ (Nat.zero_add _) (Nat.zero_add _) ?_
  refine gq_if_eqF (tgt := 76) hX dX5_readsG_6 rfl rfl (by decide) ?_
  refine gq_aload_n hX dX5_readsG_9 rfl rfl rfl ?_
  refine gq_bipush (v := nI 111) hX dX5_readsG_10 rfl (by decide) ?_
  rcases Bool.eq_false_or_eq_true (nx l (a + 1) 111) with h63 | h63
  · refine gq_callVe hX dX5_readsG_12 rfl vX5_248 (mp_reads_y hb (T := T) (N := N) (s := s) (a := a + 1) ht (by omega) h63) rfl (mqR0 hb) rfl rfl (Nat.le_of_ble_eq_true rfl) ⟨(Nat.le_of_ble_eq_true rfl), (Nat.le_of_ble_eq_true rfl)⟩ (Nat.zero_add _) (Nat.zero_add _) ?_
    refine gq_if_eqF (tgt := 74) hX dX5_readsG_15 rfl rfl (by decide) ?_
    refine gq_aload_n hX dX5_readsG_18 rfl rfl rfl ?_
    refine gq_bipush (v := nI 117) hX dX5_readsG_19 rfl (by decide) ?_
    rcases Bool.eq_false_or_eq_true (nx l (a + 1 + 1) 117) with h64 | h64
    · refine gq_callVe hX dX5_readsG_21 rfl vX5_248 (mp_reads_y hb (T := T) (N := N) (s := s) (a := a + 1 + 1) ht (by omega) h64) rfl (mqR0 hb) rfl rfl (Nat.le_of_ble_eq_true rfl) ⟨(Nat.le_of_ble_eq_true rfl), (Nat.le_of_ble_eq_true rfl)⟩ (Nat.zero_add _) (Nat.zero_add _) ?_
      refine gq_if_eqF (tgt := 74) hX dX5_readsG_24 rfl rfl (by decide) ?_
      refine gq_aload_n hX dX5_readsG_27 rfl rfl rfl ?_
      refine gq_bipush (v := nI 110) hX dX5_readsG_28 rfl (by decide) ?_
      rcases Bool.eq_false_or_eq_true (nx l (a + 1 + 1 + 1) 110) with h65 | h65
      · refine gq_callVe hX dX5_readsG_30 rfl vX5_248 (mp_reads_y hb (T := T) (N := N) (s := s) (a := a + 1 + 1 + 1) ht (by omega) h65) rfl (mqR0 hb) rfl rfl (Nat.le_of_ble_eq_true rfl) ⟨(Nat.le_of_ble_eq_true rfl), (Nat.le_of_ble_eq_true rfl)⟩ (Nat.zero_add _) (Nat.zero_add _) ?_
        refine gq_if_eqF (tgt := 74) hX dX5_readsG_33 rfl rfl (by decide) ?_
        refine gq_aload_n hX dX5_readsG_36 rfl rfl rfl ?_
        refine gq_bipush (v := nI 100) hX dX5_readsG_37 rfl (by decide) ?_
        rcases Bool.eq_false_or_eq_true (nx l (a + 1 + 1 + 1 + 1) 100) with h66 | h66
        · refine gq_callVe hX dX5_readsG_39 rfl vX5_248 (mp_reads_y hb (T := T) (N := N) (s := s) (a := a + 1 + 1 + 1 + 1) ht (by omega) h66) rfl (mqR0 hb) rfl rfl (Nat.le_of_ble_eq_true rfl) ⟨(Nat.le_of_ble_eq_true rfl), (Nat.le_of_ble_eq_true rfl)⟩ (Nat.zero_add _) (Nat.zero_add _) ?_
          refine gq_if_eqF (tgt := 74) hX dX5_readsG_42 rfl rfl (by decide) ?_
          refine gq_aload_n hX dX5_readsG_45 rfl rfl rfl ?_
          refine gq_bipush (v := nI 32) hX dX5_readsG_46 rfl (by decide) ?_
          rcases Bool.eq_false_or_eq_true (nx l (a + 1 + 1 + 1 + 1 + 1) 32) with h67 | h67
          · refine gq_callVe hX dX5_readsG_48 rfl vX5_248 (mp_reads_y hb (T := T) (N := N) (s := s) (a := a + 1 + 1 + 1 + 1 + 1) ht (by omega) h67) rfl (mqR0 hb) rfl rfl (Nat.le_of_ble_eq_true rfl) ⟨(Nat.le_of_ble_eq_true rfl), (Nat.le_of_ble_eq_true rfl)⟩ (Nat.zero_add _) (Nat.zero_add _) ?_
            refine gq_if_eqF (tgt := 74) hX dX5_readsG_51 rfl rfl (by decide) ?_
            refine gq_aload_n hX dX5_readsG_54 rfl rfl rfl ?_
            refine gq_iconst (v := nI 0) hX dX5_readsG_55 rfl (by decide) ?_
            by_cases h68 : dgt l (a + 1 + 1 + 1 + 1 + 1 + 1) = true
            · refine gq_callVe hX dX5_readsG_56 rfl vX5_245 (mp_dig_y hb (T := T) (N := N) (s := s) (a := a + 1 + 1 + 1 + 1 + 1 + 1) ht (by omega) (by decide) h68) rfl (mqR0 hb) rfl rfl (Nat.le_of_ble_eq_true rfl) ⟨(Nat.le_of_ble_eq_true rfl), (Nat.le_of_ble_eq_true rfl)⟩ (Nat.zero_add _) (Nat.zero_add _) ?_
              refine gq_if_eqF (tgt := 74) hX dX5_readsG_59 rfl rfl (by decide) ?_
              refine gq_aload_n hX dX5_readsG_62 rfl rfl rfl ?_
              refine gq_iconst (v := nI 1) hX dX5_readsG_63 rfl (by decide) ?_
              by_cases h69 : dgt l (a + 1 + 1 + 1 + 1 + 1 + 1 + 1) = true
              · refine gq_callVe hX dX5_readsG_64 rfl vX5_245 (mp_dig_y hb (T := T) (N := (upd N 0 (nI (l.1 (a + 1 + 1 + 1 + 1 + 1 + 1) - 48)))) (s := s) (a := a + 1 + 1 + 1 + 1 + 1 + 1 + 1) ht (by omega) (by decide) h69) rfl (mqR0 hb) rfl rfl (Nat.le_of_ble_eq_true rfl) ⟨(Nat.le_of_ble_eq_true rfl), (Nat.le_of_ble_eq_true rfl)⟩ (Nat.zero_add _) (Nat.zero_add _) ?_
                refine gq_if_eqF (tgt := 74) hX dX5_readsG_67 rfl rfl (by decide) ?_
                refine gq_iconst (v := nI 1) hX dX5_readsG_70 rfl (by decide) ?_
                refine gq_goto (tgt := 75) hX dX5_readsG_71 rfl ?_
                have hr : mG l (frmN 6) 8 1 a = (true, a + 1 + 1 + 1 + 1 + 1 + 1 + 1 + 1, [l.1 (a + 1 + 1 + 1 + 1 + 1 + 1) - 48, l.1 (a + 1 + 1 + 1 + 1 + 1 + 1 + 1) - 48]) := (mG_y rfl (by decide) (by decide) k1).trans ((mG_y rfl (by decide) (by decide) h63).trans ((mG_y rfl (by decide) (by decide) h64).trans ((mG_y rfl (by decide) (by decide) h65).trans ((mG_y rfl (by decide) (by decide) h66).trans ((mG_y rfl (by decide) (by decide) h67).trans (mG_dy rfl (dgm1_y h68) (mG_dy rfl (dgm1_y h69) (rfl))))))))
                refine gq_zret hX hQ dX5_readsG_75 rfl rfl ?_
                unfold RdR
                rw [hr]
                exact ⟨rfl, (upd (upd N 0 (nI (l.1 (a + 1 + 1 + 1 + 1 + 1 + 1) - 48))) 1 (nI (l.1 (a + 1 + 1 + 1 + 1 + 1 + 1 + 1) - 48))), s, rfl, fun _ => ⟨rfl, fun q hq => match q, hq with | 0, _ => (upd_n _ (by decide)).trans (upd_s _ _ _) | 1, _ => upd_s _ _ _ | _ + 2, h => absurd h (by simp)⟩⟩
              · refine gq_callVe hX dX5_readsG_64 rfl vX5_245 (mp_dig_n hb (T := T) (N := (upd N 0 (nI (l.1 (a + 1 + 1 + 1 + 1 + 1 + 1) - 48)))) (s := s) (a := a + 1 + 1 + 1 + 1 + 1 + 1 + 1) ht (by omega) h69) rfl (mqR0 hb) rfl rfl (Nat.le_of_ble_eq_true rfl) ⟨(Nat.le_of_ble_eq_true rfl), (Nat.le_of_ble_eq_true rfl)⟩ (Nat.zero_add _) (Nat.zero_add _) ?_
                refine gq_if_eqT (tgt := 74) hX dX5_readsG_67 rfl rfl ?_
                refine gq_iconst (v := nI 0) hX dX5_readsG_74 rfl (by decide) ?_
                have hr : (mG l (frmN 6) 8 1 a).1 = false ∧ (mG l (frmN 6) 8 1 a).2.1 = a + 1 + 1 + 1 + 1 + 1 + 1 + 1 := by rw [(mG_y rfl (by decide) (by decide) k1).trans ((mG_y rfl (by decide) (by decide) h63).trans ((mG_y rfl (by decide) (by decide) h64).trans ((mG_y rfl (by decide) (by decide) h65).trans ((mG_y rfl (by decide) (by decide) h66).trans ((mG_y rfl (by decide) (by decide) h67).trans (mG_dy rfl (dgm1_y h68) (mG_dn rfl (dgm1_n h69))))))))]; exact ⟨rfl, rfl⟩
                refine gq_zret hX hQ dX5_readsG_75 rfl rfl ?_
                unfold RdR
                rw [hr.1, hr.2]
                exact ⟨rfl, (upd N 0 (nI (l.1 (a + 1 + 1 + 1 + 1 + 1 + 1) - 48))), s, rfl, fun h => by cases h⟩
            · refine gq_callVe hX dX5_readsG_56 rfl vX5_245 (mp_dig_n hb (T := T) (N := N) (s := s) (a := a + 1 + 1 + 1 + 1 + 1 + 1) ht (by omega) h68) rfl (mqR0 hb) rfl rfl (Nat.le_of_ble_eq_true rfl) ⟨(Nat.le_of_ble_eq_true rfl), (Nat.le_of_ble_eq_true rfl)⟩ (Nat.zero_add _) (Nat.zero_add _) ?_
              refine gq_if_eqT (tgt := 74) hX dX5_readsG_59 rfl rfl ?_
              refine gq_iconst (v := nI 0) hX dX5_readsG_74 rfl (by decide) ?_
              have hr : (mG l (frmN 6) 8 1 a).1 = false ∧ (mG l (frmN 6) 8 1 a).2.1 = a + 1 + 1 + 1 + 1 + 1 + 1 := by rw [(mG_y rfl (by decide) (by decide) k1).trans ((mG_y rfl (by decide) (by decide) h63).trans ((mG_y rfl (by decide) (by decide) h64).trans ((mG_y rfl (by decide) (by decide) h65).trans ((mG_y rfl (by decide) (by decide) h66).trans ((mG_y rfl (by decide) (by decide) h67).trans (mG_dn rfl (dgm1_n h68)))))))]; exact ⟨rfl, rfl⟩
              refine gq_zret hX hQ dX5_readsG_75 rfl rfl ?_
              unfold RdR
              rw [hr.1, hr.2]
              exact ⟨rfl, N, s, rfl, fun h => by cases h⟩
          · refine gq_callVe hX dX5_readsG_48 rfl vX5_248 (mp_reads_n hb (T := T) (N := N) (s := s) (a := a + 1 + 1 + 1 + 1 + 1) ht (by omega) (by decide) h67) rfl (mqR0 hb) rfl rfl (Nat.le_of_ble_eq_true rfl) ⟨(Nat.le_of_ble_eq_true rfl), (Nat.le_of_ble_eq_true rfl)⟩ (Nat.zero_add _) (Nat.zero_add _) ?_
            refine gq_if_eqT (tgt := 74) hX dX5_readsG_51 rfl rfl ?_
            refine gq_iconst (v := nI 0) hX dX5_readsG_74 rfl (by decide) ?_
            have hr : (mG l (frmN 6) 8 1 a).1 = false ∧ (mG l (frmN 6) 8 1 a).2.1 = a + 1 + 1 + 1 + 1 + 1 := by rw [(mG_y rfl (by decide) (by decide) k1).trans ((mG_y rfl (by decide) (by decide) h63).trans ((mG_y rfl (by decide) (by decide) h64).trans ((mG_y rfl (by decide) (by decide) h65).trans ((mG_y rfl (by decide) (by decide) h66).trans (mG_n rfl (by decide) (by decide) h67)))))]; exact ⟨rfl, rfl⟩
            refine gq_zret hX hQ dX5_readsG_75 rfl rfl ?_
            unfold RdR
            rw [hr.1, hr.2]
            exact ⟨rfl, N, s, rfl, fun h => by cases h⟩
        · refine gq_callVe hX dX5_readsG_39 rfl vX5_248 (mp_reads_n hb (T := T) (N := N) (s := s) (a := a + 1 + 1 + 1 + 1) ht (by omega) (by decide) h66) rfl (mqR0 hb) rfl rfl (Nat.le_of_ble_eq_true rfl) ⟨(Nat.le_of_ble_eq_true rfl), (Nat.le_of_ble_eq_true rfl)⟩ (Nat.zero_add _) (Nat.zero_add _) ?_
          refine gq_if_eqT (tgt := 74) hX dX5_readsG_42 rfl rfl ?_
          refine gq_iconst (v := nI 0) hX dX5_readsG_74 rfl (by decide) ?_
          have hr : (mG l (frmN 6) 8 1 a).1 = false ∧ (mG l (frmN 6) 8 1 a).2.1 = a + 1 + 1 + 1 + 1 := by rw [(mG_y rfl (by decide) (by decide) k1).trans ((mG_y rfl (by decide) (by decide) h63).trans ((mG_y rfl (by decide) (by decide) h64).trans ((mG_y rfl (by decide) (by decide) h65).trans (mG_n rfl (by decide) (by decide) h66))))]; exact ⟨rfl, rfl⟩
          refine gq_zret hX hQ dX5_readsG_75 rfl rfl ?_
          unfold RdR
          rw [hr.1, hr.2]
          exact ⟨rfl, N, s, rfl, fun h => by cases h⟩
      · refine gq_callVe hX dX5_readsG_30 rfl vX5_248 (mp_reads_n hb (T := T) (N := N) (s := s) (a := a + 1 + 1 + 1) ht (by omega) (by decide) h65) rfl (mqR0 hb) rfl rfl (Nat.le_of_ble_eq_true rfl) ⟨(Nat.le_of_ble_eq_true rfl), (Nat.le_of_ble_eq_true rfl)⟩ (Nat.zero_add _) (Nat.zero_add _) ?_
        refine gq_if_eqT (tgt := 74) hX dX5_readsG_33 rfl rfl ?_
        refine gq_iconst (v := nI 0) hX dX5_readsG_74 rfl (by decide) ?_
        have hr : (mG l (frmN 6) 8 1 a).1 = false ∧ (mG l (frmN 6) 8 1 a).2.1 = a + 1 + 1 + 1 := by rw [(mG_y rfl (by decide) (by decide) k1).trans ((mG_y rfl (by decide) (by decide) h63).trans ((mG_y rfl (by decide) (by decide) h64).trans (mG_n rfl (by decide) (by decide) h65)))]; exact ⟨rfl, rfl⟩
        refine gq_zret hX hQ dX5_readsG_75 rfl rfl ?_
        unfold RdR
        rw [hr.1, hr.2]
        exact ⟨rfl, N, s, rfl, fun h => by cases h⟩
    · refine gq_callVe hX dX5_readsG_21 rfl vX5_248 (mp_reads_n hb (T := T) (N := N) (s := s) (a := a + 1 + 1) ht (by omega) (by decide) h64) rfl (mqR0 hb) rfl rfl (Nat.le_of_ble_eq_true rfl) ⟨(Nat.le_of_ble_eq_true rfl), (Nat.le_of_ble_eq_true rfl)⟩ (Nat.zero_add _) (Nat.zero_add _) ?_
      refine gq_if_eqT (tgt := 74) hX dX5_readsG_24 rfl rfl ?_
      refine gq_iconst (v := nI 0) hX dX5_readsG_74 rfl (by decide) ?_
      have hr : (mG l (frmN 6) 8 1 a).1 = false ∧ (mG l (frmN 6) 8 1 a).2.1 = a + 1 + 1 := by rw [(mG_y rfl (by decide) (by decide) k1).trans ((mG_y rfl (by decide) (by decide) h63).trans (mG_n rfl (by decide) (by decide) h64))]; exact ⟨rfl, rfl⟩
      refine gq_zret hX hQ dX5_readsG_75 rfl rfl ?_
      unfold RdR
      rw [hr.1, hr.2]
      exact ⟨rfl, N, s, rfl, fun h => by cases h⟩
  · refine gq_callVe hX dX5_readsG_12 rfl vX5_248 (mp_reads_n hb (T := T) (N := N) (s := s) (a := a + 1) ht (by omega) (by decide) h63) rfl (mqR0 hb) rfl rfl (Nat.le_of_ble_eq_true rfl) ⟨(Nat.le_of_ble_eq_true rfl), (Nat.le_of_ble_eq_true rfl)⟩ (Nat.zero_add _) (Nat.zero_add _) ?_
    refine gq_if_eqT (tgt := 74) hX dX5_readsG_15 rfl rfl ?_
    refine gq_iconst (v := nI 0) hX dX5_readsG_74 rfl (by decide) ?_
    have hr : (mG l (frmN 6) 8 1 a).1 = false ∧ (mG l (frmN 6) 8 1 a).2.1 = a + 1 := by rw [(mG_y rfl (by decide) (by decide) k1).trans (mG_n rfl (by decide) (by decide) h63)]; exact ⟨rfl, rfl⟩
    refine gq_zret hX hQ dX5_readsG_75 rfl rfl ?_
    unfold RdR
    rw [hr.1, hr.2]
    exact ⟨rfl, N, s, rfl, fun h => by cases h⟩

set_option maxRecDepth 100000 in
set_option maxHeartbeats 4000000 in
theorem mp_rdG_b {E : Ev} {b : Nat → Nat} {T : St} {w : Nat → Int32} {N : Nat → Int32} {s : Int32} {M : Hp} (hb : Lay E 9 b) {l : Ln} (ht : TxP T l) {a : Nat} (ha : a < 1000) (ha9 : a < 100) (k1 : nx l a 114 = false)  : Ct E mX5_readsG [.ref (b 0)] (MdW E b (rdT T N a s) w M) (RdR E b T w M (mG l (frmN 11) 5 1 a) (nI 117)) 0 0 := by
  refine Ct.of gmX5_readsG (ls := [.ref (b 0)]) rfl rfl (Nat.le_of_ble_eq_true rfl) ?_
  intro X hX Q hQ
  have hl60 := ht.2.1
  refine gq_aload_n hX dX5_readsG_0 rfl rfl rfl ?_
  refine gq_bipush (v := nI 114) hX dX5_readsG_1 rfl (by decide) ?_
  refine gq_callVe hX dX5_readsG_3 rfl vX5_248 (mp_reads_n hb (T := T) (N := N) (s := s) (a := a) ht (by omega) (by decide) k1) rfl (mqR0 hb) rfl rfl (Nat.le_of_ble_eq_true rfl) ⟨(Nat.le_of_ble_eq_true rfl), (Nat.le_of_ble_eq_true rfl)⟩ (Nat.zero_add _) (Nat.zero_add _) ?_
  refine gq_if_eqT (tgt := 76) hX dX5_readsG_6 rfl rfl ?_
  refine gq_aload_n hX dX5_readsG_76 rfl rfl rfl ?_
  refine gq_bipush (v := nI 117) hX dX5_readsG_77 rfl (by decide) ?_
  refine gq_putf hX dX5_readsG_79 rfl fX5_254 rfl rfl rfl (mqR0 hb) (Nat.le_of_ble_eq_true rfl) (hb.2 0 (by decide)) (mqW0_18 hb) ?_
  rw [rdT_so]
  refine gq_aload_n hX dX5_readsG_82 rfl rfl rfl ?_
  refine gq_bipush (v := nI 117) hX dX5_readsG_83 rfl (by decide) ?_
  rcases Bool.eq_false_or_eq_true (nx l (a) 117) with h70 | h70
  · refine gq_callVe hX dX5_readsG_85 rfl vX5_248 (mp_reads_y hb (T := T) (N := N) (s := (nI 117)) (a := a) ht (by omega) h70) rfl (mqR0 hb) rfl rfl (Nat.le_of_ble_eq_true rfl) ⟨(Nat.le_of_ble_eq_true rfl), (Nat.le_of_ble_eq_true rfl)⟩ (Nat.zero_add _) (Nat.zero_add _) ?_
    refine gq_if_eqF (tgt := 130) hX dX5_readsG_88 rfl rfl (by decide) ?_
    refine gq_aload_n hX dX5_readsG_91 rfl rfl rfl ?_
    refine gq_bipush (v := nI 115) hX dX5_readsG_92 rfl (by decide) ?_
    rcases Bool.eq_false_or_eq_true (nx l (a + 1) 115) with h71 | h71
    · refine gq_callVe hX dX5_readsG_94 rfl vX5_248 (mp_reads_y hb (T := T) (N := N) (s := (nI 117)) (a := a + 1) ht (by omega) h71) rfl (mqR0 hb) rfl rfl (Nat.le_of_ble_eq_true rfl) ⟨(Nat.le_of_ble_eq_true rfl), (Nat.le_of_ble_eq_true rfl)⟩ (Nat.zero_add _) (Nat.zero_add _) ?_
      refine gq_if_eqF (tgt := 130) hX dX5_readsG_97 rfl rfl (by decide) ?_
      refine gq_aload_n hX dX5_readsG_100 rfl rfl rfl ?_
      refine gq_bipush (v := nI 116) hX dX5_readsG_101 rfl (by decide) ?_
      rcases Bool.eq_false_or_eq_true (nx l (a + 1 + 1) 116) with h72 | h72
      · refine gq_callVe hX dX5_readsG_103 rfl vX5_248 (mp_reads_y hb (T := T) (N := N) (s := (nI 117)) (a := a + 1 + 1) ht (by omega) h72) rfl (mqR0 hb) rfl rfl (Nat.le_of_ble_eq_true rfl) ⟨(Nat.le_of_ble_eq_true rfl), (Nat.le_of_ble_eq_true rfl)⟩ (Nat.zero_add _) (Nat.zero_add _) ?_
        refine gq_if_eqF (tgt := 130) hX dX5_readsG_106 rfl rfl (by decide) ?_
        refine gq_aload_n hX dX5_readsG_109 rfl rfl rfl ?_
        refine gq_bipush (v := nI 32) hX dX5_readsG_110 rfl (by decide) ?_
        rcases Bool.eq_false_or_eq_true (nx l (a + 1 + 1 + 1) 32) with h73 | h73
        · refine gq_callVe hX dX5_readsG_112 rfl vX5_248 (mp_reads_y hb (T := T) (N := N) (s := (nI 117)) (a := a + 1 + 1 + 1) ht (by omega) h73) rfl (mqR0 hb) rfl rfl (Nat.le_of_ble_eq_true rfl) ⟨(Nat.le_of_ble_eq_true rfl), (Nat.le_of_ble_eq_true rfl)⟩ (Nat.zero_add _) (Nat.zero_add _) ?_
          refine gq_if_eqF (tgt := 130) hX dX5_readsG_115 rfl rfl (by decide) ?_
          refine gq_aload_n hX dX5_readsG_118 rfl rfl rfl ?_
          refine gq_iconst (v := nI 0) hX dX5_readsG_119 rfl (by decide) ?_
          by_cases h74 : dgt l (a + 1 + 1 + 1 + 1) = true
          · have dh74 := dgm_le (l := l) (a := a + 1 + 1 + 1 + 1) 3
            refine gq_callVe hX dX5_readsG_120 rfl vX5_251 (mp_num_y hb (T := T) (N := N) (s := (nI 117)) (a := a + 1 + 1 + 1 + 1) ht (by omega) (by decide) h74) rfl (mqR0 hb) rfl rfl (Nat.le_of_ble_eq_true rfl) ⟨(Nat.le_of_ble_eq_true rfl), (Nat.le_of_ble_eq_true rfl)⟩ (Nat.zero_add _) (Nat.zero_add _) ?_
            refine gq_if_eqF (tgt := 130) hX dX5_readsG_123 rfl rfl (by decide) ?_
            refine gq_iconst (v := nI 1) hX dX5_readsG_126 rfl (by decide) ?_
            refine gq_goto (tgt := 131) hX dX5_readsG_127 rfl ?_
            have hr : mG l (frmN 11) 5 1 a = (true, a + 1 + 1 + 1 + 1 + dgm l (a + 1 + 1 + 1 + 1) 3, [valN l (a + 1 + 1 + 1 + 1) (dgm l (a + 1 + 1 + 1 + 1) 3)]) := (mG_y rfl (by decide) (by decide) h70).trans ((mG_y rfl (by decide) (by decide) h71).trans ((mG_y rfl (by decide) (by decide) h72).trans ((mG_y rfl (by decide) (by decide) h73).trans (mG_Dy rfl rfl (dgm3_y h74) (rfl)))))
            refine gq_zret hX hQ dX5_readsG_131 rfl rfl ?_
            unfold RdR
            rw [hr]
            exact ⟨rfl, (upd N 0 (nI (valN l (a + 1 + 1 + 1 + 1) (dgm l (a + 1 + 1 + 1 + 1) 3)))), (nI 117), rfl, fun _ => ⟨rfl, fun q hq => match q, hq with | 0, _ => upd_s _ _ _ | _ + 1, h => absurd h (by simp)⟩⟩
          · refine gq_callVe hX dX5_readsG_120 rfl vX5_251 (mp_num_n hb (T := T) (N := N) (s := (nI 117)) (a := a + 1 + 1 + 1 + 1) ht (by omega) h74) rfl (mqR0 hb) rfl rfl (Nat.le_of_ble_eq_true rfl) ⟨(Nat.le_of_ble_eq_true rfl), (Nat.le_of_ble_eq_true rfl)⟩ (Nat.zero_add _) (Nat.zero_add _) ?_
            refine gq_if_eqT (tgt := 130) hX dX5_readsG_123 rfl rfl ?_
            refine gq_iconst (v := nI 0) hX dX5_readsG_130 rfl (by decide) ?_
            have hr : (mG l (frmN 11) 5 1 a).1 = false ∧ (mG l (frmN 11) 5 1 a).2.1 = a + 1 + 1 + 1 + 1 := by rw [(mG_y rfl (by decide) (by decide) h70).trans ((mG_y rfl (by decide) (by decide) h71).trans ((mG_y rfl (by decide) (by decide) h72).trans ((mG_y rfl (by decide) (by decide) h73).trans (mG_Dn rfl (dgm3_n h74)))))]; exact ⟨rfl, rfl⟩
            refine gq_zret hX hQ dX5_readsG_131 rfl rfl ?_
            unfold RdR
            rw [hr.1, hr.2]
            exact ⟨rfl, N, (nI 117), rfl, fun h => by cases h⟩
        · refine gq_callVe hX dX5_readsG_112 rfl vX5_248 (mp_reads_n hb (T := T) (N := N) (s := (nI 117)) (a := a + 1 + 1 + 1) ht (by omega) (by decide) h73) rfl (mqR0 hb) rfl rfl (Nat.le_of_ble_eq_true rfl) ⟨(Nat.le_of_ble_eq_true rfl), (Nat.le_of_ble_eq_true rfl)⟩ (Nat.zero_add _) (Nat.zero_add _) ?_
          refine gq_if_eqT (tgt := 130) hX dX5_readsG_115 rfl rfl ?_
          refine gq_iconst (v := nI 0) hX dX5_readsG_130 rfl (by decide) ?_
          have hr : (mG l (frmN 11) 5 1 a).1 = false ∧ (mG l (frmN 11) 5 1 a).2.1 = a + 1 + 1 + 1 := by rw [(mG_y rfl (by decide) (by decide) h70).trans ((mG_y rfl (by decide) (by decide) h71).trans ((mG_y rfl (by decide) (by decide) h72).trans (mG_n rfl (by decide) (by decide) h73)))]; exact ⟨rfl, rfl⟩
          refine gq_zret hX hQ dX5_readsG_131 rfl rfl ?_
          unfold RdR
          rw [hr.1, hr.2]
          exact ⟨rfl, N, (nI 117), rfl, fun h => by cases h⟩
      · refine gq_callVe hX dX5_readsG_103 rfl vX5_248 (mp_reads_n hb (T := T) (N := N) (s := (nI 117)) (a := a + 1 + 1) ht (by omega) (by decide) h72) rfl (mqR0 hb) rfl rfl (Nat.le_of_ble_eq_true rfl) ⟨(Nat.le_of_ble_eq_true rfl), (Nat.le_of_ble_eq_true rfl)⟩ (Nat.zero_add _) (Nat.zero_add _) ?_
        refine gq_if_eqT (tgt := 130) hX dX5_readsG_106 rfl rfl ?_
        refine gq_iconst (v := nI 0) hX dX5_readsG_130 rfl (by decide) ?_
        have hr : (mG l (frmN 11) 5 1 a).1 = false ∧ (mG l (frmN 11) 5 1 a).2.1 = a + 1 + 1 := by rw [(mG_y rfl (by decide) (by decide) h70).trans ((mG_y rfl (by decide) (by decide) h71).trans (mG_n rfl (by decide) (by decide) h72))]; exact ⟨rfl, rfl⟩
        refine gq_zret hX hQ dX5_readsG_131 rfl rfl ?_
        unfold RdR
        rw [hr.1, hr.2]
        exact ⟨rfl, N, (nI 117), rfl, fun h => by cases h⟩
    · refine gq_callVe hX dX5_readsG_94 rfl vX5_248 (mp_reads_n hb (T := T) (N := N) (s := (nI 117)) (a := a + 1) ht (by omega) (by decide) h71) rfl (mqR0 hb) rfl rfl (Nat.le_of_ble_eq_true rfl) ⟨(Nat.le_of_ble_eq_true rfl), (Nat.le_of_ble_eq_true rfl)⟩ (Nat.zero_add _) (Nat.zero_add _) ?_
      refine gq_if_eqT (tgt := 130) hX dX5_readsG_97 rfl rfl ?_
      refine gq_iconst (v := nI 0) hX dX5_readsG_130 rfl (by decide) ?_
      have hr : (mG l (frmN 11) 5 1 a).1 = false ∧ (mG l (frmN 11) 5 1 a).2.1 = a + 1 := by rw [(mG_y rfl (by decide) (by decide) h70).trans (mG_n rfl (by decide) (by decide) h71)]; exact ⟨rfl, rfl⟩
      refine gq_zret hX hQ dX5_readsG_131 rfl rfl ?_
      unfold RdR
      rw [hr.1, hr.2]
      exact ⟨rfl, N, (nI 117), rfl, fun h => by cases h⟩
  · refine gq_callVe hX dX5_readsG_85 rfl vX5_248 (mp_reads_n hb (T := T) (N := N) (s := (nI 117)) (a := a) ht (by omega) (by decide) h70) rfl (mqR0 hb) rfl rfl (Nat.le_of_ble_eq_true rfl) ⟨(Nat.le_of_ble_eq_true rfl), (Nat.le_of_ble_eq_true rfl)⟩ (Nat.zero_add _) (Nat.zero_add _) ?_
    refine gq_if_eqT (tgt := 130) hX dX5_readsG_88 rfl rfl ?_
    refine gq_iconst (v := nI 0) hX dX5_readsG_130 rfl (by decide) ?_
    have hr : (mG l (frmN 11) 5 1 a).1 = false ∧ (mG l (frmN 11) 5 1 a).2.1 = a := by rw [mG_n rfl (by decide) (by decide) h70]; exact ⟨rfl, rfl⟩
    refine gq_zret hX hQ dX5_readsG_131 rfl rfl ?_
    unfold RdR
    rw [hr.1, hr.2]
    exact ⟨rfl, N, (nI 117), rfl, fun h => by cases h⟩

def soN (i : Nat) : Nat := match i with
  | 0 => 99 | 1 => 116 | 2 => 112 | 3 => 108 | 4 => 114 | 5 => 98 | 6 => 103 | 7 => 115 | 8 => 110 | 9 => 119 | 10 => 118 | 11 => 117 | _ => 104
def cmR (c : Cm) : Rs := (c.1, c.2.1, c.2.2.2)
theorem fmR_1 {l : Ln} {i a k c : Nat} (hk : frmL.getD i 0 = k + 1) (hc : frmN i 0 = c) (h1 : c ≠ 57) (h2 : c ≠ 35) (h : nx l a c = true) : cmR (fmC l i a) = mG l (frmN i) k 1 (a + 1) := by
  have e : fmR l i a = mG l (frmN i) k 1 (a + 1) := by
    unfold fmR
    rw [hk]
    exact mG_y hc h1 h2 h
  unfold cmR fmC
  rw [e]

set_option maxRecDepth 100000 in
set_option maxHeartbeats 4000000 in
theorem mp_cmd {E : Ev} {b : Nat → Nat} {T : St} {w : Nat → Int32} {N : Nat → Int32} {s : Int32} {M : Hp} (hb : Lay E 9 b) {l : Ln} (ht : TxP T l) {a : Nat} (ha : a < 1000) (ha9 : a < 70)  : Ct E mX5_readsCommand [.ref (b 0)] (MdW E b (rdT T N a s) w M) (RdR E b T w M (cmR (cmdM l a)) (nI (soN (cmdM l a).2.2.1))) 0 0 := by
  refine Ct.of gmX5_readsCommand (ls := [.ref (b 0)]) rfl rfl (Nat.le_of_ble_eq_true rfl) ?_
  intro X hX Q hQ
  have hl60 := ht.2.1
  refine gq_aload_n hX dX5_readsCommand_0 rfl rfl rfl ?_
  refine gq_aload_n hX dX5_readsCommand_1 rfl rfl rfl ?_
  refine gq_callVe hX dX5_readsCommand_2 rfl vX5_238 (mp_next hb (T := rdT T N a s) (l := l) ht rfl ha) rfl (mqR0 hb) rfl rfl (Nat.le_of_ble_eq_true rfl) ⟨(Nat.le_of_ble_eq_true rfl), (Nat.le_of_ble_eq_true rfl)⟩ (Nat.zero_add _) (Nat.zero_add _) ?_
  refine gq_putf hX dX5_readsCommand_5 rfl fX5_254 rfl rfl rfl (mqR0 hb) (Nat.le_of_ble_eq_true rfl) (hb.2 0 (by decide)) (mqW0_18 hb) ?_
  rw [rdT_so]
  refine gq_aload_n hX dX5_readsCommand_8 rfl rfl rfl ?_
  refine gq_bipush (v := nI 99) hX dX5_readsCommand_9 rfl (by decide) ?_
  rcases Bool.eq_false_or_eq_true (nx l a 99) with g99 | g99
  · refine gq_callVe hX dX5_readsCommand_11 rfl vX5_248 (mp_reads_y hb (T := T) (N := N) (s := (ncI l a)) (a := a) ht (by omega) g99) rfl (mqR0 hb) rfl rfl (Nat.le_of_ble_eq_true rfl) ⟨(Nat.le_of_ble_eq_true rfl), (Nat.le_of_ble_eq_true rfl)⟩ (Nat.zero_add _) (Nat.zero_add _) ?_
    refine gq_if_eqF (tgt := 22) hX dX5_readsCommand_14 rfl rfl (by decide) ?_
    have hsn : ncI l a = nI 99 := nx_val g99
    refine gq_aload_n hX dX5_readsCommand_17 rfl rfl rfl ?_
    refine gq_callV (mc := 0) (ms := 0) (nc1 := 0) (ns1 := 0) hX dX5_readsCommand_18 vX5_257 (mp_rdC hb (T := T) (N := N) (s := (ncI l a)) (a := a + 1) ht (by omega) (by omega)) rfl (mqR0 hb) rfl rfl (Nat.le_of_ble_eq_true rfl) ⟨(Nat.le_of_ble_eq_true rfl), (Nat.le_of_ble_eq_true rfl)⟩ rfl rfl ?_
    rintro r M1 ⟨rfl, N1, s1, rfl, hs⟩
    have hcm : cmdM l a = fmC l 0 a := by unfold cmdM; rw [if_pos g99]
    have hre : cmR (cmdM l a) = mG l (frmN 0) 10 1 (a + 1) := by rw [hcm]; exact fmR_1 rfl rfl (by decide) (by decide) g99
    refine gq_zret hX hQ dX5_readsCommand_21 rfl (by split <;> rfl) ?_
    unfold RdR
    rw [hre, hcm]
    exact ⟨rfl, N1, s1, rfl, fun hh => ⟨(hs hh).1.trans hsn, (hs hh).2⟩⟩
  · refine gq_callVe hX dX5_readsCommand_11 rfl vX5_248 (mp_reads_n hb (T := T) (N := N) (s := (ncI l a)) (a := a) ht (by omega) (by decide) g99) rfl (mqR0 hb) rfl rfl (Nat.le_of_ble_eq_true rfl) ⟨(Nat.le_of_ble_eq_true rfl), (Nat.le_of_ble_eq_true rfl)⟩ (Nat.zero_add _) (Nat.zero_add _) ?_
    refine gq_if_eqT (tgt := 22) hX dX5_readsCommand_14 rfl rfl ?_
    refine gq_aload_n hX dX5_readsCommand_22 rfl rfl rfl ?_
    refine gq_bipush (v := nI 116) hX dX5_readsCommand_23 rfl (by decide) ?_
    rcases Bool.eq_false_or_eq_true (nx l a 116) with g116 | g116
    · refine gq_callVe hX dX5_readsCommand_25 rfl vX5_248 (mp_reads_y hb (T := T) (N := N) (s := (ncI l a)) (a := a) ht (by omega) g116) rfl (mqR0 hb) rfl rfl (Nat.le_of_ble_eq_true rfl) ⟨(Nat.le_of_ble_eq_true rfl), (Nat.le_of_ble_eq_true rfl)⟩ (Nat.zero_add _) (Nat.zero_add _) ?_
      refine gq_if_eqF (tgt := 81) hX dX5_readsCommand_28 rfl rfl (by decide) ?_
      have hsn : ncI l a = nI 116 := nx_val g116
      refine gq_aload_n hX dX5_readsCommand_31 rfl rfl rfl ?_
      refine gq_bipush (v := nI 97) hX dX5_readsCommand_32 rfl (by decide) ?_
      rcases Bool.eq_false_or_eq_true (nx l (a + 1) 97) with h75 | h75
      · refine gq_callVe hX dX5_readsCommand_34 rfl vX5_248 (mp_reads_y hb (T := T) (N := N) (s := (ncI l a)) (a := a + 1) ht (by omega) h75) rfl (mqR0 hb) rfl rfl (Nat.le_of_ble_eq_true rfl) ⟨(Nat.le_of_ble_eq_true rfl), (Nat.le_of_ble_eq_true rfl)⟩ (Nat.zero_add _) (Nat.zero_add _) ?_
        refine gq_if_eqF (tgt := 79) hX dX5_readsCommand_37 rfl rfl (by decide) ?_
        refine gq_aload_n hX dX5_readsCommand_40 rfl rfl rfl ?_
        refine gq_bipush (v := nI 105) hX dX5_readsCommand_41 rfl (by decide) ?_
        rcases Bool.eq_false_or_eq_true (nx l (a + 1 + 1) 105) with h76 | h76
        · refine gq_callVe hX dX5_readsCommand_43 rfl vX5_248 (mp_reads_y hb (T := T) (N := N) (s := (ncI l a)) (a := a + 1 + 1) ht (by omega) h76) rfl (mqR0 hb) rfl rfl (Nat.le_of_ble_eq_true rfl) ⟨(Nat.le_of_ble_eq_true rfl), (Nat.le_of_ble_eq_true rfl)⟩ (Nat.zero_add _) (Nat.zero_add _) ?_
          refine gq_if_eqF (tgt := 79) hX dX5_readsCommand_46 rfl rfl (by decide) ?_
          refine gq_aload_n hX dX5_readsCommand_49 rfl rfl rfl ?_
          refine gq_bipush (v := nI 108) hX dX5_readsCommand_50 rfl (by decide) ?_
          rcases Bool.eq_false_or_eq_true (nx l (a + 1 + 1 + 1) 108) with h77 | h77
          · refine gq_callVe hX dX5_readsCommand_52 rfl vX5_248 (mp_reads_y hb (T := T) (N := N) (s := (ncI l a)) (a := a + 1 + 1 + 1) ht (by omega) h77) rfl (mqR0 hb) rfl rfl (Nat.le_of_ble_eq_true rfl) ⟨(Nat.le_of_ble_eq_true rfl), (Nat.le_of_ble_eq_true rfl)⟩ (Nat.zero_add _) (Nat.zero_add _) ?_
            refine gq_if_eqF (tgt := 79) hX dX5_readsCommand_55 rfl rfl (by decide) ?_
            refine gq_aload_n hX dX5_readsCommand_58 rfl rfl rfl ?_
            refine gq_bipush (v := nI 32) hX dX5_readsCommand_59 rfl (by decide) ?_
            rcases Bool.eq_false_or_eq_true (nx l (a + 1 + 1 + 1 + 1) 32) with h78 | h78
            · refine gq_callVe hX dX5_readsCommand_61 rfl vX5_248 (mp_reads_y hb (T := T) (N := N) (s := (ncI l a)) (a := a + 1 + 1 + 1 + 1) ht (by omega) h78) rfl (mqR0 hb) rfl rfl (Nat.le_of_ble_eq_true rfl) ⟨(Nat.le_of_ble_eq_true rfl), (Nat.le_of_ble_eq_true rfl)⟩ (Nat.zero_add _) (Nat.zero_add _) ?_
              refine gq_if_eqF (tgt := 79) hX dX5_readsCommand_64 rfl rfl (by decide) ?_
              refine gq_aload_n hX dX5_readsCommand_67 rfl rfl rfl ?_
              refine gq_iconst (v := nI 0) hX dX5_readsCommand_68 rfl (by decide) ?_
              by_cases h79 : dgt l (a + 1 + 1 + 1 + 1 + 1) = true
              · refine gq_callVe hX dX5_readsCommand_69 rfl vX5_245 (mp_dig_y hb (T := T) (N := N) (s := (ncI l a)) (a := a + 1 + 1 + 1 + 1 + 1) ht (by omega) (by decide) h79) rfl (mqR0 hb) rfl rfl (Nat.le_of_ble_eq_true rfl) ⟨(Nat.le_of_ble_eq_true rfl), (Nat.le_of_ble_eq_true rfl)⟩ (Nat.zero_add _) (Nat.zero_add _) ?_
                refine gq_if_eqF (tgt := 79) hX dX5_readsCommand_72 rfl rfl (by decide) ?_
                refine gq_iconst (v := nI 1) hX dX5_readsCommand_75 rfl (by decide) ?_
                refine gq_goto (tgt := 80) hX dX5_readsCommand_76 rfl ?_
                have hcm : cmdM l a = fmC l 1 a := by unfold cmdM; rw [if_neg (by rw [g99]; decide), if_pos g116]
                have hre0 : cmR (cmdM l a) = mG l (frmN 1) 5 1 (a + 1) := by rw [hcm]; exact fmR_1 rfl rfl (by decide) (by decide) g116
                have hre : cmR (cmdM l a) = (true, a + 1 + 1 + 1 + 1 + 1 + 1, [l.1 (a + 1 + 1 + 1 + 1 + 1) - 48]) := hre0.trans ((mG_y rfl (by decide) (by decide) h75).trans ((mG_y rfl (by decide) (by decide) h76).trans ((mG_y rfl (by decide) (by decide) h77).trans ((mG_y rfl (by decide) (by decide) h78).trans (mG_dy rfl (dgm1_y h79) (rfl))))))
                refine gq_zret hX hQ dX5_readsCommand_80 rfl rfl ?_
                unfold RdR
                rw [hre, hcm]
                exact ⟨rfl, (upd N 0 (nI (l.1 (a + 1 + 1 + 1 + 1 + 1) - 48))), (ncI l a), rfl, fun _ => ⟨hsn, fun q hq => match q, hq with | 0, _ => upd_s _ _ _ | _ + 1, h => absurd h (by simp)⟩⟩
              · refine gq_callVe hX dX5_readsCommand_69 rfl vX5_245 (mp_dig_n hb (T := T) (N := N) (s := (ncI l a)) (a := a + 1 + 1 + 1 + 1 + 1) ht (by omega) h79) rfl (mqR0 hb) rfl rfl (Nat.le_of_ble_eq_true rfl) ⟨(Nat.le_of_ble_eq_true rfl), (Nat.le_of_ble_eq_true rfl)⟩ (Nat.zero_add _) (Nat.zero_add _) ?_
                refine gq_if_eqT (tgt := 79) hX dX5_readsCommand_72 rfl rfl ?_
                refine gq_iconst (v := nI 0) hX dX5_readsCommand_79 rfl (by decide) ?_
                have hcm : cmdM l a = fmC l 1 a := by unfold cmdM; rw [if_neg (by rw [g99]; decide), if_pos g116]
                have hre0 : cmR (cmdM l a) = mG l (frmN 1) 5 1 (a + 1) := by rw [hcm]; exact fmR_1 rfl rfl (by decide) (by decide) g116
                have hr : (cmR (cmdM l a)).1 = false ∧ (cmR (cmdM l a)).2.1 = a + 1 + 1 + 1 + 1 + 1 := by rw [hre0, (mG_y rfl (by decide) (by decide) h75).trans ((mG_y rfl (by decide) (by decide) h76).trans ((mG_y rfl (by decide) (by decide) h77).trans ((mG_y rfl (by decide) (by decide) h78).trans (mG_dn rfl (dgm1_n h79)))))]; exact ⟨rfl, rfl⟩
                refine gq_zret hX hQ dX5_readsCommand_80 rfl rfl ?_
                unfold RdR
                rw [hr.1, hr.2]
                exact ⟨rfl, N, (ncI l a), rfl, fun h => by cases h⟩
            · refine gq_callVe hX dX5_readsCommand_61 rfl vX5_248 (mp_reads_n hb (T := T) (N := N) (s := (ncI l a)) (a := a + 1 + 1 + 1 + 1) ht (by omega) (by decide) h78) rfl (mqR0 hb) rfl rfl (Nat.le_of_ble_eq_true rfl) ⟨(Nat.le_of_ble_eq_true rfl), (Nat.le_of_ble_eq_true rfl)⟩ (Nat.zero_add _) (Nat.zero_add _) ?_
              refine gq_if_eqT (tgt := 79) hX dX5_readsCommand_64 rfl rfl ?_
              refine gq_iconst (v := nI 0) hX dX5_readsCommand_79 rfl (by decide) ?_
              have hcm : cmdM l a = fmC l 1 a := by unfold cmdM; rw [if_neg (by rw [g99]; decide), if_pos g116]
              have hre0 : cmR (cmdM l a) = mG l (frmN 1) 5 1 (a + 1) := by rw [hcm]; exact fmR_1 rfl rfl (by decide) (by decide) g116
              have hr : (cmR (cmdM l a)).1 = false ∧ (cmR (cmdM l a)).2.1 = a + 1 + 1 + 1 + 1 := by rw [hre0, (mG_y rfl (by decide) (by decide) h75).trans ((mG_y rfl (by decide) (by decide) h76).trans ((mG_y rfl (by decide) (by decide) h77).trans (mG_n rfl (by decide) (by decide) h78)))]; exact ⟨rfl, rfl⟩
              refine gq_zret hX hQ dX5_readsCommand_80 rfl rfl ?_
              unfold RdR
              rw [hr.1, hr.2]
              exact ⟨rfl, N, (ncI l a), rfl, fun h => by cases h⟩
          · refine gq_callVe hX dX5_readsCommand_52 rfl vX5_248 (mp_reads_n hb (T := T) (N := N) (s := (ncI l a)) (a := a + 1 + 1 + 1) ht (by omega) (by decide) h77) rfl (mqR0 hb) rfl rfl (Nat.le_of_ble_eq_true rfl) ⟨(Nat.le_of_ble_eq_true rfl), (Nat.le_of_ble_eq_true rfl)⟩ (Nat.zero_add _) (Nat.zero_add _) ?_
            refine gq_if_eqT (tgt := 79) hX dX5_readsCommand_55 rfl rfl ?_
            refine gq_iconst (v := nI 0) hX dX5_readsCommand_79 rfl (by decide) ?_
            have hcm : cmdM l a = fmC l 1 a := by unfold cmdM; rw [if_neg (by rw [g99]; decide), if_pos g116]
            have hre0 : cmR (cmdM l a) = mG l (frmN 1) 5 1 (a + 1) := by rw [hcm]; exact fmR_1 rfl rfl (by decide) (by decide) g116
            have hr : (cmR (cmdM l a)).1 = false ∧ (cmR (cmdM l a)).2.1 = a + 1 + 1 + 1 := by rw [hre0, (mG_y rfl (by decide) (by decide) h75).trans ((mG_y rfl (by decide) (by decide) h76).trans (mG_n rfl (by decide) (by decide) h77))]; exact ⟨rfl, rfl⟩
            refine gq_zret hX hQ dX5_readsCommand_80 rfl rfl ?_
            unfold RdR
            rw [hr.1, hr.2]
            exact ⟨rfl, N, (ncI l a), rfl, fun h => by cases h⟩
        · refine gq_callVe hX dX5_readsCommand_43 rfl vX5_248 (mp_reads_n hb (T := T) (N := N) (s := (ncI l a)) (a := a + 1 + 1) ht (by omega) (by decide) h76) rfl (mqR0 hb) rfl rfl (Nat.le_of_ble_eq_true rfl) ⟨(Nat.le_of_ble_eq_true rfl), (Nat.le_of_ble_eq_true rfl)⟩ (Nat.zero_add _) (Nat.zero_add _) ?_
          refine gq_if_eqT (tgt := 79) hX dX5_readsCommand_46 rfl rfl ?_
          refine gq_iconst (v := nI 0) hX dX5_readsCommand_79 rfl (by decide) ?_
          have hcm : cmdM l a = fmC l 1 a := by unfold cmdM; rw [if_neg (by rw [g99]; decide), if_pos g116]
          have hre0 : cmR (cmdM l a) = mG l (frmN 1) 5 1 (a + 1) := by rw [hcm]; exact fmR_1 rfl rfl (by decide) (by decide) g116
          have hr : (cmR (cmdM l a)).1 = false ∧ (cmR (cmdM l a)).2.1 = a + 1 + 1 := by rw [hre0, (mG_y rfl (by decide) (by decide) h75).trans (mG_n rfl (by decide) (by decide) h76)]; exact ⟨rfl, rfl⟩
          refine gq_zret hX hQ dX5_readsCommand_80 rfl rfl ?_
          unfold RdR
          rw [hr.1, hr.2]
          exact ⟨rfl, N, (ncI l a), rfl, fun h => by cases h⟩
      · refine gq_callVe hX dX5_readsCommand_34 rfl vX5_248 (mp_reads_n hb (T := T) (N := N) (s := (ncI l a)) (a := a + 1) ht (by omega) (by decide) h75) rfl (mqR0 hb) rfl rfl (Nat.le_of_ble_eq_true rfl) ⟨(Nat.le_of_ble_eq_true rfl), (Nat.le_of_ble_eq_true rfl)⟩ (Nat.zero_add _) (Nat.zero_add _) ?_
        refine gq_if_eqT (tgt := 79) hX dX5_readsCommand_37 rfl rfl ?_
        refine gq_iconst (v := nI 0) hX dX5_readsCommand_79 rfl (by decide) ?_
        have hcm : cmdM l a = fmC l 1 a := by unfold cmdM; rw [if_neg (by rw [g99]; decide), if_pos g116]
        have hre0 : cmR (cmdM l a) = mG l (frmN 1) 5 1 (a + 1) := by rw [hcm]; exact fmR_1 rfl rfl (by decide) (by decide) g116
        have hr : (cmR (cmdM l a)).1 = false ∧ (cmR (cmdM l a)).2.1 = a + 1 := by rw [hre0, mG_n rfl (by decide) (by decide) h75]; exact ⟨rfl, rfl⟩
        refine gq_zret hX hQ dX5_readsCommand_80 rfl rfl ?_
        unfold RdR
        rw [hr.1, hr.2]
        exact ⟨rfl, N, (ncI l a), rfl, fun h => by cases h⟩
    · refine gq_callVe hX dX5_readsCommand_25 rfl vX5_248 (mp_reads_n hb (T := T) (N := N) (s := (ncI l a)) (a := a) ht (by omega) (by decide) g116) rfl (mqR0 hb) rfl rfl (Nat.le_of_ble_eq_true rfl) ⟨(Nat.le_of_ble_eq_true rfl), (Nat.le_of_ble_eq_true rfl)⟩ (Nat.zero_add _) (Nat.zero_add _) ?_
      refine gq_if_eqT (tgt := 81) hX dX5_readsCommand_28 rfl rfl ?_
      refine gq_aload_n hX dX5_readsCommand_81 rfl rfl rfl ?_
      refine gq_bipush (v := nI 112) hX dX5_readsCommand_82 rfl (by decide) ?_
      rcases Bool.eq_false_or_eq_true (nx l a 112) with g112 | g112
      · refine gq_callVe hX dX5_readsCommand_84 rfl vX5_248 (mp_reads_y hb (T := T) (N := N) (s := (ncI l a)) (a := a) ht (by omega) g112) rfl (mqR0 hb) rfl rfl (Nat.le_of_ble_eq_true rfl) ⟨(Nat.le_of_ble_eq_true rfl), (Nat.le_of_ble_eq_true rfl)⟩ (Nat.zero_add _) (Nat.zero_add _) ?_
        refine gq_if_eqF (tgt := 95) hX dX5_readsCommand_87 rfl rfl (by decide) ?_
        have hsn : ncI l a = nI 112 := nx_val g112
        rcases Bool.eq_false_or_eq_true (nx l (a + 1) 97) with k1 | k1
        · rcases Bool.eq_false_or_eq_true (nx l (a + 1 + 1) 121) with k2 | k2
          · refine gq_aload_n hX dX5_readsCommand_90 rfl rfl rfl ?_
            refine gq_callV (mc := 0) (ms := 0) (nc1 := 0) (ns1 := 0) hX dX5_readsCommand_91 vX5_260 (mp_rdP_a hb (T := T) (N := N) (s := (ncI l a)) (a := a + 1) ht (by omega) (by omega) k1 k2) rfl (mqR0 hb) rfl rfl (Nat.le_of_ble_eq_true rfl) ⟨(Nat.le_of_ble_eq_true rfl), (Nat.le_of_ble_eq_true rfl)⟩ rfl rfl ?_
            rintro r M1 ⟨rfl, N1, s1, rfl, hs⟩
            have hcm : cmdM l a = fmC l 2 a := by unfold cmdM; rw [if_neg (by rw [g99]; decide), if_neg (by rw [g116]; decide), if_pos g112, if_pos k1, if_pos k2]
            have hre : cmR (cmdM l a) = mG l (frmN 2) 6 1 (a + 1) := by rw [hcm]; exact fmR_1 rfl rfl (by decide) (by decide) g112
            refine gq_zret hX hQ dX5_readsCommand_94 rfl (by split <;> rfl) ?_
            unfold RdR
            rw [hre, hcm]
            exact ⟨rfl, N1, s1, rfl, fun hh => ⟨(hs hh).1.trans hsn, (hs hh).2⟩⟩
          · refine gq_aload_n hX dX5_readsCommand_90 rfl rfl rfl ?_
            refine gq_callV (mc := 0) (ms := 0) (nc1 := 0) (ns1 := 0) hX dX5_readsCommand_91 vX5_260 (mp_rdP_b hb (T := T) (N := N) (s := (ncI l a)) (a := a + 1) ht (by omega) (by omega) k1 k2) rfl (mqR0 hb) rfl rfl (Nat.le_of_ble_eq_true rfl) ⟨(Nat.le_of_ble_eq_true rfl), (Nat.le_of_ble_eq_true rfl)⟩ rfl rfl ?_
            rintro r M1 ⟨rfl, N1, s1, rfl, hs⟩
            have hcm : cmdM l a = fmC l 12 a := by unfold cmdM; rw [if_neg (by rw [g99]; decide), if_neg (by rw [g116]; decide), if_pos g112, if_pos k1, if_neg (by rw [k2]; decide)]
            have hre : cmR (cmdM l a) = mG l (frmN 12) 5 1 (a + 1) := by rw [hcm]; exact fmR_1 rfl rfl (by decide) (by decide) g112
            refine gq_zret hX hQ dX5_readsCommand_94 rfl (by split <;> rfl) ?_
            unfold RdR
            rw [hre, hcm]
            exact ⟨rfl, N1, s1, rfl, hs⟩
        · refine gq_aload_n hX dX5_readsCommand_90 rfl rfl rfl ?_
          refine gq_callV (mc := 0) (ms := 0) (nc1 := 0) (ns1 := 0) hX dX5_readsCommand_91 vX5_260 (mp_rdP_c hb (T := T) (N := N) (s := (ncI l a)) (a := a + 1) ht (by omega) (by omega) k1) rfl (mqR0 hb) rfl rfl (Nat.le_of_ble_eq_true rfl) ⟨(Nat.le_of_ble_eq_true rfl), (Nat.le_of_ble_eq_true rfl)⟩ rfl rfl ?_
          rintro r M1 ⟨rfl, N1, s1, rfl, hs⟩
          have hcm : cmdM l a = fmC l 2 a := by unfold cmdM; rw [if_neg (by rw [g99]; decide), if_neg (by rw [g116]; decide), if_pos g112, if_neg (by rw [k1]; decide)]
          have hre : cmR (cmdM l a) = mG l (frmN 2) 6 1 (a + 1) := by rw [hcm]; exact fmR_1 rfl rfl (by decide) (by decide) g112
          refine gq_zret hX hQ dX5_readsCommand_94 rfl (by split <;> rfl) ?_
          unfold RdR
          rw [hre, hcm]
          exact ⟨rfl, N1, s1, rfl, fun hh => ⟨(hs hh).1.trans hsn, (hs hh).2⟩⟩
      · refine gq_callVe hX dX5_readsCommand_84 rfl vX5_248 (mp_reads_n hb (T := T) (N := N) (s := (ncI l a)) (a := a) ht (by omega) (by decide) g112) rfl (mqR0 hb) rfl rfl (Nat.le_of_ble_eq_true rfl) ⟨(Nat.le_of_ble_eq_true rfl), (Nat.le_of_ble_eq_true rfl)⟩ (Nat.zero_add _) (Nat.zero_add _) ?_
        refine gq_if_eqT (tgt := 95) hX dX5_readsCommand_87 rfl rfl ?_
        refine gq_aload_n hX dX5_readsCommand_95 rfl rfl rfl ?_
        refine gq_bipush (v := nI 108) hX dX5_readsCommand_96 rfl (by decide) ?_
        rcases Bool.eq_false_or_eq_true (nx l a 108) with g108 | g108
        · refine gq_callVe hX dX5_readsCommand_98 rfl vX5_248 (mp_reads_y hb (T := T) (N := N) (s := (ncI l a)) (a := a) ht (by omega) g108) rfl (mqR0 hb) rfl rfl (Nat.le_of_ble_eq_true rfl) ⟨(Nat.le_of_ble_eq_true rfl), (Nat.le_of_ble_eq_true rfl)⟩ (Nat.zero_add _) (Nat.zero_add _) ?_
          refine gq_if_eqF (tgt := 109) hX dX5_readsCommand_101 rfl rfl (by decide) ?_
          have hsn : ncI l a = nI 108 := nx_val g108
          refine gq_aload_n hX dX5_readsCommand_104 rfl rfl rfl ?_
          refine gq_callV (mc := 0) (ms := 0) (nc1 := 0) (ns1 := 0) hX dX5_readsCommand_105 vX5_263 (mp_rdL hb (T := T) (N := N) (s := (ncI l a)) (a := a + 1) ht (by omega) (by omega)) rfl (mqR0 hb) rfl rfl (Nat.le_of_ble_eq_true rfl) ⟨(Nat.le_of_ble_eq_true rfl), (Nat.le_of_ble_eq_true rfl)⟩ rfl rfl ?_
          rintro r M1 ⟨rfl, N1, s1, rfl, hs⟩
          have hcm : cmdM l a = fmC l 3 a := by unfold cmdM; rw [if_neg (by rw [g99]; decide), if_neg (by rw [g116]; decide), if_neg (by rw [g112]; decide), if_pos g108]
          have hre : cmR (cmdM l a) = mG l (frmN 3) 7 1 (a + 1) := by rw [hcm]; exact fmR_1 rfl rfl (by decide) (by decide) g108
          refine gq_zret hX hQ dX5_readsCommand_108 rfl (by split <;> rfl) ?_
          unfold RdR
          rw [hre, hcm]
          exact ⟨rfl, N1, s1, rfl, fun hh => ⟨(hs hh).1.trans hsn, (hs hh).2⟩⟩
        · refine gq_callVe hX dX5_readsCommand_98 rfl vX5_248 (mp_reads_n hb (T := T) (N := N) (s := (ncI l a)) (a := a) ht (by omega) (by decide) g108) rfl (mqR0 hb) rfl rfl (Nat.le_of_ble_eq_true rfl) ⟨(Nat.le_of_ble_eq_true rfl), (Nat.le_of_ble_eq_true rfl)⟩ (Nat.zero_add _) (Nat.zero_add _) ?_
          refine gq_if_eqT (tgt := 109) hX dX5_readsCommand_101 rfl rfl ?_
          refine gq_aload_n hX dX5_readsCommand_109 rfl rfl rfl ?_
          refine gq_bipush (v := nI 114) hX dX5_readsCommand_110 rfl (by decide) ?_
          rcases Bool.eq_false_or_eq_true (nx l a 114) with g114 | g114
          · refine gq_callVe hX dX5_readsCommand_112 rfl vX5_248 (mp_reads_y hb (T := T) (N := N) (s := (ncI l a)) (a := a) ht (by omega) g114) rfl (mqR0 hb) rfl rfl (Nat.le_of_ble_eq_true rfl) ⟨(Nat.le_of_ble_eq_true rfl), (Nat.le_of_ble_eq_true rfl)⟩ (Nat.zero_add _) (Nat.zero_add _) ?_
            refine gq_if_eqF (tgt := 123) hX dX5_readsCommand_115 rfl rfl (by decide) ?_
            have hsn : ncI l a = nI 114 := nx_val g114
            rcases Bool.eq_false_or_eq_true (nx l (a + 1) 101) with k1 | k1
            · rcases Bool.eq_false_or_eq_true (nx l (a + 1 + 1) 110) with k2 | k2
              · refine gq_aload_n hX dX5_readsCommand_118 rfl rfl rfl ?_
                refine gq_callV (mc := 0) (ms := 0) (nc1 := 0) (ns1 := 0) hX dX5_readsCommand_119 vX5_266 (mp_rdR_a hb (T := T) (N := N) (s := (ncI l a)) (a := a + 1) ht (by omega) (by omega) k1 k2) rfl (mqR0 hb) rfl rfl (Nat.le_of_ble_eq_true rfl) ⟨(Nat.le_of_ble_eq_true rfl), (Nat.le_of_ble_eq_true rfl)⟩ rfl rfl ?_
                rintro r M1 ⟨rfl, N1, s1, rfl, hs⟩
                have hcm : cmdM l a = fmC l 4 a := by unfold cmdM; rw [if_neg (by rw [g99]; decide), if_neg (by rw [g116]; decide), if_neg (by rw [g112]; decide), if_neg (by rw [g108]; decide), if_pos g114, if_pos k1, if_pos k2]
                have hre : cmR (cmdM l a) = mG l (frmN 4) 6 1 (a + 1) := by rw [hcm]; exact fmR_1 rfl rfl (by decide) (by decide) g114
                refine gq_zret hX hQ dX5_readsCommand_122 rfl (by split <;> rfl) ?_
                unfold RdR
                rw [hre, hcm]
                exact ⟨rfl, N1, s1, rfl, fun hh => ⟨(hs hh).1.trans hsn, (hs hh).2⟩⟩
              · refine gq_aload_n hX dX5_readsCommand_118 rfl rfl rfl ?_
                refine gq_callV (mc := 0) (ms := 0) (nc1 := 0) (ns1 := 0) hX dX5_readsCommand_119 vX5_266 (mp_rdR_b hb (T := T) (N := N) (s := (ncI l a)) (a := a + 1) ht (by omega) (by omega) k1 k2) rfl (mqR0 hb) rfl rfl (Nat.le_of_ble_eq_true rfl) ⟨(Nat.le_of_ble_eq_true rfl), (Nat.le_of_ble_eq_true rfl)⟩ rfl rfl ?_
                rintro r M1 ⟨rfl, N1, s1, rfl, hs⟩
                have hcm : cmdM l a = fmC l 5 a := by unfold cmdM; rw [if_neg (by rw [g99]; decide), if_neg (by rw [g116]; decide), if_neg (by rw [g112]; decide), if_neg (by rw [g108]; decide), if_pos g114, if_pos k1, if_neg (by rw [k2]; decide)]
                have hre : cmR (cmdM l a) = mG l (frmN 5) 8 1 (a + 1) := by rw [hcm]; exact fmR_1 rfl rfl (by decide) (by decide) g114
                refine gq_zret hX hQ dX5_readsCommand_122 rfl (by split <;> rfl) ?_
                unfold RdR
                rw [hre, hcm]
                exact ⟨rfl, N1, s1, rfl, hs⟩
            · refine gq_aload_n hX dX5_readsCommand_118 rfl rfl rfl ?_
              refine gq_callV (mc := 0) (ms := 0) (nc1 := 0) (ns1 := 0) hX dX5_readsCommand_119 vX5_266 (mp_rdR_c hb (T := T) (N := N) (s := (ncI l a)) (a := a + 1) ht (by omega) (by omega) k1) rfl (mqR0 hb) rfl rfl (Nat.le_of_ble_eq_true rfl) ⟨(Nat.le_of_ble_eq_true rfl), (Nat.le_of_ble_eq_true rfl)⟩ rfl rfl ?_
              rintro r M1 ⟨rfl, N1, s1, rfl, hs⟩
              have hcm : cmdM l a = fmC l 4 a := by unfold cmdM; rw [if_neg (by rw [g99]; decide), if_neg (by rw [g116]; decide), if_neg (by rw [g112]; decide), if_neg (by rw [g108]; decide), if_pos g114, if_neg (by rw [k1]; decide)]
              have hre : cmR (cmdM l a) = mG l (frmN 4) 6 1 (a + 1) := by rw [hcm]; exact fmR_1 rfl rfl (by decide) (by decide) g114
              refine gq_zret hX hQ dX5_readsCommand_122 rfl (by split <;> rfl) ?_
              unfold RdR
              rw [hre, hcm]
              exact ⟨rfl, N1, s1, rfl, fun hh => ⟨(hs hh).1.trans hsn, (hs hh).2⟩⟩
          · refine gq_callVe hX dX5_readsCommand_112 rfl vX5_248 (mp_reads_n hb (T := T) (N := N) (s := (ncI l a)) (a := a) ht (by omega) (by decide) g114) rfl (mqR0 hb) rfl rfl (Nat.le_of_ble_eq_true rfl) ⟨(Nat.le_of_ble_eq_true rfl), (Nat.le_of_ble_eq_true rfl)⟩ (Nat.zero_add _) (Nat.zero_add _) ?_
            refine gq_if_eqT (tgt := 123) hX dX5_readsCommand_115 rfl rfl ?_
            refine gq_aload_n hX dX5_readsCommand_123 rfl rfl rfl ?_
            refine gq_bipush (v := nI 103) hX dX5_readsCommand_124 rfl (by decide) ?_
            rcases Bool.eq_false_or_eq_true (nx l a 103) with g103 | g103
            · refine gq_callVe hX dX5_readsCommand_126 rfl vX5_248 (mp_reads_y hb (T := T) (N := N) (s := (ncI l a)) (a := a) ht (by omega) g103) rfl (mqR0 hb) rfl rfl (Nat.le_of_ble_eq_true rfl) ⟨(Nat.le_of_ble_eq_true rfl), (Nat.le_of_ble_eq_true rfl)⟩ (Nat.zero_add _) (Nat.zero_add _) ?_
              refine gq_if_eqF (tgt := 137) hX dX5_readsCommand_129 rfl rfl (by decide) ?_
              have hsn : ncI l a = nI 103 := nx_val g103
              rcases Bool.eq_false_or_eq_true (nx l (a + 1) 114) with k1 | k1
              · refine gq_aload_n hX dX5_readsCommand_132 rfl rfl rfl ?_
                refine gq_callV (mc := 0) (ms := 0) (nc1 := 0) (ns1 := 0) hX dX5_readsCommand_133 vX5_269 (mp_rdG_a hb (T := T) (N := N) (s := (ncI l a)) (a := a + 1) ht (by omega) (by omega) k1) rfl (mqR0 hb) rfl rfl (Nat.le_of_ble_eq_true rfl) ⟨(Nat.le_of_ble_eq_true rfl), (Nat.le_of_ble_eq_true rfl)⟩ rfl rfl ?_
                rintro r M1 ⟨rfl, N1, s1, rfl, hs⟩
                have hcm : cmdM l a = fmC l 6 a := by unfold cmdM; rw [if_neg (by rw [g99]; decide), if_neg (by rw [g116]; decide), if_neg (by rw [g112]; decide), if_neg (by rw [g108]; decide), if_neg (by rw [g114]; decide), if_pos g103, if_pos k1]
                have hre : cmR (cmdM l a) = mG l (frmN 6) 8 1 (a + 1) := by rw [hcm]; exact fmR_1 rfl rfl (by decide) (by decide) g103
                refine gq_zret hX hQ dX5_readsCommand_136 rfl (by split <;> rfl) ?_
                unfold RdR
                rw [hre, hcm]
                exact ⟨rfl, N1, s1, rfl, fun hh => ⟨(hs hh).1.trans hsn, (hs hh).2⟩⟩
              · refine gq_aload_n hX dX5_readsCommand_132 rfl rfl rfl ?_
                refine gq_callV (mc := 0) (ms := 0) (nc1 := 0) (ns1 := 0) hX dX5_readsCommand_133 vX5_269 (mp_rdG_b hb (T := T) (N := N) (s := (ncI l a)) (a := a + 1) ht (by omega) (by omega) k1) rfl (mqR0 hb) rfl rfl (Nat.le_of_ble_eq_true rfl) ⟨(Nat.le_of_ble_eq_true rfl), (Nat.le_of_ble_eq_true rfl)⟩ rfl rfl ?_
                rintro r M1 ⟨rfl, N1, s1, rfl, hs⟩
                have hcm : cmdM l a = fmC l 11 a := by unfold cmdM; rw [if_neg (by rw [g99]; decide), if_neg (by rw [g116]; decide), if_neg (by rw [g112]; decide), if_neg (by rw [g108]; decide), if_neg (by rw [g114]; decide), if_pos g103, if_neg (by rw [k1]; decide)]
                have hre : cmR (cmdM l a) = mG l (frmN 11) 5 1 (a + 1) := by rw [hcm]; exact fmR_1 rfl rfl (by decide) (by decide) g103
                refine gq_zret hX hQ dX5_readsCommand_136 rfl (by split <;> rfl) ?_
                unfold RdR
                rw [hre, hcm]
                exact ⟨rfl, N1, s1, rfl, hs⟩
            · refine gq_callVe hX dX5_readsCommand_126 rfl vX5_248 (mp_reads_n hb (T := T) (N := N) (s := (ncI l a)) (a := a) ht (by omega) (by decide) g103) rfl (mqR0 hb) rfl rfl (Nat.le_of_ble_eq_true rfl) ⟨(Nat.le_of_ble_eq_true rfl), (Nat.le_of_ble_eq_true rfl)⟩ (Nat.zero_add _) (Nat.zero_add _) ?_
              refine gq_if_eqT (tgt := 137) hX dX5_readsCommand_129 rfl rfl ?_
              refine gq_aload_n hX dX5_readsCommand_137 rfl rfl rfl ?_
              refine gq_bipush (v := nI 115) hX dX5_readsCommand_138 rfl (by decide) ?_
              rcases Bool.eq_false_or_eq_true (nx l a 115) with g115 | g115
              · refine gq_callVe hX dX5_readsCommand_140 rfl vX5_248 (mp_reads_y hb (T := T) (N := N) (s := (ncI l a)) (a := a) ht (by omega) g115) rfl (mqR0 hb) rfl rfl (Nat.le_of_ble_eq_true rfl) ⟨(Nat.le_of_ble_eq_true rfl), (Nat.le_of_ble_eq_true rfl)⟩ (Nat.zero_add _) (Nat.zero_add _) ?_
                refine gq_if_eqF (tgt := 151) hX dX5_readsCommand_143 rfl rfl (by decide) ?_
                have hsn : ncI l a = nI 115 := nx_val g115
                refine gq_aload_n hX dX5_readsCommand_146 rfl rfl rfl ?_
                refine gq_callV (mc := 0) (ms := 0) (nc1 := 0) (ns1 := 0) hX dX5_readsCommand_147 vX5_272 (mp_rdS hb (T := T) (N := N) (s := (ncI l a)) (a := a + 1) ht (by omega) (by omega)) rfl (mqR0 hb) rfl rfl (Nat.le_of_ble_eq_true rfl) ⟨(Nat.le_of_ble_eq_true rfl), (Nat.le_of_ble_eq_true rfl)⟩ rfl rfl ?_
                rintro r M1 ⟨rfl, N1, s1, rfl, hs⟩
                have hcm : cmdM l a = fmC l 7 a := by unfold cmdM; rw [if_neg (by rw [g99]; decide), if_neg (by rw [g116]; decide), if_neg (by rw [g112]; decide), if_neg (by rw [g108]; decide), if_neg (by rw [g114]; decide), if_neg (by rw [g103]; decide), if_pos g115]
                have hre : cmR (cmdM l a) = mG l (frmN 7) 9 1 (a + 1) := by rw [hcm]; exact fmR_1 rfl rfl (by decide) (by decide) g115
                refine gq_zret hX hQ dX5_readsCommand_150 rfl (by split <;> rfl) ?_
                unfold RdR
                rw [hre, hcm]
                exact ⟨rfl, N1, s1, rfl, fun hh => ⟨(hs hh).1.trans hsn, (hs hh).2⟩⟩
              · refine gq_callVe hX dX5_readsCommand_140 rfl vX5_248 (mp_reads_n hb (T := T) (N := N) (s := (ncI l a)) (a := a) ht (by omega) (by decide) g115) rfl (mqR0 hb) rfl rfl (Nat.le_of_ble_eq_true rfl) ⟨(Nat.le_of_ble_eq_true rfl), (Nat.le_of_ble_eq_true rfl)⟩ (Nat.zero_add _) (Nat.zero_add _) ?_
                refine gq_if_eqT (tgt := 151) hX dX5_readsCommand_143 rfl rfl ?_
                refine gq_aload_n hX dX5_readsCommand_151 rfl rfl rfl ?_
                refine gq_bipush (v := nI 117) hX dX5_readsCommand_152 rfl (by decide) ?_
                rcases Bool.eq_false_or_eq_true (nx l a 117) with g117 | g117
                · refine gq_callVe hX dX5_readsCommand_154 rfl vX5_248 (mp_reads_y hb (T := T) (N := N) (s := (ncI l a)) (a := a) ht (by omega) g117) rfl (mqR0 hb) rfl rfl (Nat.le_of_ble_eq_true rfl) ⟨(Nat.le_of_ble_eq_true rfl), (Nat.le_of_ble_eq_true rfl)⟩ (Nat.zero_add _) (Nat.zero_add _) ?_
                  refine gq_if_eqF (tgt := 165) hX dX5_readsCommand_157 rfl rfl (by decide) ?_
                  have hsn : ncI l a = nI 117 := nx_val g117
                  refine gq_aload_n hX dX5_readsCommand_160 rfl rfl rfl ?_
                  refine gq_callV (mc := 0) (ms := 0) (nc1 := 0) (ns1 := 0) hX dX5_readsCommand_161 vX5_275 (mp_rdU hb (T := T) (N := N) (s := (ncI l a)) (a := a + 1) ht (by omega) (by omega)) rfl (mqR0 hb) rfl rfl (Nat.le_of_ble_eq_true rfl) ⟨(Nat.le_of_ble_eq_true rfl), (Nat.le_of_ble_eq_true rfl)⟩ rfl rfl ?_
                  rintro r M1 ⟨rfl, N1, s1, rfl, hs⟩
                  have hcm : cmdM l a = fmC l 8 a := by unfold cmdM; rw [if_neg (by rw [g99]; decide), if_neg (by rw [g116]; decide), if_neg (by rw [g112]; decide), if_neg (by rw [g108]; decide), if_neg (by rw [g114]; decide), if_neg (by rw [g103]; decide), if_neg (by rw [g115]; decide), if_pos g117]
                  have hre : cmR (cmdM l a) = mG l (frmN 8) 8 1 (a + 1) := by rw [hcm]; exact fmR_1 rfl rfl (by decide) (by decide) g117
                  refine gq_zret hX hQ dX5_readsCommand_164 rfl (by split <;> rfl) ?_
                  unfold RdR
                  rw [hre, hcm]
                  exact ⟨rfl, N1, s1, rfl, hs⟩
                · refine gq_callVe hX dX5_readsCommand_154 rfl vX5_248 (mp_reads_n hb (T := T) (N := N) (s := (ncI l a)) (a := a) ht (by omega) (by decide) g117) rfl (mqR0 hb) rfl rfl (Nat.le_of_ble_eq_true rfl) ⟨(Nat.le_of_ble_eq_true rfl), (Nat.le_of_ble_eq_true rfl)⟩ (Nat.zero_add _) (Nat.zero_add _) ?_
                  refine gq_if_eqT (tgt := 165) hX dX5_readsCommand_157 rfl rfl ?_
                  refine gq_aload_n hX dX5_readsCommand_165 rfl rfl rfl ?_
                  refine gq_bipush (v := nI 119) hX dX5_readsCommand_166 rfl (by decide) ?_
                  rcases Bool.eq_false_or_eq_true (nx l a 119) with g119 | g119
                  · refine gq_callVe hX dX5_readsCommand_168 rfl vX5_248 (mp_reads_y hb (T := T) (N := N) (s := (ncI l a)) (a := a) ht (by omega) g119) rfl (mqR0 hb) rfl rfl (Nat.le_of_ble_eq_true rfl) ⟨(Nat.le_of_ble_eq_true rfl), (Nat.le_of_ble_eq_true rfl)⟩ (Nat.zero_add _) (Nat.zero_add _) ?_
                    refine gq_if_eqF (tgt := 179) hX dX5_readsCommand_171 rfl rfl (by decide) ?_
                    have hsn : ncI l a = nI 119 := nx_val g119
                    refine gq_aload_n hX dX5_readsCommand_174 rfl rfl rfl ?_
                    refine gq_callV (mc := 0) (ms := 0) (nc1 := 0) (ns1 := 0) hX dX5_readsCommand_175 vX5_278 (mp_rdW hb (T := T) (N := N) (s := (ncI l a)) (a := a + 1) ht (by omega) (by omega)) rfl (mqR0 hb) rfl rfl (Nat.le_of_ble_eq_true rfl) ⟨(Nat.le_of_ble_eq_true rfl), (Nat.le_of_ble_eq_true rfl)⟩ rfl rfl ?_
                    rintro r M1 ⟨rfl, N1, s1, rfl, hs⟩
                    have hcm : cmdM l a = fmC l 9 a := by unfold cmdM; rw [if_neg (by rw [g99]; decide), if_neg (by rw [g116]; decide), if_neg (by rw [g112]; decide), if_neg (by rw [g108]; decide), if_neg (by rw [g114]; decide), if_neg (by rw [g103]; decide), if_neg (by rw [g115]; decide), if_neg (by rw [g117]; decide), if_pos g119]
                    have hre : cmR (cmdM l a) = mG l (frmN 9) 9 1 (a + 1) := by rw [hcm]; exact fmR_1 rfl rfl (by decide) (by decide) g119
                    refine gq_zret hX hQ dX5_readsCommand_178 rfl (by split <;> rfl) ?_
                    unfold RdR
                    rw [hre, hcm]
                    exact ⟨rfl, N1, s1, rfl, fun hh => ⟨(hs hh).1.trans hsn, (hs hh).2⟩⟩
                  · refine gq_callVe hX dX5_readsCommand_168 rfl vX5_248 (mp_reads_n hb (T := T) (N := N) (s := (ncI l a)) (a := a) ht (by omega) (by decide) g119) rfl (mqR0 hb) rfl rfl (Nat.le_of_ble_eq_true rfl) ⟨(Nat.le_of_ble_eq_true rfl), (Nat.le_of_ble_eq_true rfl)⟩ (Nat.zero_add _) (Nat.zero_add _) ?_
                    refine gq_if_eqT (tgt := 179) hX dX5_readsCommand_171 rfl rfl ?_
                    refine gq_aload_n hX dX5_readsCommand_179 rfl rfl rfl ?_
                    refine gq_bipush (v := nI 118) hX dX5_readsCommand_180 rfl (by decide) ?_
                    rcases Bool.eq_false_or_eq_true (nx l a 118) with g118 | g118
                    · refine gq_callVe hX dX5_readsCommand_182 rfl vX5_248 (mp_reads_y hb (T := T) (N := N) (s := (ncI l a)) (a := a) ht (by omega) g118) rfl (mqR0 hb) rfl rfl (Nat.le_of_ble_eq_true rfl) ⟨(Nat.le_of_ble_eq_true rfl), (Nat.le_of_ble_eq_true rfl)⟩ (Nat.zero_add _) (Nat.zero_add _) ?_
                      refine gq_if_eqF (tgt := 236) hX dX5_readsCommand_185 rfl rfl (by decide) ?_
                      have hsn : ncI l a = nI 118 := nx_val g118
                      refine gq_aload_n hX dX5_readsCommand_188 rfl rfl rfl ?_
                      refine gq_bipush (v := nI 111) hX dX5_readsCommand_189 rfl (by decide) ?_
                      rcases Bool.eq_false_or_eq_true (nx l (a + 1) 111) with h80 | h80
                      · refine gq_callVe hX dX5_readsCommand_191 rfl vX5_248 (mp_reads_y hb (T := T) (N := N) (s := (ncI l a)) (a := a + 1) ht (by omega) h80) rfl (mqR0 hb) rfl rfl (Nat.le_of_ble_eq_true rfl) ⟨(Nat.le_of_ble_eq_true rfl), (Nat.le_of_ble_eq_true rfl)⟩ (Nat.zero_add _) (Nat.zero_add _) ?_
                        refine gq_if_eqF (tgt := 236) hX dX5_readsCommand_194 rfl rfl (by decide) ?_
                        refine gq_aload_n hX dX5_readsCommand_197 rfl rfl rfl ?_
                        refine gq_bipush (v := nI 116) hX dX5_readsCommand_198 rfl (by decide) ?_
                        rcases Bool.eq_false_or_eq_true (nx l (a + 1 + 1) 116) with h81 | h81
                        · refine gq_callVe hX dX5_readsCommand_200 rfl vX5_248 (mp_reads_y hb (T := T) (N := N) (s := (ncI l a)) (a := a + 1 + 1) ht (by omega) h81) rfl (mqR0 hb) rfl rfl (Nat.le_of_ble_eq_true rfl) ⟨(Nat.le_of_ble_eq_true rfl), (Nat.le_of_ble_eq_true rfl)⟩ (Nat.zero_add _) (Nat.zero_add _) ?_
                          refine gq_if_eqF (tgt := 236) hX dX5_readsCommand_203 rfl rfl (by decide) ?_
                          refine gq_aload_n hX dX5_readsCommand_206 rfl rfl rfl ?_
                          refine gq_bipush (v := nI 101) hX dX5_readsCommand_207 rfl (by decide) ?_
                          rcases Bool.eq_false_or_eq_true (nx l (a + 1 + 1 + 1) 101) with h82 | h82
                          · refine gq_callVe hX dX5_readsCommand_209 rfl vX5_248 (mp_reads_y hb (T := T) (N := N) (s := (ncI l a)) (a := a + 1 + 1 + 1) ht (by omega) h82) rfl (mqR0 hb) rfl rfl (Nat.le_of_ble_eq_true rfl) ⟨(Nat.le_of_ble_eq_true rfl), (Nat.le_of_ble_eq_true rfl)⟩ (Nat.zero_add _) (Nat.zero_add _) ?_
                            refine gq_if_eqF (tgt := 236) hX dX5_readsCommand_212 rfl rfl (by decide) ?_
                            refine gq_aload_n hX dX5_readsCommand_215 rfl rfl rfl ?_
                            refine gq_bipush (v := nI 32) hX dX5_readsCommand_216 rfl (by decide) ?_
                            rcases Bool.eq_false_or_eq_true (nx l (a + 1 + 1 + 1 + 1) 32) with h83 | h83
                            · refine gq_callVe hX dX5_readsCommand_218 rfl vX5_248 (mp_reads_y hb (T := T) (N := N) (s := (ncI l a)) (a := a + 1 + 1 + 1 + 1) ht (by omega) h83) rfl (mqR0 hb) rfl rfl (Nat.le_of_ble_eq_true rfl) ⟨(Nat.le_of_ble_eq_true rfl), (Nat.le_of_ble_eq_true rfl)⟩ (Nat.zero_add _) (Nat.zero_add _) ?_
                              refine gq_if_eqF (tgt := 236) hX dX5_readsCommand_221 rfl rfl (by decide) ?_
                              refine gq_aload_n hX dX5_readsCommand_224 rfl rfl rfl ?_
                              refine gq_iconst (v := nI 0) hX dX5_readsCommand_225 rfl (by decide) ?_
                              by_cases h84 : dgt l (a + 1 + 1 + 1 + 1 + 1) = true
                              · have dh84 := dgm_le (l := l) (a := a + 1 + 1 + 1 + 1 + 1) 3
                                refine gq_callVe hX dX5_readsCommand_226 rfl vX5_251 (mp_num_y hb (T := T) (N := N) (s := (ncI l a)) (a := a + 1 + 1 + 1 + 1 + 1) ht (by omega) (by decide) h84) rfl (mqR0 hb) rfl rfl (Nat.le_of_ble_eq_true rfl) ⟨(Nat.le_of_ble_eq_true rfl), (Nat.le_of_ble_eq_true rfl)⟩ (Nat.zero_add _) (Nat.zero_add _) ?_
                                refine gq_if_eqF (tgt := 236) hX dX5_readsCommand_229 rfl rfl (by decide) ?_
                                refine gq_iconst (v := nI 1) hX dX5_readsCommand_232 rfl (by decide) ?_
                                refine gq_goto (tgt := 237) hX dX5_readsCommand_233 rfl ?_
                                have hcm : cmdM l a = fmC l 10 a := by unfold cmdM; rw [if_neg (by rw [g99]; decide), if_neg (by rw [g116]; decide), if_neg (by rw [g112]; decide), if_neg (by rw [g108]; decide), if_neg (by rw [g114]; decide), if_neg (by rw [g103]; decide), if_neg (by rw [g115]; decide), if_neg (by rw [g117]; decide), if_neg (by rw [g119]; decide)]
                                have hre0 : cmR (cmdM l a) = mG l (frmN 10) 5 1 (a + 1) := by rw [hcm]; exact fmR_1 rfl rfl (by decide) (by decide) g118
                                have hre : cmR (cmdM l a) = (true, a + 1 + 1 + 1 + 1 + 1 + dgm l (a + 1 + 1 + 1 + 1 + 1) 3, [valN l (a + 1 + 1 + 1 + 1 + 1) (dgm l (a + 1 + 1 + 1 + 1 + 1) 3)]) := hre0.trans ((mG_y rfl (by decide) (by decide) h80).trans ((mG_y rfl (by decide) (by decide) h81).trans ((mG_y rfl (by decide) (by decide) h82).trans ((mG_y rfl (by decide) (by decide) h83).trans (mG_Dy rfl rfl (dgm3_y h84) (rfl))))))
                                refine gq_zret hX hQ dX5_readsCommand_237 rfl rfl ?_
                                unfold RdR
                                rw [hre, hcm]
                                exact ⟨rfl, (upd N 0 (nI (valN l (a + 1 + 1 + 1 + 1 + 1) (dgm l (a + 1 + 1 + 1 + 1 + 1) 3)))), (ncI l a), rfl, fun _ => ⟨hsn, fun q hq => match q, hq with | 0, _ => upd_s _ _ _ | _ + 1, h => absurd h (by simp)⟩⟩
                              · refine gq_callVe hX dX5_readsCommand_226 rfl vX5_251 (mp_num_n hb (T := T) (N := N) (s := (ncI l a)) (a := a + 1 + 1 + 1 + 1 + 1) ht (by omega) h84) rfl (mqR0 hb) rfl rfl (Nat.le_of_ble_eq_true rfl) ⟨(Nat.le_of_ble_eq_true rfl), (Nat.le_of_ble_eq_true rfl)⟩ (Nat.zero_add _) (Nat.zero_add _) ?_
                                refine gq_if_eqT (tgt := 236) hX dX5_readsCommand_229 rfl rfl ?_
                                refine gq_iconst (v := nI 0) hX dX5_readsCommand_236 rfl (by decide) ?_
                                have hcm : cmdM l a = fmC l 10 a := by unfold cmdM; rw [if_neg (by rw [g99]; decide), if_neg (by rw [g116]; decide), if_neg (by rw [g112]; decide), if_neg (by rw [g108]; decide), if_neg (by rw [g114]; decide), if_neg (by rw [g103]; decide), if_neg (by rw [g115]; decide), if_neg (by rw [g117]; decide), if_neg (by rw [g119]; decide)]
                                have hre0 : cmR (cmdM l a) = mG l (frmN 10) 5 1 (a + 1) := by rw [hcm]; exact fmR_1 rfl rfl (by decide) (by decide) g118
                                have hr : (cmR (cmdM l a)).1 = false ∧ (cmR (cmdM l a)).2.1 = a + 1 + 1 + 1 + 1 + 1 := by rw [hre0, (mG_y rfl (by decide) (by decide) h80).trans ((mG_y rfl (by decide) (by decide) h81).trans ((mG_y rfl (by decide) (by decide) h82).trans ((mG_y rfl (by decide) (by decide) h83).trans (mG_Dn rfl (dgm3_n h84)))))]; exact ⟨rfl, rfl⟩
                                refine gq_zret hX hQ dX5_readsCommand_237 rfl rfl ?_
                                unfold RdR
                                rw [hr.1, hr.2]
                                exact ⟨rfl, N, (ncI l a), rfl, fun h => by cases h⟩
                            · refine gq_callVe hX dX5_readsCommand_218 rfl vX5_248 (mp_reads_n hb (T := T) (N := N) (s := (ncI l a)) (a := a + 1 + 1 + 1 + 1) ht (by omega) (by decide) h83) rfl (mqR0 hb) rfl rfl (Nat.le_of_ble_eq_true rfl) ⟨(Nat.le_of_ble_eq_true rfl), (Nat.le_of_ble_eq_true rfl)⟩ (Nat.zero_add _) (Nat.zero_add _) ?_
                              refine gq_if_eqT (tgt := 236) hX dX5_readsCommand_221 rfl rfl ?_
                              refine gq_iconst (v := nI 0) hX dX5_readsCommand_236 rfl (by decide) ?_
                              have hcm : cmdM l a = fmC l 10 a := by unfold cmdM; rw [if_neg (by rw [g99]; decide), if_neg (by rw [g116]; decide), if_neg (by rw [g112]; decide), if_neg (by rw [g108]; decide), if_neg (by rw [g114]; decide), if_neg (by rw [g103]; decide), if_neg (by rw [g115]; decide), if_neg (by rw [g117]; decide), if_neg (by rw [g119]; decide)]
                              have hre0 : cmR (cmdM l a) = mG l (frmN 10) 5 1 (a + 1) := by rw [hcm]; exact fmR_1 rfl rfl (by decide) (by decide) g118
                              have hr : (cmR (cmdM l a)).1 = false ∧ (cmR (cmdM l a)).2.1 = a + 1 + 1 + 1 + 1 := by rw [hre0, (mG_y rfl (by decide) (by decide) h80).trans ((mG_y rfl (by decide) (by decide) h81).trans ((mG_y rfl (by decide) (by decide) h82).trans (mG_n rfl (by decide) (by decide) h83)))]; exact ⟨rfl, rfl⟩
                              refine gq_zret hX hQ dX5_readsCommand_237 rfl rfl ?_
                              unfold RdR
                              rw [hr.1, hr.2]
                              exact ⟨rfl, N, (ncI l a), rfl, fun h => by cases h⟩
                          · refine gq_callVe hX dX5_readsCommand_209 rfl vX5_248 (mp_reads_n hb (T := T) (N := N) (s := (ncI l a)) (a := a + 1 + 1 + 1) ht (by omega) (by decide) h82) rfl (mqR0 hb) rfl rfl (Nat.le_of_ble_eq_true rfl) ⟨(Nat.le_of_ble_eq_true rfl), (Nat.le_of_ble_eq_true rfl)⟩ (Nat.zero_add _) (Nat.zero_add _) ?_
                            refine gq_if_eqT (tgt := 236) hX dX5_readsCommand_212 rfl rfl ?_
                            refine gq_iconst (v := nI 0) hX dX5_readsCommand_236 rfl (by decide) ?_
                            have hcm : cmdM l a = fmC l 10 a := by unfold cmdM; rw [if_neg (by rw [g99]; decide), if_neg (by rw [g116]; decide), if_neg (by rw [g112]; decide), if_neg (by rw [g108]; decide), if_neg (by rw [g114]; decide), if_neg (by rw [g103]; decide), if_neg (by rw [g115]; decide), if_neg (by rw [g117]; decide), if_neg (by rw [g119]; decide)]
                            have hre0 : cmR (cmdM l a) = mG l (frmN 10) 5 1 (a + 1) := by rw [hcm]; exact fmR_1 rfl rfl (by decide) (by decide) g118
                            have hr : (cmR (cmdM l a)).1 = false ∧ (cmR (cmdM l a)).2.1 = a + 1 + 1 + 1 := by rw [hre0, (mG_y rfl (by decide) (by decide) h80).trans ((mG_y rfl (by decide) (by decide) h81).trans (mG_n rfl (by decide) (by decide) h82))]; exact ⟨rfl, rfl⟩
                            refine gq_zret hX hQ dX5_readsCommand_237 rfl rfl ?_
                            unfold RdR
                            rw [hr.1, hr.2]
                            exact ⟨rfl, N, (ncI l a), rfl, fun h => by cases h⟩
                        · refine gq_callVe hX dX5_readsCommand_200 rfl vX5_248 (mp_reads_n hb (T := T) (N := N) (s := (ncI l a)) (a := a + 1 + 1) ht (by omega) (by decide) h81) rfl (mqR0 hb) rfl rfl (Nat.le_of_ble_eq_true rfl) ⟨(Nat.le_of_ble_eq_true rfl), (Nat.le_of_ble_eq_true rfl)⟩ (Nat.zero_add _) (Nat.zero_add _) ?_
                          refine gq_if_eqT (tgt := 236) hX dX5_readsCommand_203 rfl rfl ?_
                          refine gq_iconst (v := nI 0) hX dX5_readsCommand_236 rfl (by decide) ?_
                          have hcm : cmdM l a = fmC l 10 a := by unfold cmdM; rw [if_neg (by rw [g99]; decide), if_neg (by rw [g116]; decide), if_neg (by rw [g112]; decide), if_neg (by rw [g108]; decide), if_neg (by rw [g114]; decide), if_neg (by rw [g103]; decide), if_neg (by rw [g115]; decide), if_neg (by rw [g117]; decide), if_neg (by rw [g119]; decide)]
                          have hre0 : cmR (cmdM l a) = mG l (frmN 10) 5 1 (a + 1) := by rw [hcm]; exact fmR_1 rfl rfl (by decide) (by decide) g118
                          have hr : (cmR (cmdM l a)).1 = false ∧ (cmR (cmdM l a)).2.1 = a + 1 + 1 := by rw [hre0, (mG_y rfl (by decide) (by decide) h80).trans (mG_n rfl (by decide) (by decide) h81)]; exact ⟨rfl, rfl⟩
                          refine gq_zret hX hQ dX5_readsCommand_237 rfl rfl ?_
                          unfold RdR
                          rw [hr.1, hr.2]
                          exact ⟨rfl, N, (ncI l a), rfl, fun h => by cases h⟩
                      · refine gq_callVe hX dX5_readsCommand_191 rfl vX5_248 (mp_reads_n hb (T := T) (N := N) (s := (ncI l a)) (a := a + 1) ht (by omega) (by decide) h80) rfl (mqR0 hb) rfl rfl (Nat.le_of_ble_eq_true rfl) ⟨(Nat.le_of_ble_eq_true rfl), (Nat.le_of_ble_eq_true rfl)⟩ (Nat.zero_add _) (Nat.zero_add _) ?_
                        refine gq_if_eqT (tgt := 236) hX dX5_readsCommand_194 rfl rfl ?_
                        refine gq_iconst (v := nI 0) hX dX5_readsCommand_236 rfl (by decide) ?_
                        have hcm : cmdM l a = fmC l 10 a := by unfold cmdM; rw [if_neg (by rw [g99]; decide), if_neg (by rw [g116]; decide), if_neg (by rw [g112]; decide), if_neg (by rw [g108]; decide), if_neg (by rw [g114]; decide), if_neg (by rw [g103]; decide), if_neg (by rw [g115]; decide), if_neg (by rw [g117]; decide), if_neg (by rw [g119]; decide)]
                        have hre0 : cmR (cmdM l a) = mG l (frmN 10) 5 1 (a + 1) := by rw [hcm]; exact fmR_1 rfl rfl (by decide) (by decide) g118
                        have hr : (cmR (cmdM l a)).1 = false ∧ (cmR (cmdM l a)).2.1 = a + 1 := by rw [hre0, mG_n rfl (by decide) (by decide) h80]; exact ⟨rfl, rfl⟩
                        refine gq_zret hX hQ dX5_readsCommand_237 rfl rfl ?_
                        unfold RdR
                        rw [hr.1, hr.2]
                        exact ⟨rfl, N, (ncI l a), rfl, fun h => by cases h⟩
                    · refine gq_callVe hX dX5_readsCommand_182 rfl vX5_248 (mp_reads_n hb (T := T) (N := N) (s := (ncI l a)) (a := a) ht (by omega) (by decide) g118) rfl (mqR0 hb) rfl rfl (Nat.le_of_ble_eq_true rfl) ⟨(Nat.le_of_ble_eq_true rfl), (Nat.le_of_ble_eq_true rfl)⟩ (Nat.zero_add _) (Nat.zero_add _) ?_
                      refine gq_if_eqT (tgt := 236) hX dX5_readsCommand_185 rfl rfl ?_
                      refine gq_iconst (v := nI 0) hX dX5_readsCommand_236 rfl (by decide) ?_
                      have hcm : cmdM l a = fmC l 10 a := by unfold cmdM; rw [if_neg (by rw [g99]; decide), if_neg (by rw [g116]; decide), if_neg (by rw [g112]; decide), if_neg (by rw [g108]; decide), if_neg (by rw [g114]; decide), if_neg (by rw [g103]; decide), if_neg (by rw [g115]; decide), if_neg (by rw [g117]; decide), if_neg (by rw [g119]; decide)]
                      have e0 : fmR l 10 a = (false, a, []) := fmR_n (by decide) g118
                      have hr : (cmR (cmdM l a)).1 = false ∧ (cmR (cmdM l a)).2.1 = a := by rw [hcm]; unfold cmR fmC; rw [e0]; exact ⟨rfl, rfl⟩
                      refine gq_zret hX hQ dX5_readsCommand_237 rfl rfl ?_
                      unfold RdR
                      rw [hr.1, hr.2]
                      exact ⟨rfl, N, (ncI l a), rfl, fun h => by cases h⟩

