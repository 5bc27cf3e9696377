def rdT (T : St) (N : Nat → Int32) (a : Nat) (s : Int32) : St := setS (setS (setA T 8 N) 6 (nI a)) 10 s
def TxP (T : St) (l : Ln) : Prop := T.1 5 = nI l.2 ∧ l.2 ≤ 60 ∧ (∀ i, i < l.2 → T.2 7 i = nI (l.1 i)) ∧ ∀ i, i < l.2 → l.1 i < 128
def ncI (l : Ln) (a : Nat) : Int32 := if a < l.2 then nI (l.1 a) else -1
section
variable {T : St} {N N2 : Nat → Int32} {a a2 : Nat} {s s2 : Int32}
theorem setS_c {S : St} {j k : Nat} {u v : Int32} (h : j ≠ k) : setS (setS S j u) k v = setS (setS S k v) j u := by
  refine Prod.ext ?_ rfl
  funext i
  show (if i = k then v else if i = j then u else S.1 i) = if i = j then u else if i = k then v else S.1 i
  by_cases e : i = k
  · subst e
    rw [if_pos rfl, if_neg (Ne.symm h), if_pos rfl]
  · rw [if_neg e, if_neg e]
theorem rdT_at : setS (rdT T N a s) 6 (nI a2) = rdT T N a2 s := by
  unfold rdT
  rw [setS_c (by decide), setS_2]
theorem rdT_so : setS (rdT T N a s) 10 s2 = rdT T N a s2 := by
  unfold rdT
  rw [setS_2]
theorem rdT_nu : setA (rdT T N a s) 8 N2 = rdT T N2 a s := congrArg (fun z => setS (setS z 6 (nI a)) 10 s) (setA_2 (S := T) (k := 8) (f := N) (g := N2))
theorem rdT_id (h6 : T.1 6 = nI a) : T = rdT T (T.2 8) a (T.1 10) := by
  unfold rdT
  rw [setA_id, ← h6, setS_id, setS_id]
theorem upd_2 {f : Nat → Int32} {k : Nat} {x y : Int32} : upd (upd f k x) k y = upd f k y := by
  funext i
  by_cases e : i = k
  · subst e
    rw [upd_s, upd_s]
  · rw [upd_n _ e, upd_n _ e, upd_n _ e]
end
theorem nx_val {l : Ln} {a c : Nat} (h : nx l a c = true) : ncI l a = nI c := by
  have h8 : a < l.2 ∧ l.1 a = c := of_decide_eq_true h
  unfold ncI
  rw [if_pos h8.1, h8.2]
theorem nx_nval {l : Ln} {a c : Nat} (hl : ∀ i, i < l.2 → l.1 i < 128) (hc : c < 128) (h : nx l a c = false) : ¬ ncI l a = nI c := by
  have h8 : ¬ (a < l.2 ∧ l.1 a = c) := of_decide_eq_false h
  unfold ncI
  split
  · rename_i h9
    intro e
    have := (nI_eq (by have := hl a h9; omega) (by omega)).mp e
    omega
  · exact fun e => nI_m1 (show c < 100000 by omega) e.symm
theorem dgt_val {l : Ln} {a : Nat} (hl : ∀ i, i < l.2 → l.1 i < 128) : btw (ncI l a) (nI 48) (nI 57) = if dgt l a = true then nI 1 else nI 0 := by
  by_cases h : dgt l a = true
  · have h8 : a < l.2 ∧ 48 ≤ l.1 a ∧ l.1 a ≤ 57 := of_decide_eq_true h
    rw [if_pos h]
    unfold ncI btw
    rw [if_pos h8.1, if_neg (nI_nlt (by omega) (by omega)), if_neg (nI_nlt (by omega) (by omega))]
  · have h8 : ¬ (a < l.2 ∧ 48 ≤ l.1 a ∧ l.1 a ≤ 57) := fun z => h (decide_eq_true z)
    rw [if_neg h]
    unfold ncI btw
    by_cases h9 : a < l.2
    · have := hl a h9
      rw [if_pos h9]
      by_cases h1 : l.1 a < 48
      · rw [if_pos (nI_lt h1 (by omega))]
      · rw [if_neg (nI_nlt (by omega) (by omega)), if_pos (nI_lt (by omega) (by omega))]
    · rw [if_neg h9, if_pos (by decide)]
def RdR (E : Ev) (b : Nat → Nat) (T : St) (w : Nat → Int32) (M : Hp) (res : Rs) (sx : Int32) : Option Value → Hp → Prop := fun r M1 => r = some (.int (if res.1 = true then nI 1 else nI 0)) ∧ ∃ N1 s1, M1 = MdW E b (rdT T N1 res.2.1 s1) w M ∧ (res.1 = true → s1 = sx ∧ ∀ q, q < res.2.2.length → N1 q = nI (res.2.2.getD q 0))

set_option maxRecDepth 100000 in
set_option maxHeartbeats 4000000 in
theorem mp_next {E : Ev} {b : Nat → Nat} {T : St} {w : Nat → Int32} {M : Hp} (hb : Lay E 9 b) {l : Ln} (ht : TxP T l) {a : Nat} (h6 : T.1 6 = nI a) (ha : a < 1000) : Ct E mX5_nextChar [.ref (b 0)] (MdW E b T w M) (eqR (some (.int (ncI l a))) (MdW E b T w M)) 0 0 := by
  refine Ct.of gmX5_nextChar (ls := [.ref (b 0)]) rfl rfl (Nat.le_of_ble_eq_true rfl) ?_
  intro X hX Q hQ
  obtain ⟨h5, h60, h7, h128⟩ := ht
  refine gq_aload_n hX dX5_nextChar_0 rfl rfl rfl ?_
  refine gq_getf hX dX5_nextChar_1 rfl fX5_235 (mqR0 hb) rfl ?_
  refine gq_aload_n hX dX5_nextChar_4 rfl rfl rfl ?_
  refine gq_getf hX dX5_nextChar_5 rfl fX5_232 (mqR0 hb) rfl ?_
  by_cases hl : a < l.2
  · refine gq_icmp_geF (tgt := 23) hX dX5_nextChar_8 rfl rfl (by rw [h6, h5]; exact nI_ge hl (by omega)) ?_
    refine gq_aload_n hX dX5_nextChar_11 rfl rfl rfl ?_
    refine gq_getf hX dX5_nextChar_12 rfl fX5_29 (mqR0 hb) rfl ?_
    refine gq_aload_n hX dX5_nextChar_15 rfl rfl rfl ?_
    refine gq_getf hX dX5_nextChar_16 rfl fX5_235 (mqR0 hb) rfl ?_
    refine gq_caldN hX dX5_nextChar_19 rfl (mqR7 hb) h6 (by omega) (Nat.le_of_ble_eq_true rfl) ?_
    rw [h7 a hl]
    refine gq_goto (tgt := 24) hX dX5_nextChar_20 rfl ?_
    exact gq_iret hX hQ dX5_nextChar_24 rfl ⟨by rw [ncI, if_pos hl], rfl⟩
  · refine gq_icmp_geT (tgt := 23) hX dX5_nextChar_8 rfl (by rw [h6, h5]; exact nI_le (by omega) (by omega)) ?_
    refine gq_iconst (v := -1) hX dX5_nextChar_23 rfl (by decide) ?_
    exact gq_iret hX hQ dX5_nextChar_24 rfl ⟨by rw [ncI, if_neg hl], rfl⟩

set_option maxRecDepth 100000 in
set_option maxHeartbeats 4000000 in
theorem mp_reads_y {E : Ev} {b : Nat → Nat} {T : St} {w : Nat → Int32} {N : Nat → Int32} {s : Int32} {M : Hp} (hb : Lay E 9 b) {l : Ln} (ht : TxP T l) {a : Nat} (ha : a < 1000) {c : Nat} (h : nx l a c = true) : Ct E mX5_reads [.ref (b 0), .int (nI c)] (MdW E b (rdT T N a s) w M) (eqR (some (.int (nI 1))) (MdW E b (rdT T N (a + 1) s) w M)) 0 0 := by
  refine Ct.of gmX5_reads (ls := [.ref (b 0), .int (nI c)]) rfl rfl (Nat.le_of_ble_eq_true rfl) ?_
  intro X hX Q hQ
  refine gq_aload_n hX dX5_reads_0 rfl rfl rfl ?_
  refine gq_callVe hX dX5_reads_1 rfl vX5_238 (mp_next hb (T := rdT T N a s) (l := l) ht rfl ha) rfl (mqR0 hb) rfl rfl (Nat.le_of_ble_eq_true rfl) ⟨(Nat.le_of_ble_eq_true rfl), (Nat.le_of_ble_eq_true rfl)⟩ (Nat.zero_add _) (Nat.zero_add _) ?_
  refine gq_iload_n hX dX5_reads_4 rfl rfl rfl ?_
  refine gq_icmp_eqT (tgt := 10) hX dX5_reads_5 rfl (nx_val h) ?_
  refine gq_aload_n hX dX5_reads_10 rfl rfl rfl ?_
  refine gq_dup hX dX5_reads_11 rfl rfl ?_
  refine gq_getf hX dX5_reads_12 rfl fX5_235 (mqR0 hb) rfl ?_
  refine gq_iconst (v := nI 1) hX dX5_reads_15 rfl (by decide) ?_
  refine gq_iadd hX dX5_reads_16 rfl ?_
  rw [show (rdT T N a s).1 6 = nI a from rfl, inM]
  refine gq_putf hX dX5_reads_17 rfl fX5_235 rfl rfl rfl (mqR0 hb) (Nat.le_of_ble_eq_true rfl) (hb.2 0 (by decide)) (mqW0_13 hb) ?_
  rw [rdT_at]
  refine gq_iconst (v := nI 1) hX dX5_reads_20 rfl (by decide) ?_
  exact gq_zret hX hQ dX5_reads_21 rfl rfl ⟨rfl, rfl⟩

set_option maxRecDepth 100000 in
set_option maxHeartbeats 4000000 in
theorem mp_reads_n {E : Ev} {b : Nat → Nat} {T : St} {w : Nat → Int32} {N : Nat → Int32} {s : Int32} {M : Hp} (hb : Lay E 9 b) {l : Ln} (ht : TxP T l) {a : Nat} (ha : a < 1000) {c : Nat} (hc : c < 128) (h : nx l a c = false) : Ct E mX5_reads [.ref (b 0), .int (nI c)] (MdW E b (rdT T N a s) w M) (eqR (some (.int (nI 0))) (MdW E b (rdT T N a s) w M)) 0 0 := by
  refine Ct.of gmX5_reads (ls := [.ref (b 0), .int (nI c)]) rfl rfl (Nat.le_of_ble_eq_true rfl) ?_
  intro X hX Q hQ
  refine gq_aload_n hX dX5_reads_0 rfl rfl rfl ?_
  refine gq_callVe hX dX5_reads_1 rfl vX5_238 (mp_next hb (T := rdT T N a s) (l := l) ht rfl ha) rfl (mqR0 hb) rfl rfl (Nat.le_of_ble_eq_true rfl) ⟨(Nat.le_of_ble_eq_true rfl), (Nat.le_of_ble_eq_true rfl)⟩ (Nat.zero_add _) (Nat.zero_add _) ?_
  refine gq_iload_n hX dX5_reads_4 rfl rfl rfl ?_
  refine gq_icmp_eqF (tgt := 10) hX dX5_reads_5 rfl rfl (nx_nval ht.2.2.2 hc h) ?_
  refine gq_iconst (v := nI 0) hX dX5_reads_8 rfl (by decide) ?_
  exact gq_zret hX hQ dX5_reads_9 rfl rfl ⟨rfl, rfl⟩

set_option maxRecDepth 100000 in
set_option maxHeartbeats 4000000 in
theorem mp_isDig {E : Ev} {b : Nat → Nat} {T : St} {w : Nat → Int32} {N : Nat → Int32} {s : Int32} {M : Hp} (hb : Lay E 9 b) {l : Ln} (ht : TxP T l) {a : Nat} (ha : a < 1000)  : Ct E mX5_isDigitNext [.ref (b 0)] (MdW E b (rdT T N a s) w M) (eqR (some (.int (if dgt l a = true then nI 1 else nI 0))) (MdW E b (rdT T N a s) w M)) 0 0 := by
  refine Ct.of gmX5_isDigitNext (ls := [.ref (b 0)]) rfl rfl (Nat.le_of_ble_eq_true rfl) ?_
  intro X hX Q hQ
  refine gq_aload_n hX dX5_isDigitNext_0 rfl rfl rfl ?_
  refine gq_callVe hX dX5_isDigitNext_1 rfl vX5_238 (mp_next hb (T := rdT T N a s) (l := l) ht rfl ha) rfl (mqR0 hb) rfl rfl (Nat.le_of_ble_eq_true rfl) ⟨(Nat.le_of_ble_eq_true rfl), (Nat.le_of_ble_eq_true rfl)⟩ (Nat.zero_add _) (Nat.zero_add _) ?_
  refine gq_bipush (v := nI 48) hX dX5_isDigitNext_4 rfl (by decide) ?_
  refine gq_bipush (v := nI 57) hX dX5_isDigitNext_6 rfl (by decide) ?_
  refine gq_callSe hX dX5_isDigitNext_8 rfl vX5_57 (mt_btw _ _ _) rfl rfl (Nat.le_of_ble_eq_true rfl) ⟨(Nat.le_of_ble_eq_true rfl), (Nat.le_of_ble_eq_true rfl)⟩ (Nat.zero_add _) (Nat.zero_add _) ?_
  rw [dgt_val ht.2.2.2]
  exact gq_zret hX hQ dX5_isDigitNext_11 rfl (by split <;> rfl) ⟨rfl, rfl⟩

set_option maxRecDepth 100000 in
set_option maxHeartbeats 4000000 in
theorem mp_dig_y {E : Ev} {b : Nat → Nat} {T : St} {w : Nat → Int32} {N : Nat → Int32} {s : Int32} {M : Hp} (hb : Lay E 9 b) {l : Ln} (ht : TxP T l) {a : Nat} (ha : a < 1000) {k : Nat} (hk : k < 2) (h : dgt l a = true) : Ct E mX5_readsDigit [.ref (b 0), .int (nI k)] (MdW E b (rdT T N a s) w M) (eqR (some (.int (nI 1))) (MdW E b (rdT T (upd N k (nI (l.1 a - 48))) (a + 1) s) w M)) 0 0 := by
  refine Ct.of gmX5_readsDigit (ls := [.ref (b 0), .int (nI k)]) rfl rfl (Nat.le_of_ble_eq_true rfl) ?_
  intro X hX Q hQ
  have h8 : a < l.2 ∧ 48 ≤ l.1 a ∧ l.1 a ≤ 57 := of_decide_eq_true h
  have hnc : ncI l a = nI (l.1 a) := if_pos h8.1
  refine gq_aload_n hX dX5_readsDigit_0 rfl rfl rfl ?_
  refine gq_callVe hX dX5_readsDigit_1 rfl vX5_241 (mp_isDig hb (N := N) (s := s) ht ha) rfl (mqR0 hb) rfl rfl (Nat.le_of_ble_eq_true rfl) ⟨(Nat.le_of_ble_eq_true rfl), (Nat.le_of_ble_eq_true rfl)⟩ (Nat.zero_add _) (Nat.zero_add _) ?_
  refine gq_if_neT (tgt := 9) hX dX5_readsDigit_4 rfl (by rw [if_pos h]; decide) ?_
  refine gq_aload_n hX dX5_readsDigit_9 rfl rfl rfl ?_
  refine gq_getf hX dX5_readsDigit_10 rfl fX5_39 (mqR0 hb) rfl ?_
  refine gq_iload_n hX dX5_readsDigit_13 rfl rfl rfl ?_
  refine gq_aload_n hX dX5_readsDigit_14 rfl rfl rfl ?_
  refine gq_callVe hX dX5_readsDigit_15 rfl vX5_238 (mp_next hb (T := rdT T N a s) (l := l) ht rfl ha) rfl (mqR0 hb) rfl rfl (Nat.le_of_ble_eq_true rfl) ⟨(Nat.le_of_ble_eq_true rfl), (Nat.le_of_ble_eq_true rfl)⟩ (Nat.zero_add _) (Nat.zero_add _) ?_
  rw [hnc]
  refine gq_bipush (v := nI 48) hX dX5_readsDigit_18 rfl (by decide) ?_
  refine gq_isub hX dX5_readsDigit_20 rfl ?_
  rw [pk_sub (by omega)]
  refine gq_iastN hX dX5_readsDigit_21 rfl (mqR8 hb) rfl (by omega) (Nat.le_of_ble_eq_true rfl) (hb.2 8 (by decide)) (mqW8 hb) ?_
  rw [rdT_nu, show (rdT T N a s).2 8 = N from rfl]
  refine gq_aload_n hX dX5_readsDigit_22 rfl rfl rfl ?_
  refine gq_dup hX dX5_readsDigit_23 rfl rfl ?_
  refine gq_getf hX dX5_readsDigit_24 rfl fX5_235 (mqR0 hb) rfl ?_
  refine gq_iconst (v := nI 1) hX dX5_readsDigit_27 rfl (by decide) ?_
  refine gq_iadd hX dX5_readsDigit_28 rfl ?_
  rw [show (rdT T (upd N k (nI (l.1 a - 48))) a s).1 6 = nI a from rfl, inM]
  refine gq_putf hX dX5_readsDigit_29 rfl fX5_235 rfl rfl rfl (mqR0 hb) (Nat.le_of_ble_eq_true rfl) (hb.2 0 (by decide)) (mqW0_13 hb) ?_
  rw [rdT_at]
  refine gq_iconst (v := nI 1) hX dX5_readsDigit_32 rfl (by decide) ?_
  exact gq_zret hX hQ dX5_readsDigit_33 rfl rfl ⟨rfl, rfl⟩

set_option maxRecDepth 100000 in
set_option maxHeartbeats 4000000 in
theorem mp_dig_n {E : Ev} {b : Nat → Nat} {T : St} {w : Nat → Int32} {N : Nat → Int32} {s : Int32} {M : Hp} (hb : Lay E 9 b) {l : Ln} (ht : TxP T l) {a : Nat} (ha : a < 1000) {k : Nat} (h : ¬ dgt l a = true) : Ct E mX5_readsDigit [.ref (b 0), .int (nI k)] (MdW E b (rdT T N a s) w M) (eqR (some (.int (nI 0))) (MdW E b (rdT T N a s) w M)) 0 0 := by
  refine Ct.of gmX5_readsDigit (ls := [.ref (b 0), .int (nI k)]) rfl rfl (Nat.le_of_ble_eq_true rfl) ?_
  intro X hX Q hQ
  refine gq_aload_n hX dX5_readsDigit_0 rfl rfl rfl ?_
  refine gq_callVe hX dX5_readsDigit_1 rfl vX5_241 (mp_isDig hb (N := N) (s := s) ht ha) rfl (mqR0 hb) rfl rfl (Nat.le_of_ble_eq_true rfl) ⟨(Nat.le_of_ble_eq_true rfl), (Nat.le_of_ble_eq_true rfl)⟩ (Nat.zero_add _) (Nat.zero_add _) ?_
  refine gq_if_neF (tgt := 9) hX dX5_readsDigit_4 rfl rfl (by rw [if_neg h]; decide) ?_
  refine gq_iconst (v := nI 0) hX dX5_readsDigit_7 rfl (by decide) ?_
  exact gq_zret hX hQ dX5_readsDigit_8 rfl rfl ⟨rfl, rfl⟩

set_option maxRecDepth 100000 in
set_option maxHeartbeats 4000000 in
theorem mp_num_n {E : Ev} {b : Nat → Nat} {T : St} {w : Nat → Int32} {N : Nat → Int32} {s : Int32} {M : Hp} (hb : Lay E 9 b) {l : Ln} (ht : TxP T l) {a : Nat} (ha : a < 1000) {k : Nat} (h : ¬ dgt l a = true) : Ct E mX5_readsNumber [.ref (b 0), .int (nI k)] (MdW E b (rdT T N a s) w M) (eqR (some (.int (nI 0))) (MdW E b (rdT T N a s) w M)) 0 0 := by
  refine Ct.of gmX5_readsNumber (ls := [.ref (b 0), .int (nI k), hole]) rfl rfl (Nat.le_of_ble_eq_true rfl) ?_
  intro X hX Q hQ
  refine gq_aload_n hX dX5_readsNumber_0 rfl rfl rfl ?_
  refine gq_iload_n hX dX5_readsNumber_1 rfl rfl rfl ?_
  refine gq_callVe hX dX5_readsNumber_2 rfl vX5_245 (mp_dig_n hb (N := N) (s := s) ht ha h) rfl (mqR0 hb) rfl rfl (Nat.le_of_ble_eq_true rfl) ⟨(Nat.le_of_ble_eq_true rfl), (Nat.le_of_ble_eq_true rfl)⟩ (Nat.zero_add _) (Nat.zero_add _) ?_
  refine gq_if_neF (tgt := 10) hX dX5_readsNumber_5 rfl rfl rfl ?_
  refine gq_iconst (v := nI 0) hX dX5_readsNumber_8 rfl (by decide) ?_
  exact gq_zret hX hQ dX5_readsNumber_9 rfl rfl ⟨rfl, rfl⟩

theorem valN_1 {l : Ln} {a : Nat} : valN l a 1 = l.1 a - 48 := by show 10 * 0 + (l.1 (a + 0) - 48) = _; rw [Nat.add_zero]; omega
theorem valN_s {l : Ln} {a d : Nat} : valN l a (d + 1) = 10 * valN l a d + (l.1 (a + d) - 48) := rfl
theorem nI_dig {v c : Nat} (h : 48 ≤ c) : nI 10 * nI v + nI c - nI 48 = nI (10 * v + (c - 48)) := by
  rw [nI_m, nI_add, pk_sub (by omega), show 10 * v + c - 48 = 10 * v + (c - 48) by omega]

set_option maxRecDepth 100000 in
set_option maxHeartbeats 4000000 in
theorem mp_num_y {E : Ev} {b : Nat → Nat} {T : St} {w : Nat → Int32} {N : Nat → Int32} {s : Int32} {M : Hp} (hb : Lay E 9 b) {l : Ln} (ht : TxP T l) {a : Nat} (ha : a < 1000) {k : Nat} (hk : k < 2) (h : dgt l a = true) : Ct E mX5_readsNumber [.ref (b 0), .int (nI k)] (MdW E b (rdT T N a s) w M) (eqR (some (.int (nI 1))) (MdW E b (rdT T (upd N k (nI (valN l a (dgm l a 3)))) (a + dgm l a 3) s) w M)) 0 0 := by
  refine Ct.of gmX5_readsNumber (ls := [.ref (b 0), .int (nI k), hole]) rfl rfl (Nat.le_of_ble_eq_true rfl) ?_
  intro X hX Q hQ
  have hl60 := ht.2.1
  have h8 : a < l.2 ∧ 48 ≤ l.1 a ∧ l.1 a ≤ 57 := of_decide_eq_true h
  have hd : dgm l a 3 = 1 + dgm l (a + 1) 2 := by rw [dgm, if_pos h]
  refine gq_aload_n hX dX5_readsNumber_0 rfl rfl rfl ?_
  refine gq_iload_n hX dX5_readsNumber_1 rfl rfl rfl ?_
  refine gq_callVe hX dX5_readsNumber_2 rfl vX5_245 (mp_dig_y hb (N := N) (s := s) ht ha hk h) rfl (mqR0 hb) rfl rfl (Nat.le_of_ble_eq_true rfl) ⟨(Nat.le_of_ble_eq_true rfl), (Nat.le_of_ble_eq_true rfl)⟩ (Nat.zero_add _) (Nat.zero_add _) ?_
  rw [← valN_1]
  refine gq_if_neT (tgt := 10) hX dX5_readsNumber_5 rfl (by decide) ?_
  refine gq_iconst (v := nI 0) hX dX5_readsNumber_10 rfl (by decide) ?_
  refine gq_istore_n hX dX5_readsNumber_11 rfl rfl (Nat.le_of_ble_eq_true rfl) rfl ?_
  have lp : ∀ r q : Nat, q + r = 2 → dgm l a 3 = q + 1 + dgm l (a + (q + 1)) r → Gq E X mX5_readsNumber Q 12 [.ref (b 0), .int (nI k), .int (nI q)] [] (MdW E b (rdT T (upd N k (nI (valN l a (q + 1)))) (a + (q + 1)) s) w M) 0 0 := by
    intro r
    induction r with
    | zero =>
      intro q hq hdq
      have eq : q = 2 := by omega
      subst eq
      refine gq_iload_n hX dX5_readsNumber_12 rfl rfl rfl ?_
      refine gq_iconst (v := nI 2) hX dX5_readsNumber_13 rfl (by decide) ?_
      refine gq_icmp_geT (tgt := 63) hX dX5_readsNumber_14 rfl (nI_le (Nat.le_refl _) (by decide)) ?_
      refine gq_iconst (v := nI 1) hX dX5_readsNumber_63 rfl (by decide) ?_
      exact gq_zret hX hQ dX5_readsNumber_64 rfl rfl ⟨rfl, by rw [hdq]; rfl⟩
    | succ r ih =>
      intro q hq hdq
      refine gq_iload_n hX dX5_readsNumber_12 rfl rfl rfl ?_
      refine gq_iconst (v := nI 2) hX dX5_readsNumber_13 rfl (by decide) ?_
      refine gq_icmp_geF (tgt := 63) hX dX5_readsNumber_14 rfl rfl (nI_ge (by omega) (by decide)) ?_
      refine gq_aload_n hX dX5_readsNumber_17 rfl rfl rfl ?_
      refine gq_callVe hX dX5_readsNumber_18 rfl vX5_241 (mp_isDig hb (N := upd N k (nI (valN l a (q + 1)))) (s := s) ht (a := a + (q + 1)) (by omega)) rfl (mqR0 hb) rfl rfl (Nat.le_of_ble_eq_true rfl) ⟨(Nat.le_of_ble_eq_true rfl), (Nat.le_of_ble_eq_true rfl)⟩ (Nat.zero_add _) (Nat.zero_add _) ?_
      by_cases hg : dgt l (a + (q + 1)) = true
      · have h9 : a + (q + 1) < l.2 ∧ 48 ≤ l.1 (a + (q + 1)) ∧ l.1 (a + (q + 1)) ≤ 57 := of_decide_eq_true hg
        have hnc : ncI l (a + (q + 1)) = nI (l.1 (a + (q + 1))) := if_pos h9.1
        refine gq_if_eqF (tgt := 63) hX dX5_readsNumber_21 rfl rfl (by rw [if_pos hg]; decide) ?_
        refine gq_aload_n hX dX5_readsNumber_24 rfl rfl rfl ?_
        refine gq_getf hX dX5_readsNumber_25 rfl fX5_39 (mqR0 hb) rfl ?_
        refine gq_iload_n hX dX5_readsNumber_28 rfl rfl rfl ?_
        refine gq_bipush (v := nI 10) hX dX5_readsNumber_29 rfl (by decide) ?_
        refine gq_aload_n hX dX5_readsNumber_31 rfl rfl rfl ?_
        refine gq_getf hX dX5_readsNumber_32 rfl fX5_39 (mqR0 hb) rfl ?_
        refine gq_iload_n hX dX5_readsNumber_35 rfl rfl rfl ?_
        refine gq_ialdN hX dX5_readsNumber_36 rfl (mqR8 hb) rfl (by omega) (Nat.le_of_ble_eq_true rfl) ?_
        rw [show (rdT T (upd N k (nI (valN l a (q + 1)))) (a + (q + 1)) s).2 8 k = nI (valN l a (q + 1)) from upd_s _ _ _]
        refine gq_imul hX dX5_readsNumber_37 rfl ?_
        refine gq_aload_n hX dX5_readsNumber_38 rfl rfl rfl ?_
        refine gq_callVe hX dX5_readsNumber_39 rfl vX5_238 (mp_next hb (T := rdT T (upd N k (nI (valN l a (q + 1)))) (a + (q + 1)) s) (l := l) ht rfl (by omega)) rfl (mqR0 hb) rfl rfl (Nat.le_of_ble_eq_true rfl) ⟨(Nat.le_of_ble_eq_true rfl), (Nat.le_of_ble_eq_true rfl)⟩ (Nat.zero_add _) (Nat.zero_add _) ?_
        rw [hnc]
        refine gq_iadd hX dX5_readsNumber_42 rfl ?_
        refine gq_bipush (v := nI 48) hX dX5_readsNumber_43 rfl (by decide) ?_
        refine gq_isub hX dX5_readsNumber_45 rfl ?_
        rw [nI_dig h9.2.1, ← valN_s]
        refine gq_iastN hX dX5_readsNumber_46 rfl (mqR8 hb) rfl (by omega) (Nat.le_of_ble_eq_true rfl) (hb.2 8 (by decide)) (mqW8 hb) ?_
        rw [rdT_nu, show (rdT T (upd N k (nI (valN l a (q + 1)))) (a + (q + 1)) s).2 8 = upd N k (nI (valN l a (q + 1))) from rfl, upd_2]
        refine gq_aload_n hX dX5_readsNumber_47 rfl rfl rfl ?_
        refine gq_dup hX dX5_readsNumber_48 rfl rfl ?_
        refine gq_getf hX dX5_readsNumber_49 rfl fX5_235 (mqR0 hb) rfl ?_
        refine gq_iconst (v := nI 1) hX dX5_readsNumber_52 rfl (by decide) ?_
        refine gq_iadd hX dX5_readsNumber_53 rfl ?_
        rw [show (rdT T (upd N k (nI (valN l a (q + 1 + 1)))) (a + (q + 1)) s).1 6 = nI (a + (q + 1)) from rfl, inM]
        refine gq_putf hX dX5_readsNumber_54 rfl fX5_235 rfl rfl rfl (mqR0 hb) (Nat.le_of_ble_eq_true rfl) (hb.2 0 (by decide)) (mqW0_13 hb) ?_
        rw [rdT_at]
        refine gq_iinc hX dX5_readsNumber_57 rfl rfl (inc1 _) (Nat.le_of_ble_eq_true rfl) rfl ?_
        refine gq_goto (tgt := 12) hX dX5_readsNumber_60 rfl ?_
        have hd2 : dgm l (a + (q + 1)) (r + 1) = 1 + dgm l (a + (q + 1) + 1) r := by rw [dgm, if_pos hg]
        exact ih (q + 1) (by omega) (by rw [hdq, hd2, show a + (q + 1 + 1) = a + (q + 1) + 1 by omega]; omega)
      · refine gq_if_eqT (tgt := 63) hX dX5_readsNumber_21 rfl (by rw [if_neg hg]; rfl) ?_
        refine gq_iconst (v := nI 1) hX dX5_readsNumber_63 rfl (by decide) ?_
        have hd2 : dgm l (a + (q + 1)) (r + 1) = 0 := by rw [dgm, if_neg hg]
        have hd3 : dgm l a 3 = q + 1 := by rw [hdq, hd2]
        exact gq_zret hX hQ dX5_readsNumber_64 rfl rfl ⟨rfl, by rw [hd3]⟩
  exact lp 2 0 rfl (by rw [hd])

theorem dgm1_y {l : Ln} {a : Nat} (h : dgt l a = true) : dgm l a 1 = 1 := by rw [dgm, if_pos h]; rfl
theorem dgm1_n {l : Ln} {a : Nat} (h : ¬ dgt l a = true) : dgm l a 1 = 0 := by rw [dgm, if_neg h]
theorem dgm3_y {l : Ln} {a : Nat} (h : dgt l a = true) : dgm l a 3 ≠ 0 := by rw [dgm, if_pos h]; omega
theorem dgm3_n {l : Ln} {a : Nat} (h : ¬ dgt l a = true) : dgm l a 3 = 0 := by rw [dgm, if_neg h]

set_option maxRecDepth 100000 in
set_option maxHeartbeats 4000000 in
theorem mp_rdC {E : Ev} {b : Nat → Nat} {T : St} {w : Nat → Int32} {N : Nat → Int32} {s : Int32} {M : Hp} (hb : Lay E 9 b) {l : Ln} (ht : TxP T l) {a : Nat} (ha : a < 1000) (ha9 : a < 100)  : Ct E mX5_readsCommittee [.ref (b 0)] (MdW E b (rdT T N a s) w M) (RdR E b T w M (mG l (frmN 0) 10 1 a) s) 0 0 := by
  refine Ct.of gmX5_readsCommittee (ls := [.ref (b 0)]) rfl rfl (Nat.le_of_ble_eq_true rfl) ?_
  intro X hX Q hQ
  have hl60 := ht.2.1
  refine gq_aload_n hX dX5_readsCommittee_0 rfl rfl rfl ?_
  refine gq_bipush (v := nI 111) hX dX5_readsCommittee_1 rfl (by decide) ?_
  rcases Bool.eq_false_or_eq_true (nx l (a) 111) with h1 | h1
  · refine gq_callVe hX dX5_readsCommittee_3 rfl vX5_248 (mp_reads_y hb (T := T) (N := N) (s := s) (a := a) ht (by omega) h1) rfl (mqR0 hb) rfl rfl (Nat.le_of_ble_eq_true rfl) ⟨(Nat.le_of_ble_eq_true rfl), (Nat.le_of_ble_eq_true rfl)⟩ (Nat.zero_add _) (Nat.zero_add _) ?_
    refine gq_if_eqF (tgt := 54) hX dX5_readsCommittee_6 rfl rfl (by decide) ?_
    refine gq_aload_n hX dX5_readsCommittee_9 rfl rfl rfl ?_
    refine gq_bipush (v := nI 109) hX dX5_readsCommittee_10 rfl (by decide) ?_
    rcases Bool.eq_false_or_eq_true (nx l (a + 1) 109) with h2 | h2
    · refine gq_callVe hX dX5_readsCommittee_12 rfl vX5_248 (mp_reads_y hb (T := T) (N := N) (s := s) (a := a + 1) ht (by omega) h2) rfl (mqR0 hb) rfl rfl (Nat.le_of_ble_eq_true rfl) ⟨(Nat.le_of_ble_eq_true rfl), (Nat.le_of_ble_eq_true rfl)⟩ (Nat.zero_add _) (Nat.zero_add _) ?_
      refine gq_if_eqF (tgt := 54) hX dX5_readsCommittee_15 rfl rfl (by decide) ?_
      refine gq_aload_n hX dX5_readsCommittee_18 rfl rfl rfl ?_
      refine gq_bipush (v := nI 109) hX dX5_readsCommittee_19 rfl (by decide) ?_
      rcases Bool.eq_false_or_eq_true (nx l (a + 1 + 1) 109) with h3 | h3
      · refine gq_callVe hX dX5_readsCommittee_21 rfl vX5_248 (mp_reads_y hb (T := T) (N := N) (s := s) (a := a + 1 + 1) ht (by omega) h3) rfl (mqR0 hb) rfl rfl (Nat.le_of_ble_eq_true rfl) ⟨(Nat.le_of_ble_eq_true rfl), (Nat.le_of_ble_eq_true rfl)⟩ (Nat.zero_add _) (Nat.zero_add _) ?_
        refine gq_if_eqF (tgt := 54) hX dX5_readsCommittee_24 rfl rfl (by decide) ?_
        refine gq_aload_n hX dX5_readsCommittee_27 rfl rfl rfl ?_
        refine gq_bipush (v := nI 105) hX dX5_readsCommittee_28 rfl (by decide) ?_
        rcases Bool.eq_false_or_eq_true (nx l (a + 1 + 1 + 1) 105) with h4 | h4
        · refine gq_callVe hX dX5_readsCommittee_30 rfl vX5_248 (mp_reads_y hb (T := T) (N := N) (s := s) (a := a + 1 + 1 + 1) ht (by omega) h4) rfl (mqR0 hb) rfl rfl (Nat.le_of_ble_eq_true rfl) ⟨(Nat.le_of_ble_eq_true rfl), (Nat.le_of_ble_eq_true rfl)⟩ (Nat.zero_add _) (Nat.zero_add _) ?_
          refine gq_if_eqF (tgt := 54) hX dX5_readsCommittee_33 rfl rfl (by decide) ?_
          refine gq_aload_n hX dX5_readsCommittee_36 rfl rfl rfl ?_
          refine gq_bipush (v := nI 116) hX dX5_readsCommittee_37 rfl (by decide) ?_
          rcases Bool.eq_false_or_eq_true (nx l (a + 1 + 1 + 1 + 1) 116) with h5 | h5
          · refine gq_callVe hX dX5_readsCommittee_39 rfl vX5_248 (mp_reads_y hb (T := T) (N := N) (s := s) (a := a + 1 + 1 + 1 + 1) ht (by omega) h5) rfl (mqR0 hb) rfl rfl (Nat.le_of_ble_eq_true rfl) ⟨(Nat.le_of_ble_eq_true rfl), (Nat.le_of_ble_eq_true rfl)⟩ (Nat.zero_add _) (Nat.zero_add _) ?_
            refine gq_if_eqF (tgt := 54) hX dX5_readsCommittee_42 rfl rfl (by decide) ?_
            refine gq_aload_n hX dX5_readsCommittee_45 rfl rfl rfl ?_
            refine gq_bipush (v := nI 116) hX dX5_readsCommittee_46 rfl (by decide) ?_
            rcases Bool.eq_false_or_eq_true (nx l (a + 1 + 1 + 1 + 1 + 1) 116) with h6 | h6
            · refine gq_callVe hX dX5_readsCommittee_48 rfl vX5_248 (mp_reads_y hb (T := T) (N := N) (s := s) (a := a + 1 + 1 + 1 + 1 + 1) ht (by omega) h6) rfl (mqR0 hb) rfl rfl (Nat.le_of_ble_eq_true rfl) ⟨(Nat.le_of_ble_eq_true rfl), (Nat.le_of_ble_eq_true rfl)⟩ (Nat.zero_add _) (Nat.zero_add _) ?_
              refine gq_if_neT (tgt := 56) hX dX5_readsCommittee_51 rfl (by decide) ?_
              refine gq_aload_n hX dX5_readsCommittee_56 rfl rfl rfl ?_
              refine gq_bipush (v := nI 101) hX dX5_readsCommittee_57 rfl (by decide) ?_
              rcases Bool.eq_false_or_eq_true (nx l (a + 1 + 1 + 1 + 1 + 1 + 1) 101) with h7 | h7
              · refine gq_callVe hX dX5_readsCommittee_59 rfl vX5_248 (mp_reads_y hb (T := T) (N := N) (s := s) (a := a + 1 + 1 + 1 + 1 + 1 + 1) ht (by omega) h7) rfl (mqR0 hb) rfl rfl (Nat.le_of_ble_eq_true rfl) ⟨(Nat.le_of_ble_eq_true rfl), (Nat.le_of_ble_eq_true rfl)⟩ (Nat.zero_add _) (Nat.zero_add _) ?_
                refine gq_if_eqF (tgt := 95) hX dX5_readsCommittee_62 rfl rfl (by decide) ?_
                refine gq_aload_n hX dX5_readsCommittee_65 rfl rfl rfl ?_
                refine gq_bipush (v := nI 101) hX dX5_readsCommittee_66 rfl (by decide) ?_
                rcases Bool.eq_false_or_eq_true (nx l (a + 1 + 1 + 1 + 1 + 1 + 1 + 1) 101) with h8 | h8
                · refine gq_callVe hX dX5_readsCommittee_68 rfl vX5_248 (mp_reads_y hb (T := T) (N := N) (s := s) (a := a + 1 + 1 + 1 + 1 + 1 + 1 + 1) ht (by omega) h8) rfl (mqR0 hb) rfl rfl (Nat.le_of_ble_eq_true rfl) ⟨(Nat.le_of_ble_eq_true rfl), (Nat.le_of_ble_eq_true rfl)⟩ (Nat.zero_add _) (Nat.zero_add _) ?_
                  refine gq_if_eqF (tgt := 95) hX dX5_readsCommittee_71 rfl rfl (by decide) ?_
                  refine gq_aload_n hX dX5_readsCommittee_74 rfl rfl rfl ?_
                  refine gq_bipush (v := nI 32) hX dX5_readsCommittee_75 rfl (by decide) ?_
                  rcases Bool.eq_false_or_eq_true (nx l (a + 1 + 1 + 1 + 1 + 1 + 1 + 1 + 1) 32) with h9 | h9
                  · refine gq_callVe hX dX5_readsCommittee_77 rfl vX5_248 (mp_reads_y hb (T := T) (N := N) (s := s) (a := a + 1 + 1 + 1 + 1 + 1 + 1 + 1 + 1) ht (by omega) h9) rfl (mqR0 hb) rfl rfl (Nat.le_of_ble_eq_true rfl) ⟨(Nat.le_of_ble_eq_true rfl), (Nat.le_of_ble_eq_true rfl)⟩ (Nat.zero_add _) (Nat.zero_add _) ?_
                    refine gq_if_eqF (tgt := 95) hX dX5_readsCommittee_80 rfl rfl (by decide) ?_
                    refine gq_aload_n hX dX5_readsCommittee_83 rfl rfl rfl ?_
                    refine gq_iconst (v := nI 0) hX dX5_readsCommittee_84 rfl (by decide) ?_
                    by_cases h10 : dgt l (a + 1 + 1 + 1 + 1 + 1 + 1 + 1 + 1 + 1) = true
                    · refine gq_callVe hX dX5_readsCommittee_85 rfl vX5_245 (mp_dig_y hb (T := T) (N := N) (s := s) (a := a + 1 + 1 + 1 + 1 + 1 + 1 + 1 + 1 + 1) ht (by omega) (by decide) h10) rfl (mqR0 hb) rfl rfl (Nat.le_of_ble_eq_true rfl) ⟨(Nat.le_of_ble_eq_true rfl), (Nat.le_of_ble_eq_true rfl)⟩ (Nat.zero_add _) (Nat.zero_add _) ?_
                      refine gq_if_eqF (tgt := 95) hX dX5_readsCommittee_88 rfl rfl (by decide) ?_
                      refine gq_iconst (v := nI 1) hX dX5_readsCommittee_91 rfl (by decide) ?_
                      refine gq_goto (tgt := 96) hX dX5_readsCommittee_92 rfl ?_
                      have hr : mG l (frmN 0) 10 1 a = (true, a + 1 + 1 + 1 + 1 + 1 + 1 + 1 + 1 + 1 + 1, [l.1 (a + 1 + 1 + 1 + 1 + 1 + 1 + 1 + 1 + 1) - 48]) := (mG_y rfl (by decide) (by decide) h1).trans ((mG_y rfl (by decide) (by decide) h2).trans ((mG_y rfl (by decide) (by decide) h3).trans ((mG_y rfl (by decide) (by decide) h4).trans ((mG_y rfl (by decide) (by decide) h5).trans ((mG_y rfl (by decide) (by decide) h6).trans ((mG_y rfl (by decide) (by decide) h7).trans ((mG_y rfl (by decide) (by decide) h8).trans ((mG_y rfl (by decide) (by decide) h9).trans (mG_dy rfl (dgm1_y h10) (rfl))))))))))
                      refine gq_zret hX hQ dX5_readsCommittee_96 rfl rfl ?_
                      unfold RdR
                      rw [hr]
                      exact ⟨rfl, (upd N 0 (nI (l.1 (a + 1 + 1 + 1 + 1 + 1 + 1 + 1 + 1 + 1) - 48))), s, rfl, fun _ => ⟨rfl, fun q hq => match q, hq with | 0, _ => upd_s _ _ _ | _ + 1, h => absurd h (by simp)⟩⟩
                    · refine gq_callVe hX dX5_readsCommittee_85 rfl vX5_245 (mp_dig_n hb (T := T) (N := N) (s := s) (a := a + 1 + 1 + 1 + 1 + 1 + 1 + 1 + 1 + 1) ht (by omega) h10) rfl (mqR0 hb) rfl rfl (Nat.le_of_ble_eq_true rfl) ⟨(Nat.le_of_ble_eq_true rfl), (Nat.le_of_ble_eq_true rfl)⟩ (Nat.zero_add _) (Nat.zero_add _) ?_
                      refine gq_if_eqT (tgt := 95) hX dX5_readsCommittee_88 rfl rfl ?_
                      refine gq_iconst (v := nI 0) hX dX5_readsCommittee_95 rfl (by decide) ?_
                      have hr : (mG l (frmN 0) 10 1 a).1 = false ∧ (mG l (frmN 0) 10 1 a).2.1 = a + 1 + 1 + 1 + 1 + 1 + 1 + 1 + 1 + 1 := by rw [(mG_y rfl (by decide) (by decide) h1).trans ((mG_y rfl (by decide) (by decide) h2).trans ((mG_y rfl (by decide) (by decide) h3).trans ((mG_y rfl (by decide) (by decide) h4).trans ((mG_y rfl (by decide) (by decide) h5).trans ((mG_y rfl (by decide) (by decide) h6).trans ((mG_y rfl (by decide) (by decide) h7).trans ((mG_y rfl (by decide) (by decide) h8).trans ((mG_y rfl (by decide) (by decide) h9).trans (mG_dn rfl (dgm1_n h10))))))))))]; exact ⟨rfl, rfl⟩
                      refine gq_zret hX hQ dX5_readsCommittee_96 rfl rfl ?_
                      unfold RdR
                      rw [hr.1, hr.2]
                      exact ⟨rfl, N, s, rfl, fun h => by cases h⟩
                  · refine gq_callVe hX dX5_readsCommittee_77 rfl vX5_248 (mp_reads_n hb (T := T) (N := N) (s := s) (a := a + 1 + 1 + 1 + 1 + 1 + 1 + 1 + 1) ht (by omega) (by decide) h9) rfl (mqR0 hb) rfl rfl (Nat.le_of_ble_eq_true rfl) ⟨(Nat.le_of_ble_eq_true rfl), (Nat.le_of_ble_eq_true rfl)⟩ (Nat.zero_add _) (Nat.zero_add _) ?_
                    refine gq_if_eqT (tgt := 95) hX dX5_readsCommittee_80 rfl rfl ?_
                    refine gq_iconst (v := nI 0) hX dX5_readsCommittee_95 rfl (by decide) ?_
                    have hr : (mG l (frmN 0) 10 1 a).1 = false ∧ (mG l (frmN 0) 10 1 a).2.1 = a + 1 + 1 + 1 + 1 + 1 + 1 + 1 + 1 := by rw [(mG_y rfl (by decide) (by decide) h1).trans ((mG_y rfl (by decide) (by decide) h2).trans ((mG_y rfl (by decide) (by decide) h3).trans ((mG_y rfl (by decide) (by decide) h4).trans ((mG_y rfl (by decide) (by decide) h5).trans ((mG_y rfl (by decide) (by decide) h6).trans ((mG_y rfl (by decide) (by decide) h7).trans ((mG_y rfl (by decide) (by decide) h8).trans (mG_n rfl (by decide) (by decide) h9))))))))]; exact ⟨rfl, rfl⟩
                    refine gq_zret hX hQ dX5_readsCommittee_96 rfl rfl ?_
                    unfold RdR
                    rw [hr.1, hr.2]
                    exact ⟨rfl, N, s, rfl, fun h => by cases h⟩
                · refine gq_callVe hX dX5_readsCommittee_68 rfl vX5_248 (mp_reads_n hb (T := T) (N := N) (s := s) (a := a + 1 + 1 + 1 + 1 + 1 + 1 + 1) ht (by omega) (by decide) h8) rfl (mqR0 hb) rfl rfl (Nat.le_of_ble_eq_true rfl) ⟨(Nat.le_of_ble_eq_true rfl), (Nat.le_of_ble_eq_true rfl)⟩ (Nat.zero_add _) (Nat.zero_add _) ?_
                  refine gq_if_eqT (tgt := 95) hX dX5_readsCommittee_71 rfl rfl ?_
                  refine gq_iconst (v := nI 0) hX dX5_readsCommittee_95 rfl (by decide) ?_
                  have hr : (mG l (frmN 0) 10 1 a).1 = false ∧ (mG l (frmN 0) 10 1 a).2.1 = a + 1 + 1 + 1 + 1 + 1 + 1 + 1 := by rw [(mG_y rfl (by decide) (by decide) h1).trans ((mG_y rfl (by decide) (by decide) h2).trans ((mG_y rfl (by decide) (by decide) h3).trans ((mG_y rfl (by decide) (by decide) h4).trans ((mG_y rfl (by decide) (by decide) h5).trans ((mG_y rfl (by decide) (by decide) h6).trans ((mG_y rfl (by decide) (by decide) h7).trans (mG_n rfl (by decide) (by decide) h8)))))))]; exact ⟨rfl, rfl⟩
                  refine gq_zret hX hQ dX5_readsCommittee_96 rfl rfl ?_
                  unfold RdR
                  rw [hr.1, hr.2]
                  exact ⟨rfl, N, s, rfl, fun h => by cases h⟩
              · refine gq_callVe hX dX5_readsCommittee_59 rfl vX5_248 (mp_reads_n hb (T := T) (N := N) (s := s) (a := a + 1 + 1 + 1 + 1 + 1 + 1) ht (by omega) (by decide) h7) rfl (mqR0 hb) rfl rfl (Nat.le_of_ble_eq_true rfl) ⟨(Nat.le_of_ble_eq_true rfl), (Nat.le_of_ble_eq_true rfl)⟩ (Nat.zero_add _) (Nat.zero_add _) ?_
                refine gq_if_eqT (tgt := 95) hX dX5_readsCommittee_62 rfl rfl ?_
                refine gq_iconst (v := nI 0) hX dX5_readsCommittee_95 rfl (by decide) ?_
                have hr : (mG l (frmN 0) 10 1 a).1 = false ∧ (mG l (frmN 0) 10 1 a).2.1 = a + 1 + 1 + 1 + 1 + 1 + 1 := by rw [(mG_y rfl (by decide) (by decide) h1).trans ((mG_y rfl (by decide) (by decide) h2).trans ((mG_y rfl (by decide) (by decide) h3).trans ((mG_y rfl (by decide) (by decide) h4).trans ((mG_y rfl (by decide) (by decide) h5).trans ((mG_y rfl (by decide) (by decide) h6).trans (mG_n rfl (by decide) (by decide) h7))))))]; exact ⟨rfl, rfl⟩
                refine gq_zret hX hQ dX5_readsCommittee_96 rfl rfl ?_
                unfold RdR
                rw [hr.1, hr.2]
                exact ⟨rfl, N, s, rfl, fun h => by cases h⟩
            · refine gq_callVe hX dX5_readsCommittee_48 rfl vX5_248 (mp_reads_n hb (T := T) (N := N) (s := s) (a := a + 1 + 1 + 1 + 1 + 1) ht (by omega) (by decide) h6) rfl (mqR0 hb) rfl rfl (Nat.le_of_ble_eq_true rfl) ⟨(Nat.le_of_ble_eq_true rfl), (Nat.le_of_ble_eq_true rfl)⟩ (Nat.zero_add _) (Nat.zero_add _) ?_
              refine gq_if_neF (tgt := 56) hX dX5_readsCommittee_51 rfl rfl rfl ?_
              refine gq_iconst (v := nI 0) hX dX5_readsCommittee_54 rfl (by decide) ?_
              have hr : (mG l (frmN 0) 10 1 a).1 = false ∧ (mG l (frmN 0) 10 1 a).2.1 = a + 1 + 1 + 1 + 1 + 1 := by rw [(mG_y rfl (by decide) (by decide) h1).trans ((mG_y rfl (by decide) (by decide) h2).trans ((mG_y rfl (by decide) (by decide) h3).trans ((mG_y rfl (by decide) (by decide) h4).trans ((mG_y rfl (by decide) (by decide) h5).trans (mG_n rfl (by decide) (by decide) h6)))))]; exact ⟨rfl, rfl⟩
              refine gq_zret hX hQ dX5_readsCommittee_55 rfl rfl ?_
              unfold RdR
              rw [hr.1, hr.2]
              exact ⟨rfl, N, s, rfl, fun h => by cases h⟩
          · refine gq_callVe hX dX5_readsCommittee_39 rfl vX5_248 (mp_reads_n hb (T := T) (N := N) (s := s) (a := a + 1 + 1 + 1 + 1) ht (by omega) (by decide) h5) rfl (mqR0 hb) rfl rfl (Nat.le_of_ble_eq_true rfl) ⟨(Nat.le_of_ble_eq_true rfl), (Nat.le_of_ble_eq_true rfl)⟩ (Nat.zero_add _) (Nat.zero_add _) ?_
            refine gq_if_eqT (tgt := 54) hX dX5_readsCommittee_42 rfl rfl ?_
            refine gq_iconst (v := nI 0) hX dX5_readsCommittee_54 rfl (by decide) ?_
            have hr : (mG l (frmN 0) 10 1 a).1 = false ∧ (mG l (frmN 0) 10 1 a).2.1 = a + 1 + 1 + 1 + 1 := by rw [(mG_y rfl (by decide) (by decide) h1).trans ((mG_y rfl (by decide) (by decide) h2).trans ((mG_y rfl (by decide) (by decide) h3).trans ((mG_y rfl (by decide) (by decide) h4).trans (mG_n rfl (by decide) (by decide) h5))))]; exact ⟨rfl, rfl⟩
            refine gq_zret hX hQ dX5_readsCommittee_55 rfl rfl ?_
            unfold RdR
            rw [hr.1, hr.2]
            exact ⟨rfl, N, s, rfl, fun h => by cases h⟩
        · refine gq_callVe hX dX5_readsCommittee_30 rfl vX5_248 (mp_reads_n hb (T := T) (N := N) (s := s) (a := a + 1 + 1 + 1) ht (by omega) (by decide) h4) rfl (mqR0 hb) rfl rfl (Nat.le_of_ble_eq_true rfl) ⟨(Nat.le_of_ble_eq_true rfl), (Nat.le_of_ble_eq_true rfl)⟩ (Nat.zero_add _) (Nat.zero_add _) ?_
          refine gq_if_eqT (tgt := 54) hX dX5_readsCommittee_33 rfl rfl ?_
          refine gq_iconst (v := nI 0) hX dX5_readsCommittee_54 rfl (by decide) ?_
          have hr : (mG l (frmN 0) 10 1 a).1 = false ∧ (mG l (frmN 0) 10 1 a).2.1 = a + 1 + 1 + 1 := by rw [(mG_y rfl (by decide) (by decide) h1).trans ((mG_y rfl (by decide) (by decide) h2).trans ((mG_y rfl (by decide) (by decide) h3).trans (mG_n rfl (by decide) (by decide) h4)))]; exact ⟨rfl, rfl⟩
          refine gq_zret hX hQ dX5_readsCommittee_55 rfl rfl ?_
          unfold RdR
          rw [hr.1, hr.2]
          exact ⟨rfl, N, s, rfl, fun h => by cases h⟩
      · refine gq_callVe hX dX5_readsCommittee_21 rfl vX5_248 (mp_reads_n hb (T := T) (N := N) (s := s) (a := a + 1 + 1) ht (by omega) (by decide) h3) rfl (mqR0 hb) rfl rfl (Nat.le_of_ble_eq_true rfl) ⟨(Nat.le_of_ble_eq_true rfl), (Nat.le_of_ble_eq_true rfl)⟩ (Nat.zero_add _) (Nat.zero_add _) ?_
        refine gq_if_eqT (tgt := 54) hX dX5_readsCommittee_24 rfl rfl ?_
        refine gq_iconst (v := nI 0) hX dX5_readsCommittee_54 rfl (by decide) ?_
        have hr : (mG l (frmN 0) 10 1 a).1 = false ∧ (mG l (frmN 0) 10 1 a).2.1 = a + 1 + 1 := by rw [(mG_y rfl (by decide) (by decide) h1).trans ((mG_y rfl (by decide) (by decide) h2).trans (mG_n rfl (by decide) (by decide) h3))]; exact ⟨rfl, rfl⟩
        refine gq_zret hX hQ dX5_readsCommittee_55 rfl rfl ?_
        unfold RdR
        rw [hr.1, hr.2]
        exact ⟨rfl, N, s, rfl, fun h => by cases h⟩
    · refine gq_callVe hX dX5_readsCommittee_12 rfl vX5_248 (mp_reads_n hb (T := T) (N := N) (s := s) (a := a + 1) ht (by omega) (by decide) h2) rfl (mqR0 hb) rfl rfl (Nat.le_of_ble_eq_true rfl) ⟨(Nat.le_of_ble_eq_true rfl), (Nat.le_of_ble_eq_true rfl)⟩ (Nat.zero_add _) (Nat.zero_add _) ?_
      refine gq_if_eqT (tgt := 54) hX dX5_readsCommittee_15 rfl rfl ?_
      refine gq_iconst (v := nI 0) hX dX5_readsCommittee_54 rfl (by decide) ?_
      have hr : (mG l (frmN 0) 10 1 a).1 = false ∧ (mG l (frmN 0) 10 1 a).2.1 = a + 1 := by rw [(mG_y rfl (by decide) (by decide) h1).trans (mG_n rfl (by decide) (by decide) h2)]; exact ⟨rfl, rfl⟩
      refine gq_zret hX hQ dX5_readsCommittee_55 rfl rfl ?_
      unfold RdR
      rw [hr.1, hr.2]
      exact ⟨rfl, N, s, rfl, fun h => by cases h⟩
  · refine gq_callVe hX dX5_readsCommittee_3 rfl vX5_248 (mp_reads_n hb (T := T) (N := N) (s := s) (a := a) ht (by omega) (by decide) h1) rfl (mqR0 hb) rfl rfl (Nat.le_of_ble_eq_true rfl) ⟨(Nat.le_of_ble_eq_true rfl), (Nat.le_of_ble_eq_true rfl)⟩ (Nat.zero_add _) (Nat.zero_add _) ?_
    refine gq_if_eqT (tgt := 54) hX dX5_readsCommittee_6 rfl rfl ?_
    refine gq_iconst (v := nI 0) hX dX5_readsCommittee_54 rfl (by decide) ?_
    have hr : (mG l (frmN 0) 10 1 a).1 = false ∧ (mG l (frmN 0) 10 1 a).2.1 = a := by rw [mG_n rfl (by decide) (by decide) h1]; exact ⟨rfl, rfl⟩
    refine gq_zret hX hQ dX5_readsCommittee_55 rfl rfl ?_
    unfold RdR
    rw [hr.1, hr.2]
    exact ⟨rfl, N, s, rfl, fun h => by cases h⟩

set_option maxRecDepth 100000 in
set_option maxHeartbeats 4000000 in
theorem mp_rdL {E : Ev} {b : Nat → Nat} {T : St} {w : Nat → Int32} {N : Nat → Int32} {s : Int32} {M : Hp} (hb : Lay E 9 b) {l : Ln} (ht : TxP T l) {a : Nat} (ha : a < 1000) (ha9 : a < 100)  : Ct E mX5_readsLaunch [.ref (b 0)] (MdW E b (rdT T N a s) w M) (RdR E b T w M (mG l (frmN 3) 7 1 a) s) 0 0 := by
  refine Ct.of gmX5_readsLaunch (ls := [.ref (b 0)]) rfl rfl (Nat.le_of_ble_eq_true rfl) ?_
  intro X hX Q hQ
  have hl60 := ht.2.1
  refine gq_aload_n hX dX5_readsLaunch_0 rfl rfl rfl ?_
  refine gq_bipush (v := nI 97) hX dX5_readsLaunch_1 rfl (by decide) ?_
  rcases Bool.eq_false_or_eq_true (nx l (a) 97) with h11 | h11
  · refine gq_callVe hX dX5_readsLaunch_3 rfl vX5_248 (mp_reads_y hb (T := T) (N := N) (s := s) (a := a) ht (by omega) h11) rfl (mqR0 hb) rfl rfl (Nat.le_of_ble_eq_true rfl) ⟨(Nat.le_of_ble_eq_true rfl), (Nat.le_of_ble_eq_true rfl)⟩ (Nat.zero_add _) (Nat.zero_add _) ?_
    refine gq_if_eqF (tgt := 66) hX dX5_readsLaunch_6 rfl rfl (by decide) ?_
    refine gq_aload_n hX dX5_readsLaunch_9 rfl rfl rfl ?_
    refine gq_bipush (v := nI 117) hX dX5_readsLaunch_10 rfl (by decide) ?_
    rcases Bool.eq_false_or_eq_true (nx l (a + 1) 117) with h12 | h12
    · refine gq_callVe hX dX5_readsLaunch_12 rfl vX5_248 (mp_reads_y hb (T := T) (N := N) (s := s) (a := a + 1) ht (by omega) h12) rfl (mqR0 hb) rfl rfl (Nat.le_of_ble_eq_true rfl) ⟨(Nat.le_of_ble_eq_true rfl), (Nat.le_of_ble_eq_true rfl)⟩ (Nat.zero_add _) (Nat.zero_add _) ?_
      refine gq_if_eqF (tgt := 66) hX dX5_readsLaunch_15 rfl rfl (by decide) ?_
      refine gq_aload_n hX dX5_readsLaunch_18 rfl rfl rfl ?_
      refine gq_bipush (v := nI 110) hX dX5_readsLaunch_19 rfl (by decide) ?_
      rcases Bool.eq_false_or_eq_true (nx l (a + 1 + 1) 110) with h13 | h13
      · refine gq_callVe hX dX5_readsLaunch_21 rfl vX5_248 (mp_reads_y hb (T := T) (N := N) (s := s) (a := a + 1 + 1) ht (by omega) h13) rfl (mqR0 hb) rfl rfl (Nat.le_of_ble_eq_true rfl) ⟨(Nat.le_of_ble_eq_true rfl), (Nat.le_of_ble_eq_true rfl)⟩ (Nat.zero_add _) (Nat.zero_add _) ?_
        refine gq_if_eqF (tgt := 66) hX dX5_readsLaunch_24 rfl rfl (by decide) ?_
        refine gq_aload_n hX dX5_readsLaunch_27 rfl rfl rfl ?_
        refine gq_bipush (v := nI 99) hX dX5_readsLaunch_28 rfl (by decide) ?_
        rcases Bool.eq_false_or_eq_true (nx l (a + 1 + 1 + 1) 99) with h14 | h14
        · refine gq_callVe hX dX5_readsLaunch_30 rfl vX5_248 (mp_reads_y hb (T := T) (N := N) (s := s) (a := a + 1 + 1 + 1) ht (by omega) h14) rfl (mqR0 hb) rfl rfl (Nat.le_of_ble_eq_true rfl) ⟨(Nat.le_of_ble_eq_true rfl), (Nat.le_of_ble_eq_true rfl)⟩ (Nat.zero_add _) (Nat.zero_add _) ?_
          refine gq_if_eqF (tgt := 66) hX dX5_readsLaunch_33 rfl rfl (by decide) ?_
          refine gq_aload_n hX dX5_readsLaunch_36 rfl rfl rfl ?_
          refine gq_bipush (v := nI 104) hX dX5_readsLaunch_37 rfl (by decide) ?_
          rcases Bool.eq_false_or_eq_true (nx l (a + 1 + 1 + 1 + 1) 104) with h15 | h15
          · refine gq_callVe hX dX5_readsLaunch_39 rfl vX5_248 (mp_reads_y hb (T := T) (N := N) (s := s) (a := a + 1 + 1 + 1 + 1) ht (by omega) h15) rfl (mqR0 hb) rfl rfl (Nat.le_of_ble_eq_true rfl) ⟨(Nat.le_of_ble_eq_true rfl), (Nat.le_of_ble_eq_true rfl)⟩ (Nat.zero_add _) (Nat.zero_add _) ?_
            refine gq_if_eqF (tgt := 66) hX dX5_readsLaunch_42 rfl rfl (by decide) ?_
            refine gq_aload_n hX dX5_readsLaunch_45 rfl rfl rfl ?_
            refine gq_bipush (v := nI 32) hX dX5_readsLaunch_46 rfl (by decide) ?_
            rcases Bool.eq_false_or_eq_true (nx l (a + 1 + 1 + 1 + 1 + 1) 32) with h16 | h16
            · refine gq_callVe hX dX5_readsLaunch_48 rfl vX5_248 (mp_reads_y hb (T := T) (N := N) (s := s) (a := a + 1 + 1 + 1 + 1 + 1) ht (by omega) h16) rfl (mqR0 hb) rfl rfl (Nat.le_of_ble_eq_true rfl) ⟨(Nat.le_of_ble_eq_true rfl), (Nat.le_of_ble_eq_true rfl)⟩ (Nat.zero_add _) (Nat.zero_add _) ?_
              refine gq_if_eqF (tgt := 66) hX dX5_readsLaunch_51 rfl rfl (by decide) ?_
              refine gq_aload_n hX dX5_readsLaunch_54 rfl rfl rfl ?_
              refine gq_iconst (v := nI 0) hX dX5_readsLaunch_55 rfl (by decide) ?_
              by_cases h17 : dgt l (a + 1 + 1 + 1 + 1 + 1 + 1) = true
              · refine gq_callVe hX dX5_readsLaunch_56 rfl vX5_245 (mp_dig_y hb (T := T) (N := N) (s := s) (a := a + 1 + 1 + 1 + 1 + 1 + 1) ht (by omega) (by decide) h17) rfl (mqR0 hb) rfl rfl (Nat.le_of_ble_eq_true rfl) ⟨(Nat.le_of_ble_eq_true rfl), (Nat.le_of_ble_eq_true rfl)⟩ (Nat.zero_add _) (Nat.zero_add _) ?_
                refine gq_if_eqF (tgt := 66) hX dX5_readsLaunch_59 rfl rfl (by decide) ?_
                refine gq_iconst (v := nI 1) hX dX5_readsLaunch_62 rfl (by decide) ?_
                refine gq_goto (tgt := 67) hX dX5_readsLaunch_63 rfl ?_
                have hr : mG l (frmN 3) 7 1 a = (true, a + 1 + 1 + 1 + 1 + 1 + 1 + 1, [l.1 (a + 1 + 1 + 1 + 1 + 1 + 1) - 48]) := (mG_y rfl (by decide) (by decide) h11).trans ((mG_y rfl (by decide) (by decide) h12).trans ((mG_y rfl (by decide) (by decide) h13).trans ((mG_y rfl (by decide) (by decide) h14).trans ((mG_y rfl (by decide) (by decide) h15).trans ((mG_y rfl (by decide) (by decide) h16).trans (mG_dy rfl (dgm1_y h17) (rfl)))))))
                refine gq_zret hX hQ dX5_readsLaunch_67 rfl rfl ?_
                unfold RdR
                rw [hr]
                exact ⟨rfl, (upd N 0 (nI (l.1 (a + 1 + 1 + 1 + 1 + 1 + 1) - 48))), s, rfl, fun _ => ⟨rfl, fun q hq => match q, hq with | 0, _ => upd_s _ _ _ | _ + 1, h => absurd h (by simp)⟩⟩
              · refine gq_callVe hX dX5_readsLaunch_56 rfl vX5_245 (mp_dig_n hb (T := T) (N := N) (s := s) (a := a + 1 + 1 + 1 + 1 + 1 + 1) ht (by omega) h17) rfl (mqR0 hb) rfl rfl (Nat.le_of_ble_eq_true rfl) ⟨(Nat.le_of_ble_eq_true rfl), (Nat.le_of_ble_eq_true rfl)⟩ (Nat.zero_add _) (Nat.zero_add _) ?_
                refine gq_if_eqT (tgt := 66) hX dX5_readsLaunch_59 rfl rfl ?_
                refine gq_iconst (v := nI 0) hX dX5_readsLaunch_66 rfl (by decide) ?_
                have hr : (mG l (frmN 3) 7 1 a).1 = false ∧ (mG l (frmN 3) 7 1 a).2.1 = a + 1 + 1 + 1 + 1 + 1 + 1 := by rw [(mG_y rfl (by decide) (by decide) h11).trans ((mG_y rfl (by decide) (by decide) h12).trans ((mG_y rfl (by decide) (by decide) h13).trans ((mG_y rfl (by decide) (by decide) h14).trans ((mG_y rfl (by decide) (by decide) h15).trans ((mG_y rfl (by decide) (by decide) h16).trans (mG_dn rfl (dgm1_n h17)))))))]; exact ⟨rfl, rfl⟩
                refine gq_zret hX hQ dX5_readsLaunch_67 rfl rfl ?_
                unfold RdR
                rw [hr.1, hr.2]
                exact ⟨rfl, N, s, rfl, fun h => by cases h⟩
            · refine gq_callVe hX dX5_readsLaunch_48 rfl vX5_248 (mp_reads_n hb (T := T) (N := N) (s := s) (a := a + 1 + 1 + 1 + 1 + 1) ht (by omega) (by decide) h16) rfl (mqR0 hb) rfl rfl (Nat.le_of_ble_eq_true rfl) ⟨(Nat.le_of_ble_eq_true rfl), (Nat.le_of_ble_eq_true rfl)⟩ (Nat.zero_add _) (Nat.zero_add _) ?_
              refine gq_if_eqT (tgt := 66) hX dX5_readsLaunch_51 rfl rfl ?_
              refine gq_iconst (v := nI 0) hX dX5_readsLaunch_66 rfl (by decide) ?_
              have hr : (mG l (frmN 3) 7 1 a).1 = false ∧ (mG l (frmN 3) 7 1 a).2.1 = a + 1 + 1 + 1 + 1 + 1 := by rw [(mG_y rfl (by decide) (by decide) h11).trans ((mG_y rfl (by decide) (by decide) h12).trans ((mG_y rfl (by decide) (by decide) h13).trans ((mG_y rfl (by decide) (by decide) h14).trans ((mG_y rfl (by decide) (by decide) h15).trans (mG_n rfl (by decide) (by decide) h16)))))]; exact ⟨rfl, rfl⟩
              refine gq_zret hX hQ dX5_readsLaunch_67 rfl rfl ?_
              unfold RdR
              rw [hr.1, hr.2]
              exact ⟨rfl, N, s, rfl, fun h => by cases h⟩
          · refine gq_callVe hX dX5_readsLaunch_39 rfl vX5_248 (mp_reads_n hb (T := T) (N := N) (s := s) (a := a + 1 + 1 + 1 + 1) ht (by omega) (by decide) h15) rfl (mqR0 hb) rfl rfl (Nat.le_of_ble_eq_true rfl) ⟨(Nat.le_of_ble_eq_true rfl), (Nat.le_of_ble_eq_true rfl)⟩ (Nat.zero_add _) (Nat.zero_add _) ?_
            refine gq_if_eqT (tgt := 66) hX dX5_readsLaunch_42 rfl rfl ?_
            refine gq_iconst (v := nI 0) hX dX5_readsLaunch_66 rfl (by decide) ?_
            have hr : (mG l (frmN 3) 7 1 a).1 = false ∧ (mG l (frmN 3) 7 1 a).2.1 = a + 1 + 1 + 1 + 1 := by rw [(mG_y rfl (by decide) (by decide) h11).trans ((mG_y rfl (by decide) (by decide) h12).trans ((mG_y rfl (by decide) (by decide) h13).trans ((mG_y rfl (by decide) (by decide) h14).trans (mG_n rfl (by decide) (by decide) h15))))]; exact ⟨rfl, rfl⟩
            refine gq_zret hX hQ dX5_readsLaunch_67 rfl rfl ?_
            unfold RdR
            rw [hr.1, hr.2]
            exact ⟨rfl, N, s, rfl, fun h => by cases h⟩
        · refine gq_callVe hX dX5_readsLaunch_30 rfl vX5_248 (mp_reads_n hb (T := T) (N := N) (s := s) (a := a + 1 + 1 + 1) ht (by omega) (by decide) h14) rfl (mqR0 hb) rfl rfl (Nat.le_of_ble_eq_true rfl) ⟨(Nat.le_of_ble_eq_true rfl), (Nat.le_of_ble_eq_true rfl)⟩ (Nat.zero_add _) (Nat.zero_add _) ?_
          refine gq_if_eqT (tgt := 66) hX dX5_readsLaunch_33 rfl rfl ?_
          refine gq_iconst (v := nI 0) hX dX5_readsLaunch_66 rfl (by decide) ?_
          have hr : (mG l (frmN 3) 7 1 a).1 = false ∧ (mG l (frmN 3) 7 1 a).2.1 = a + 1 + 1 + 1 := by rw [(mG_y rfl (by decide) (by decide) h11).trans ((mG_y rfl (by decide) (by decide) h12).trans ((mG_y rfl (by decide) (by decide) h13).trans (mG_n rfl (by decide) (by decide) h14)))]; exact ⟨rfl, rfl⟩
          refine gq_zret hX hQ dX5_readsLaunch_67 rfl rfl ?_
          unfold RdR
          rw [hr.1, hr.2]
          exact ⟨rfl, N, s, rfl, fun h => by cases h⟩
      · refine gq_callVe hX dX5_readsLaunch_21 rfl vX5_248 (mp_reads_n hb (T := T) (N := N) (s := s) (a := a + 1 + 1) ht (by omega) (by decide) h13) rfl (mqR0 hb) rfl rfl (Nat.le_of_ble_eq_true rfl) ⟨(Nat.le_of_ble_eq_true rfl), (Nat.le_of_ble_eq_true rfl)⟩ (Nat.zero_add _) (Nat.zero_add _) ?_
        refine gq_if_eqT (tgt := 66) hX dX5_readsLaunch_24 rfl rfl ?_
        refine gq_iconst (v := nI 0) hX dX5_readsLaunch_66 rfl (by decide) ?_
        have hr : (mG l (frmN 3) 7 1 a).1 = false ∧ (mG l (frmN 3) 7 1 a).2.1 = a + 1 + 1 := by rw [(mG_y rfl (by decide) (by decide) h11).trans ((mG_y rfl (by decide) (by decide) h12).trans (mG_n rfl (by decide) (by decide) h13))]; exact ⟨rfl, rfl⟩
        refine gq_zret hX hQ dX5_readsLaunch_67 rfl rfl ?_
        unfold RdR
        rw [hr.1, hr.2]
        exact ⟨rfl, N, s, rfl, fun h => by cases h⟩
    · refine gq_callVe hX dX5_readsLaunch_12 rfl vX5_248 (mp_reads_n hb (T := T) (N := N) (s := s) (a := a + 1) ht (by omega) (by decide) h12) rfl (mqR0 hb) rfl rfl (Nat.le_of_ble_eq_true rfl) ⟨(Nat.le_of_ble_eq_true rfl), (Nat.le_of_ble_eq_true rfl)⟩ (Nat.zero_add _) (Nat.zero_add _) ?_
      refine gq_if_eqT (tgt := 66) hX dX5_readsLaunch_15 rfl rfl ?_
      refine gq_iconst (v := nI 0) hX dX5_readsLaunch_66 rfl (by decide) ?_
      have hr : (mG l (frmN 3) 7 1 a).1 = false ∧ (mG l (frmN 3) 7 1 a).2.1 = a + 1 := by rw [(mG_y rfl (by decide) (by decide) h11).trans (mG_n rfl (by decide) (by decide) h12)]; exact ⟨rfl, rfl⟩
      refine gq_zret hX hQ dX5_readsLaunch_67 rfl rfl ?_
      unfold RdR
      rw [hr.1, hr.2]
      exact ⟨rfl, N, s, rfl, fun h => by cases h⟩
  · refine gq_callVe hX dX5_readsLaunch_3 rfl vX5_248 (mp_reads_n hb (T := T) (N := N) (s := s) (a := a) ht (by omega) (by decide) h11) rfl (mqR0 hb) rfl rfl (Nat.le_of_ble_eq_true rfl) ⟨(Nat.le_of_ble_eq_true rfl), (Nat.le_of_ble_eq_true rfl)⟩ (Nat.zero_add _) (Nat.zero_add _) ?_
    refine gq_if_eqT (tgt := 66) hX dX5_readsLaunch_6 rfl rfl ?_
    refine gq_iconst (v := nI 0) hX dX5_readsLaunch_66 rfl (by decide) ?_
    have hr : (mG l (frmN 3) 7 1 a).1 = false ∧ (mG l (frmN 3) 7 1 a).2.1 = a := by rw [mG_n rfl (by decide) (by decide) h11]; exact ⟨rfl, rfl⟩
    refine gq_zret hX hQ dX5_readsLaunch_67 rfl rfl ?_
    unfold RdR
    rw [hr.1, hr.2]
    exact ⟨rfl, N, s, rfl, fun h => by cases h⟩

set_option maxRecDepth 100000 in
set_option maxHeartbeats 4000000 in
theorem mp_rdS {E : Ev} {b : Nat → Nat} {T : St} {w : Nat → Int32} {N : Nat → Int32} {s : Int32} {M : Hp} (hb : Lay E 9 b) {l : Ln} (ht : TxP T l) {a : Nat} (ha : a < 1000) (ha9 : a < 100)  : Ct E mX5_readsSecond [.ref (b 0)] (MdW E b (rdT T N a s) w M) (RdR E b T w M (mG l (frmN 7) 9 1 a) s) 0 0 := by
  refine Ct.of gmX5_readsSecond (ls := [.ref (b 0)]) rfl rfl (Nat.le_of_ble_eq_true rfl) ?_
  intro X hX Q hQ
  have hl60 := ht.2.1
  refine gq_aload_n hX dX5_readsSecond_0 rfl rfl rfl ?_
  refine gq_bipush (v := nI 101) hX dX5_readsSecond_1 rfl (by decide) ?_
  rcases Bool.eq_false_or_eq_true (nx l (a) 101) with h18 | h18
  · refine gq_callVe hX dX5_readsSecond_3 rfl vX5_248 (mp_reads_y hb (T := T) (N := N) (s := s) (a := a) ht (by omega) h18) rfl (mqR0 hb) rfl rfl (Nat.le_of_ble_eq_true rfl) ⟨(Nat.le_of_ble_eq_true rfl), (Nat.le_of_ble_eq_true rfl)⟩ (Nat.zero_add _) (Nat.zero_add _) ?_
    refine gq_if_eqF (tgt := 54) hX dX5_readsSecond_6 rfl rfl (by decide) ?_
    refine gq_aload_n hX dX5_readsSecond_9 rfl rfl rfl ?_
    refine gq_bipush (v := nI 99) hX dX5_readsSecond_10 rfl (by decide) ?_
    rcases Bool.eq_false_or_eq_true (nx l (a + 1) 99) with h19 | h19
    · refine gq_callVe hX dX5_readsSecond_12 rfl vX5_248 (mp_reads_y hb (T := T) (N := N) (s := s) (a := a + 1) ht (by omega) h19) rfl (mqR0 hb) rfl rfl (Nat.le_of_ble_eq_true rfl) ⟨(Nat.le_of_ble_eq_true rfl), (Nat.le_of_ble_eq_true rfl)⟩ (Nat.zero_add _) (Nat.zero_add _) ?_
      refine gq_if_eqF (tgt := 54) hX dX5_readsSecond_15 rfl rfl (by decide) ?_
      refine gq_aload_n hX dX5_readsSecond_18 rfl rfl rfl ?_
      refine gq_bipush (v := nI 111) hX dX5_readsSecond_19 rfl (by decide) ?_
      rcases Bool.eq_false_or_eq_true (nx l (a + 1 + 1) 111) with h20 | h20
      · refine gq_callVe hX dX5_readsSecond_21 rfl vX5_248 (mp_reads_y hb (T := T) (N := N) (s := s) (a := a + 1 + 1) ht (by omega) h20) rfl (mqR0 hb) rfl rfl (Nat.le_of_ble_eq_true rfl) ⟨(Nat.le_of_ble_eq_true rfl), (Nat.le_of_ble_eq_true rfl)⟩ (Nat.zero_add _) (Nat.zero_add _) ?_
        refine gq_if_eqF (tgt := 54) hX dX5_readsSecond_24 rfl rfl (by decide) ?_
        refine gq_aload_n hX dX5_readsSecond_27 rfl rfl rfl ?_
        refine gq_bipush (v := nI 110) hX dX5_readsSecond_28 rfl (by decide) ?_
        rcases Bool.eq_false_or_eq_true (nx l (a + 1 + 1 + 1) 110) with h21 | h21
        · refine gq_callVe hX dX5_readsSecond_30 rfl vX5_248 (mp_reads_y hb (T := T) (N := N) (s := s) (a := a + 1 + 1 + 1) ht (by omega) h21) rfl (mqR0 hb) rfl rfl (Nat.le_of_ble_eq_true rfl) ⟨(Nat.le_of_ble_eq_true rfl), (Nat.le_of_ble_eq_true rfl)⟩ (Nat.zero_add _) (Nat.zero_add _) ?_
          refine gq_if_eqF (tgt := 54) hX dX5_readsSecond_33 rfl rfl (by decide) ?_
          refine gq_aload_n hX dX5_readsSecond_36 rfl rfl rfl ?_
          refine gq_bipush (v := nI 100) hX dX5_readsSecond_37 rfl (by decide) ?_
          rcases Bool.eq_false_or_eq_true (nx l (a + 1 + 1 + 1 + 1) 100) with h22 | h22
          · refine gq_callVe hX dX5_readsSecond_39 rfl vX5_248 (mp_reads_y hb (T := T) (N := N) (s := s) (a := a + 1 + 1 + 1 + 1) ht (by omega) h22) rfl (mqR0 hb) rfl rfl (Nat.le_of_ble_eq_true rfl) ⟨(Nat.le_of_ble_eq_true rfl), (Nat.le_of_ble_eq_true rfl)⟩ (Nat.zero_add _) (Nat.zero_add _) ?_
            refine gq_if_eqF (tgt := 54) hX dX5_readsSecond_42 rfl rfl (by decide) ?_
            refine gq_aload_n hX dX5_readsSecond_45 rfl rfl rfl ?_
            refine gq_bipush (v := nI 32) hX dX5_readsSecond_46 rfl (by decide) ?_
            rcases Bool.eq_false_or_eq_true (nx l (a + 1 + 1 + 1 + 1 + 1) 32) with h23 | h23
            · refine gq_callVe hX dX5_readsSecond_48 rfl vX5_248 (mp_reads_y hb (T := T) (N := N) (s := s) (a := a + 1 + 1 + 1 + 1 + 1) ht (by omega) h23) rfl (mqR0 hb) rfl rfl (Nat.le_of_ble_eq_true rfl) ⟨(Nat.le_of_ble_eq_true rfl), (Nat.le_of_ble_eq_true rfl)⟩ (Nat.zero_add _) (Nat.zero_add _) ?_
              refine gq_if_neT (tgt := 56) hX dX5_readsSecond_51 rfl (by decide) ?_
              refine gq_aload_n hX dX5_readsSecond_56 rfl rfl rfl ?_
              refine gq_iconst (v := nI 0) hX dX5_readsSecond_57 rfl (by decide) ?_
              by_cases h24 : dgt l (a + 1 + 1 + 1 + 1 + 1 + 1) = true
              · refine gq_callVe hX dX5_readsSecond_58 rfl vX5_245 (mp_dig_y hb (T := T) (N := N) (s := s) (a := a + 1 + 1 + 1 + 1 + 1 + 1) ht (by omega) (by decide) h24) rfl (mqR0 hb) rfl rfl (Nat.le_of_ble_eq_true rfl) ⟨(Nat.le_of_ble_eq_true rfl), (Nat.le_of_ble_eq_true rfl)⟩ (Nat.zero_add _) (Nat.zero_add _) ?_
                refine gq_if_eqF (tgt := 85) hX dX5_readsSecond_61 rfl rfl (by decide) ?_
                refine gq_aload_n hX dX5_readsSecond_64 rfl rfl rfl ?_
                refine gq_bipush (v := nI 32) hX dX5_readsSecond_65 rfl (by decide) ?_
                rcases Bool.eq_false_or_eq_true (nx l (a + 1 + 1 + 1 + 1 + 1 + 1 + 1) 32) with h25 | h25
                · refine gq_callVe hX dX5_readsSecond_67 rfl vX5_248 (mp_reads_y hb (T := T) (N := (upd N 0 (nI (l.1 (a + 1 + 1 + 1 + 1 + 1 + 1) - 48)))) (s := s) (a := a + 1 + 1 + 1 + 1 + 1 + 1 + 1) ht (by omega) h25) rfl (mqR0 hb) rfl rfl (Nat.le_of_ble_eq_true rfl) ⟨(Nat.le_of_ble_eq_true rfl), (Nat.le_of_ble_eq_true rfl)⟩ (Nat.zero_add _) (Nat.zero_add _) ?_
                  refine gq_if_eqF (tgt := 85) hX dX5_readsSecond_70 rfl rfl (by decide) ?_
                  refine gq_aload_n hX dX5_readsSecond_73 rfl rfl rfl ?_
                  refine gq_iconst (v := nI 1) hX dX5_readsSecond_74 rfl (by decide) ?_
                  by_cases h26 : dgt l (a + 1 + 1 + 1 + 1 + 1 + 1 + 1 + 1) = true
                  · have dh26 := dgm_le (l := l) (a := a + 1 + 1 + 1 + 1 + 1 + 1 + 1 + 1) 3
                    refine gq_callVe hX dX5_readsSecond_75 rfl vX5_251 (mp_num_y hb (T := T) (N := (upd N 0 (nI (l.1 (a + 1 + 1 + 1 + 1 + 1 + 1) - 48)))) (s := s) (a := a + 1 + 1 + 1 + 1 + 1 + 1 + 1 + 1) ht (by omega) (by decide) h26) rfl (mqR0 hb) rfl rfl (Nat.le_of_ble_eq_true rfl) ⟨(Nat.le_of_ble_eq_true rfl), (Nat.le_of_ble_eq_true rfl)⟩ (Nat.zero_add _) (Nat.zero_add _) ?_
                    refine gq_if_eqF (tgt := 85) hX dX5_readsSecond_78 rfl rfl (by decide) ?_
                    refine gq_iconst (v := nI 1) hX dX5_readsSecond_81 rfl (by decide) ?_
                    refine gq_goto (tgt := 86) hX dX5_readsSecond_82 rfl ?_
                    have hr : mG l (frmN 7) 9 1 a = (true, a + 1 + 1 + 1 + 1 + 1 + 1 + 1 + 1 + dgm l (a + 1 + 1 + 1 + 1 + 1 + 1 + 1 + 1) 3, [l.1 (a + 1 + 1 + 1 + 1 + 1 + 1) - 48, valN l (a + 1 + 1 + 1 + 1 + 1 + 1 + 1 + 1) (dgm l (a + 1 + 1 + 1 + 1 + 1 + 1 + 1 + 1) 3)]) := (mG_y rfl (by decide) (by decide) h18).trans ((mG_y rfl (by decide) (by decide) h19).trans ((mG_y rfl (by decide) (by decide) h20).trans ((mG_y rfl (by decide) (by decide) h21).trans ((mG_y rfl (by decide) (by decide) h22).trans ((mG_y rfl (by decide) (by decide) h23).trans (mG_dy rfl (dgm1_y h24) ((mG_y rfl (by decide) (by decide) h25).trans (mG_Dy rfl rfl (dgm3_y h26) (rfl)))))))))
                    refine gq_zret hX hQ dX5_readsSecond_86 rfl rfl ?_
                    unfold RdR
                    rw [hr]
                    exact ⟨rfl, (upd (upd N 0 (nI (l.1 (a + 1 + 1 + 1 + 1 + 1 + 1) - 48))) 1 (nI (valN l (a + 1 + 1 + 1 + 1 + 1 + 1 + 1 + 1) (dgm l (a + 1 + 1 + 1 + 1 + 1 + 1 + 1 + 1) 3)))), s, rfl, fun _ => ⟨rfl, fun q hq => match q, hq with | 0, _ => (upd_n _ (by decide)).trans (upd_s _ _ _) | 1, _ => upd_s _ _ _ | _ + 2, h => absurd h (by simp)⟩⟩
                  · refine gq_callVe hX dX5_readsSecond_75 rfl vX5_251 (mp_num_n hb (T := T) (N := (upd N 0 (nI (l.1 (a + 1 + 1 + 1 + 1 + 1 + 1) - 48)))) (s := s) (a := a + 1 + 1 + 1 + 1 + 1 + 1 + 1 + 1) ht (by omega) h26) rfl (mqR0 hb) rfl rfl (Nat.le_of_ble_eq_true rfl) ⟨(Nat.le_of_ble_eq_true rfl), (Nat.le_of_ble_eq_true rfl)⟩ (Nat.zero_add _) (Nat.zero_add _) ?_
                    refine gq_if_eqT (tgt := 85) hX dX5_readsSecond_78 rfl rfl ?_
                    refine gq_iconst (v := nI 0) hX dX5_readsSecond_85 rfl (by decide) ?_
                    have hr : (mG l (frmN 7) 9 1 a).1 = false ∧ (mG l (frmN 7) 9 1 a).2.1 = a + 1 + 1 + 1 + 1 + 1 + 1 + 1 + 1 := by rw [(mG_y rfl (by decide) (by decide) h18).trans ((mG_y rfl (by decide) (by decide) h19).trans ((mG_y rfl (by decide) (by decide) h20).trans ((mG_y rfl (by decide) (by decide) h21).trans ((mG_y rfl (by decide) (by decide) h22).trans ((mG_y rfl (by decide) (by decide) h23).trans (mG_dy rfl (dgm1_y h24) ((mG_y rfl (by decide) (by decide) h25).trans (mG_Dn rfl (dgm3_n h26)))))))))]; exact ⟨rfl, rfl⟩
                    refine gq_zret hX hQ dX5_readsSecond_86 rfl rfl ?_
                    unfold RdR
                    rw [hr.1, hr.2]
                    exact ⟨rfl, (upd N 0 (nI (l.1 (a + 1 + 1 + 1 + 1 + 1 + 1) - 48))), s, rfl, fun h => by cases h⟩
                · refine gq_callVe hX dX5_readsSecond_67 rfl vX5_248 (mp_reads_n hb (T := T) (N := (upd N 0 (nI (l.1 (a + 1 + 1 + 1 + 1 + 1 + 1) - 48)))) (s := s) (a := a + 1 + 1 + 1 + 1 + 1 + 1 + 1) ht (by omega) (by decide) h25) rfl (mqR0 hb) rfl rfl (Nat.le_of_ble_eq_true rfl) ⟨(Nat.le_of_ble_eq_true rfl), (Nat.le_of_ble_eq_true rfl)⟩ (Nat.zero_add _) (Nat.zero_add _) ?_
                  refine gq_if_eqT (tgt := 85) hX dX5_readsSecond_70 rfl rfl ?_
                  refine gq_iconst (v := nI 0) hX dX5_readsSecond_85 rfl (by decide) ?_
                  have hr : (mG l (frmN 7) 9 1 a).1 = false ∧ (mG l (frmN 7) 9 1 a).2.1 = a + 1 + 1 + 1 + 1 + 1 + 1 + 1 := by rw [(mG_y rfl (by decide) (by decide) h18).trans ((mG_y rfl (by decide) (by decide) h19).trans ((mG_y rfl (by decide) (by decide) h20).trans ((mG_y rfl (by decide) (by decide) h21).trans ((mG_y rfl (by decide) (by decide) h22).trans ((mG_y rfl (by decide) (by decide) h23).trans (mG_dy rfl (dgm1_y h24) (mG_n rfl (by decide) (by decide) h25)))))))]; exact ⟨rfl, rfl⟩
                  refine gq_zret hX hQ dX5_readsSecond_86 rfl rfl ?_
                  unfold RdR
                  rw [hr.1, hr.2]
                  exact ⟨rfl, (upd N 0 (nI (l.1 (a + 1 + 1 + 1 + 1 + 1 + 1) - 48))), s, rfl, fun h => by cases h⟩
              · refine gq_callVe hX dX5_readsSecond_58 rfl vX5_245 (mp_dig_n hb (T := T) (N := N) (s := s) (a := a + 1 + 1 + 1 + 1 + 1 + 1) ht (by omega) h24) rfl (mqR0 hb) rfl rfl (Nat.le_of_ble_eq_true rfl) ⟨(Nat.le_of_ble_eq_true rfl), (Nat.le_of_ble_eq_true rfl)⟩ (Nat.zero_add _) (Nat.zero_add _) ?_
                refine gq_if_eqT (tgt := 85) hX dX5_readsSecond_61 rfl rfl ?_
                refine gq_iconst (v := nI 0) hX dX5_readsSecond_85 rfl (by decide) ?_
                have hr : (mG l (frmN 7) 9 1 a).1 = false ∧ (mG l (frmN 7) 9 1 a).2.1 = a + 1 + 1 + 1 + 1 + 1 + 1 := by rw [(mG_y rfl (by decide) (by decide) h18).trans ((mG_y rfl (by decide) (by decide) h19).trans ((mG_y rfl (by decide) (by decide) h20).trans ((mG_y rfl (by decide) (by decide) h21).trans ((mG_y rfl (by decide) (by decide) h22).trans ((mG_y rfl (by decide) (by decide) h23).trans (mG_dn rfl (dgm1_n h24)))))))]; exact ⟨rfl, rfl⟩
                refine gq_zret hX hQ dX5_readsSecond_86 rfl rfl ?_
                unfold RdR
                rw [hr.1, hr.2]
                exact ⟨rfl, N, s, rfl, fun h => by cases h⟩
            · refine gq_callVe hX dX5_readsSecond_48 rfl vX5_248 (mp_reads_n hb (T := T) (N := N) (s := s) (a := a + 1 + 1 + 1 + 1 + 1) ht (by omega) (by decide) h23) rfl (mqR0 hb) rfl rfl (Nat.le_of_ble_eq_true rfl) ⟨(Nat.le_of_ble_eq_true rfl), (Nat.le_of_ble_eq_true rfl)⟩ (Nat.zero_add _) (Nat.zero_add _) ?_
              refine gq_if_neF (tgt := 56) hX dX5_readsSecond_51 rfl rfl rfl ?_
              refine gq_iconst (v := nI 0) hX dX5_readsSecond_54 rfl (by decide) ?_
              have hr : (mG l (frmN 7) 9 1 a).1 = false ∧ (mG l (frmN 7) 9 1 a).2.1 = a + 1 + 1 + 1 + 1 + 1 := by rw [(mG_y rfl (by decide) (by decide) h18).trans ((mG_y rfl (by decide) (by decide) h19).trans ((mG_y rfl (by decide) (by decide) h20).trans ((mG_y rfl (by decide) (by decide) h21).trans ((mG_y rfl (by decide) (by decide) h22).trans (mG_n rfl (by decide) (by decide) h23)))))]; exact ⟨rfl, rfl⟩
              refine gq_zret hX hQ dX5_readsSecond_55 rfl rfl ?_
              unfold RdR
              rw [hr.1, hr.2]
              exact ⟨rfl, N, s, rfl, fun h => by cases h⟩
          · refine gq_callVe hX dX5_readsSecond_39 rfl vX5_248 (mp_reads_n hb (T := T) (N := N) (s := s) (a := a + 1 + 1 + 1 + 1) ht (by omega) (by decide) h22) rfl (mqR0 hb) rfl rfl (Nat.le_of_ble_eq_true rfl) ⟨(Nat.le_of_ble_eq_true rfl), (Nat.le_of_ble_eq_true rfl)⟩ (Nat.zero_add _) (Nat.zero_add _) ?_
            refine gq_if_eqT (tgt := 54) hX dX5_readsSecond_42 rfl rfl ?_
            refine gq_iconst (v := nI 0) hX dX5_readsSecond_54 rfl (by decide) ?_
            have hr : (mG l (frmN 7) 9 1 a).1 = false ∧ (mG l (frmN 7) 9 1 a).2.1 = a + 1 + 1 + 1 + 1 := by rw [(mG_y rfl (by decide) (by decide) h18).trans ((mG_y rfl (by decide) (by decide) h19).trans ((mG_y rfl (by decide) (by decide) h20).trans ((mG_y rfl (by decide) (by decide) h21).trans (mG_n rfl (by decide) (by decide) h22))))]; exact ⟨rfl, rfl⟩
            refine gq_zret hX hQ dX5_readsSecond_55 rfl rfl ?_
            unfold RdR
            rw [hr.1, hr.2]
            exact ⟨rfl, N, s, rfl, fun h => by cases h⟩
        · refine gq_callVe hX dX5_readsSecond_30 rfl vX5_248 (mp_reads_n hb (T := T) (N := N) (s := s) (a := a + 1 + 1 + 1) ht (by omega) (by decide) h21) rfl (mqR0 hb) rfl rfl (Nat.le_of_ble_eq_true rfl) ⟨(Nat.le_of_ble_eq_true rfl), (Nat.le_of_ble_eq_true rfl)⟩ (Nat.zero_add _) (Nat.zero_add _) ?_
          refine gq_if_eqT (tgt := 54) hX dX5_readsSecond_33 rfl rfl ?_
          refine gq_iconst (v := nI 0) hX dX5_readsSecond_54 rfl (by decide) ?_
          have hr : (mG l (frmN 7) 9 1 a).1 = false ∧ (mG l (frmN 7) 9 1 a).2.1 = a + 1 + 1 + 1 := by rw [(mG_y rfl (by decide) (by decide) h18).trans ((mG_y rfl (by decide) (by decide) h19).trans ((mG_y rfl (by decide) (by decide) h20).trans (mG_n rfl (by decide) (by decide) h21)))]; exact ⟨rfl, rfl⟩
          refine gq_zret hX hQ dX5_readsSecond_55 rfl rfl ?_
          unfold RdR
          rw [hr.1, hr.2]
          exact ⟨rfl, N, s, rfl, fun h => by cases h⟩
      · refine gq_callVe hX dX5_readsSecond_21 rfl vX5_248 (mp_reads_n hb (T := T) (N := N) (s := s) (a := a + 1 + 1) ht (by omega) (by decide) h20) rfl (mqR0 hb) rfl rfl (Nat.le_of_ble_eq_true rfl) ⟨(Nat.le_of_ble_eq_true rfl), (Nat.le_of_ble_eq_true rfl)⟩ (Nat.zero_add _) (Nat.zero_add _) ?_
        refine gq_if_eqT (tgt := 54) hX dX5_readsSecond_24 rfl rfl ?_
        refine gq_iconst (v := nI 0) hX dX5_readsSecond_54 rfl (by decide) ?_
        have hr : (mG l (frmN 7) 9 1 a).1 = false ∧ (mG l (frmN 7) 9 1 a).2.1 = a + 1 + 1 := by rw [(mG_y rfl (by decide) (by decide) h18).trans ((mG_y rfl (by decide) (by decide) h19).trans (mG_n rfl (by decide) (by decide) h20))]; exact ⟨rfl, rfl⟩
        refine gq_zret hX hQ dX5_readsSecond_55 rfl rfl ?_
        unfold RdR
        rw [hr.1, hr.2]
        exact ⟨rfl, N, s, rfl, fun h => by cases h⟩
    · refine gq_callVe hX dX5_readsSecond_12 rfl vX5_248 (mp_reads_n hb (T := T) (N := N) (s := s) (a := a + 1) ht (by omega) (by decide) h19) rfl (mqR0 hb) rfl rfl (Nat.le_of_ble_eq_true rfl) ⟨(Nat.le_of_ble_eq_true rfl), (Nat.le_of_ble_eq_true rfl)⟩ (Nat.zero_add _) (Nat.zero_add _) ?_
      refine gq_if_eqT (tgt := 54) hX dX5_readsSecond_15 rfl rfl ?_
      refine gq_iconst (v := nI 0) hX dX5_readsSecond_54 rfl (by decide) ?_
      have hr : (mG l (frmN 7) 9 1 a).1 = false ∧ (mG l (frmN 7) 9 1 a).2.1 = a + 1 := by rw [(mG_y rfl (by decide) (by decide) h18).trans (mG_n rfl (by decide) (by decide) h19)]; exact ⟨rfl, rfl⟩
      refine gq_zret hX hQ dX5_readsSecond_55 rfl rfl ?_
      unfold RdR
      rw [hr.1, hr.2]
      exact ⟨rfl, N, s, rfl, fun h => by cases h⟩
  · refine gq_callVe hX dX5_readsSecond_3 rfl vX5_248 (mp_reads_n hb (T := T) (N := N) (s := s) (a := a) ht (by omega) (by decide) h18) rfl (mqR0 hb) rfl rfl (Nat.le_of_ble_eq_true rfl) ⟨(Nat.le_of_ble_eq_true rfl), (Nat.le_of_ble_eq_true rfl)⟩ (Nat.zero_add _) (Nat.zero_add _) ?_
    refine gq_if_eqT (tgt := 54) hX dX5_readsSecond_6 rfl rfl ?_
    refine gq_iconst (v := nI 0) hX dX5_readsSecond_54 rfl (by decide) ?_
    have hr : (mG l (frmN 7) 9 1 a).1 = false ∧ (mG l (frmN 7) 9 1 a).2.1 = a := by rw [mG_n rfl (by decide) (by decide) h18]; exact ⟨rfl, rfl⟩
    refine gq_zret hX hQ dX5_readsSecond_55 rfl rfl ?_
    unfold RdR
    rw [hr.1, hr.2]
    exact ⟨rfl, N, s, rfl, fun h => by cases h⟩

set_option maxRecDepth 100000 in
set_option maxHeartbeats 4000000 in
theorem mp_rdU {E : Ev} {b : Nat → Nat} {T : St} {w : Nat → Int32} {N : Nat → Int32} {s : Int32} {M : Hp} (hb : Lay E 9 b) {l : Ln} (ht : TxP T l) {a : Nat} (ha : a < 1000) (ha9 : a < 100)  : Ct E mX5_readsUntable [.ref (b 0)] (MdW E b (rdT T N a s) w M) (RdR E b T w M (mG l (frmN 8) 8 1 a) (nI 110)) 0 0 := by
  refine Ct.of gmX5_readsUntable (ls := [.ref (b 0)]) rfl rfl (Nat.le_of_ble_eq_true rfl) ?_
  intro X hX Q hQ
  have hl60 := ht.2.1
  refine gq_aload_n hX dX5_readsUntable_0 rfl rfl rfl ?_
  refine gq_bipush (v := nI 110) hX dX5_readsUntable_1 rfl (by decide) ?_
  refine gq_putf hX dX5_readsUntable_3 rfl fX5_254 rfl rfl rfl (mqR0 hb) (Nat.le_of_ble_eq_true rfl) (hb.2 0 (by decide)) (mqW0_18 hb) ?_
  rw [rdT_so]
  refine gq_aload_n hX dX5_readsUntable_6 rfl rfl rfl ?_
  refine gq_bipush (v := nI 110) hX dX5_readsUntable_7 rfl (by decide) ?_
  rcases Bool.eq_false_or_eq_true (nx l (a) 110) with h27 | h27
  · refine gq_callVe hX dX5_readsUntable_9 rfl vX5_248 (mp_reads_y hb (T := T) (N := N) (s := (nI 110)) (a := a) ht (by omega) h27) rfl (mqR0 hb) rfl rfl (Nat.le_of_ble_eq_true rfl) ⟨(Nat.le_of_ble_eq_true rfl), (Nat.le_of_ble_eq_true rfl)⟩ (Nat.zero_add _) (Nat.zero_add _) ?_
    refine gq_if_eqF (tgt := 60) hX dX5_readsUntable_12 rfl rfl (by decide) ?_
    refine gq_aload_n hX dX5_readsUntable_15 rfl rfl rfl ?_
    refine gq_bipush (v := nI 116) hX dX5_readsUntable_16 rfl (by decide) ?_
    rcases Bool.eq_false_or_eq_true (nx l (a + 1) 116) with h28 | h28
    · refine gq_callVe hX dX5_readsUntable_18 rfl vX5_248 (mp_reads_y hb (T := T) (N := N) (s := (nI 110)) (a := a + 1) ht (by omega) h28) rfl (mqR0 hb) rfl rfl (Nat.le_of_ble_eq_true rfl) ⟨(Nat.le_of_ble_eq_true rfl), (Nat.le_of_ble_eq_true rfl)⟩ (Nat.zero_add _) (Nat.zero_add _) ?_
      refine gq_if_eqF (tgt := 60) hX dX5_readsUntable_21 rfl rfl (by decide) ?_
      refine gq_aload_n hX dX5_readsUntable_24 rfl rfl rfl ?_
      refine gq_bipush (v := nI 97) hX dX5_readsUntable_25 rfl (by decide) ?_
      rcases Bool.eq_false_or_eq_true (nx l (a + 1 + 1) 97) with h29 | h29
      · refine gq_callVe hX dX5_readsUntable_27 rfl vX5_248 (mp_reads_y hb (T := T) (N := N) (s := (nI 110)) (a := a + 1 + 1) ht (by omega) h29) rfl (mqR0 hb) rfl rfl (Nat.le_of_ble_eq_true rfl) ⟨(Nat.le_of_ble_eq_true rfl), (Nat.le_of_ble_eq_true rfl)⟩ (Nat.zero_add _) (Nat.zero_add _) ?_
        refine gq_if_eqF (tgt := 60) hX dX5_readsUntable_30 rfl rfl (by decide) ?_
        refine gq_aload_n hX dX5_readsUntable_33 rfl rfl rfl ?_
        refine gq_bipush (v := nI 98) hX dX5_readsUntable_34 rfl (by decide) ?_
        rcases Bool.eq_false_or_eq_true (nx l (a + 1 + 1 + 1) 98) with h30 | h30
        · refine gq_callVe hX dX5_readsUntable_36 rfl vX5_248 (mp_reads_y hb (T := T) (N := N) (s := (nI 110)) (a := a + 1 + 1 + 1) ht (by omega) h30) rfl (mqR0 hb) rfl rfl (Nat.le_of_ble_eq_true rfl) ⟨(Nat.le_of_ble_eq_true rfl), (Nat.le_of_ble_eq_true rfl)⟩ (Nat.zero_add _) (Nat.zero_add _) ?_
          refine gq_if_eqF (tgt := 60) hX dX5_readsUntable_39 rfl rfl (by decide) ?_
          refine gq_aload_n hX dX5_readsUntable_42 rfl rfl rfl ?_
          refine gq_bipush (v := nI 108) hX dX5_readsUntable_43 rfl (by decide) ?_
          rcases Bool.eq_false_or_eq_true (nx l (a + 1 + 1 + 1 + 1) 108) with h31 | h31
          · refine gq_callVe hX dX5_readsUntable_45 rfl vX5_248 (mp_reads_y hb (T := T) (N := N) (s := (nI 110)) (a := a + 1 + 1 + 1 + 1) ht (by omega) h31) rfl (mqR0 hb) rfl rfl (Nat.le_of_ble_eq_true rfl) ⟨(Nat.le_of_ble_eq_true rfl), (Nat.le_of_ble_eq_true rfl)⟩ (Nat.zero_add _) (Nat.zero_add _) ?_
            refine gq_if_eqF (tgt := 60) hX dX5_readsUntable_48 rfl rfl (by decide) ?_
            refine gq_aload_n hX dX5_readsUntable_51 rfl rfl rfl ?_
            refine gq_bipush (v := nI 101) hX dX5_readsUntable_52 rfl (by decide) ?_
            rcases Bool.eq_false_or_eq_true (nx l (a + 1 + 1 + 1 + 1 + 1) 101) with h32 | h32
            · refine gq_callVe hX dX5_readsUntable_54 rfl vX5_248 (mp_reads_y hb (T := T) (N := N) (s := (nI 110)) (a := a + 1 + 1 + 1 + 1 + 1) ht (by omega) h32) rfl (mqR0 hb) rfl rfl (Nat.le_of_ble_eq_true rfl) ⟨(Nat.le_of_ble_eq_true rfl), (Nat.le_of_ble_eq_true rfl)⟩ (Nat.zero_add _) (Nat.zero_add _) ?_
              refine gq_if_neT (tgt := 62) hX dX5_readsUntable_57 rfl (by decide) ?_
              refine gq_aload_n hX dX5_readsUntable_62 rfl rfl rfl ?_
              refine gq_bipush (v := nI 32) hX dX5_readsUntable_63 rfl (by decide) ?_
              rcases Bool.eq_false_or_eq_true (nx l (a + 1 + 1 + 1 + 1 + 1 + 1) 32) with h33 | h33
              · refine gq_callVe hX dX5_readsUntable_65 rfl vX5_248 (mp_reads_y hb (T := T) (N := N) (s := (nI 110)) (a := a + 1 + 1 + 1 + 1 + 1 + 1) ht (by omega) h33) rfl (mqR0 hb) rfl rfl (Nat.le_of_ble_eq_true rfl) ⟨(Nat.le_of_ble_eq_true rfl), (Nat.le_of_ble_eq_true rfl)⟩ (Nat.zero_add _) (Nat.zero_add _) ?_
                refine gq_if_eqF (tgt := 83) hX dX5_readsUntable_68 rfl rfl (by decide) ?_
                refine gq_aload_n hX dX5_readsUntable_71 rfl rfl rfl ?_
                refine gq_iconst (v := nI 0) hX dX5_readsUntable_72 rfl (by decide) ?_
                by_cases h34 : dgt l (a + 1 + 1 + 1 + 1 + 1 + 1 + 1) = true
                · have dh34 := dgm_le (l := l) (a := a + 1 + 1 + 1 + 1 + 1 + 1 + 1) 3
                  refine gq_callVe hX dX5_readsUntable_73 rfl vX5_251 (mp_num_y hb (T := T) (N := N) (s := (nI 110)) (a := a + 1 + 1 + 1 + 1 + 1 + 1 + 1) ht (by omega) (by decide) h34) rfl (mqR0 hb) rfl rfl (Nat.le_of_ble_eq_true rfl) ⟨(Nat.le_of_ble_eq_true rfl), (Nat.le_of_ble_eq_true rfl)⟩ (Nat.zero_add _) (Nat.zero_add _) ?_
                  refine gq_if_eqF (tgt := 83) hX dX5_readsUntable_76 rfl rfl (by decide) ?_
                  refine gq_iconst (v := nI 1) hX dX5_readsUntable_79 rfl (by decide) ?_
                  refine gq_goto (tgt := 84) hX dX5_readsUntable_80 rfl ?_
                  have hr : mG l (frmN 8) 8 1 a = (true, a + 1 + 1 + 1 + 1 + 1 + 1 + 1 + dgm l (a + 1 + 1 + 1 + 1 + 1 + 1 + 1) 3, [valN l (a + 1 + 1 + 1 + 1 + 1 + 1 + 1) (dgm l (a + 1 + 1 + 1 + 1 + 1 + 1 + 1) 3)]) := (mG_y rfl (by decide) (by decide) h27).trans ((mG_y rfl (by decide) (by decide) h28).trans ((mG_y rfl (by decide) (by decide) h29).trans ((mG_y rfl (by decide) (by decide) h30).trans ((mG_y rfl (by decide) (by decide) h31).trans ((mG_y rfl (by decide) (by decide) h32).trans ((mG_y rfl (by decide) (by decide) h33).trans (mG_Dy rfl rfl (dgm3_y h34) (rfl))))))))
                  refine gq_zret hX hQ dX5_readsUntable_84 rfl rfl ?_
                  unfold RdR
                  rw [hr]
                  exact ⟨rfl, (upd N 0 (nI (valN l (a + 1 + 1 + 1 + 1 + 1 + 1 + 1) (dgm l (a + 1 + 1 + 1 + 1 + 1 + 1 + 1) 3)))), (nI 110), rfl, fun _ => ⟨rfl, fun q hq => match q, hq with | 0, _ => upd_s _ _ _ | _ + 1, h => absurd h (by simp)⟩⟩
                · refine gq_callVe hX dX5_readsUntable_73 rfl vX5_251 (mp_num_n hb (T := T) (N := N) (s := (nI 110)) (a := a + 1 + 1 + 1 + 1 + 1 + 1 + 1) ht (by omega) h34) rfl (mqR0 hb) rfl rfl (Nat.le_of_ble_eq_true rfl) ⟨(Nat.le_of_ble_eq_true rfl), (Nat.le_of_ble_eq_true rfl)⟩ (Nat.zero_add _) (Nat.zero_add _) ?_
                  refine gq_if_eqT (tgt := 83) hX dX5_readsUntable_76 rfl rfl ?_
                  refine gq_iconst (v := nI 0) hX dX5_readsUntable_83 rfl (by decide) ?_
                  have hr : (mG l (frmN 8) 8 1 a).1 = false ∧ (mG l (frmN 8) 8 1 a).2.1 = a + 1 + 1 + 1 + 1 + 1 + 1 + 1 := by rw [(mG_y rfl (by decide) (by decide) h27).trans ((mG_y rfl (by decide) (by decide) h28).trans ((mG_y rfl (by decide) (by decide) h29).trans ((mG_y rfl (by decide) (by decide) h30).trans ((mG_y rfl (by decide) (by decide) h31).trans ((mG_y rfl (by decide) (by decide) h32).trans ((mG_y rfl (by decide) (by decide) h33).trans (mG_Dn rfl (dgm3_n h34))))))))]; exact ⟨rfl, rfl⟩
                  refine gq_zret hX hQ dX5_readsUntable_84 rfl rfl ?_
                  unfold RdR
                  rw [hr.1, hr.2]
                  exact ⟨rfl, N, (nI 110), rfl, fun h => by cases h⟩
              · refine gq_callVe hX dX5_readsUntable_65 rfl vX5_248 (mp_reads_n hb (T := T) (N := N) (s := (nI 110)) (a := a + 1 + 1 + 1 + 1 + 1 + 1) ht (by omega) (by decide) h33) rfl (mqR0 hb) rfl rfl (Nat.le_of_ble_eq_true rfl) ⟨(Nat.le_of_ble_eq_true rfl), (Nat.le_of_ble_eq_true rfl)⟩ (Nat.zero_add _) (Nat.zero_add _) ?_
                refine gq_if_eqT (tgt := 83) hX dX5_readsUntable_68 rfl rfl ?_
                refine gq_iconst (v := nI 0) hX dX5_readsUntable_83 rfl (by decide) ?_
                have hr : (mG l (frmN 8) 8 1 a).1 = false ∧ (mG l (frmN 8) 8 1 a).2.1 = a + 1 + 1 + 1 + 1 + 1 + 1 := by rw [(mG_y rfl (by decide) (by decide) h27).trans ((mG_y rfl (by decide) (by decide) h28).trans ((mG_y rfl (by decide) (by decide) h29).trans ((mG_y rfl (by decide) (by decide) h30).trans ((mG_y rfl (by decide) (by decide) h31).trans ((mG_y rfl (by decide) (by decide) h32).trans (mG_n rfl (by decide) (by decide) h33))))))]; exact ⟨rfl, rfl⟩
                refine gq_zret hX hQ dX5_readsUntable_84 rfl rfl ?_
                unfold RdR
                rw [hr.1, hr.2]
                exact ⟨rfl, N, (nI 110), rfl, fun h => by cases h⟩
            · refine gq_callVe hX dX5_readsUntable_54 rfl vX5_248 (mp_reads_n hb (T := T) (N := N) (s := (nI 110)) (a := a + 1 + 1 + 1 + 1 + 1) ht (by omega) (by decide) h32) rfl (mqR0 hb) rfl rfl (Nat.le_of_ble_eq_true rfl) ⟨(Nat.le_of_ble_eq_true rfl), (Nat.le_of_ble_eq_true rfl)⟩ (Nat.zero_add _) (Nat.zero_add _) ?_
              refine gq_if_neF (tgt := 62) hX dX5_readsUntable_57 rfl rfl rfl ?_
              refine gq_iconst (v := nI 0) hX dX5_readsUntable_60 rfl (by decide) ?_
              have hr : (mG l (frmN 8) 8 1 a).1 = false ∧ (mG l (frmN 8) 8 1 a).2.1 = a + 1 + 1 + 1 + 1 + 1 := by rw [(mG_y rfl (by decide) (by decide) h27).trans ((mG_y rfl (by decide) (by decide) h28).trans ((mG_y rfl (by decide) (by decide) h29).trans ((mG_y rfl (by decide) (by decide) h30).trans ((mG_y rfl (by decide) (by decide) h31).trans (mG_n rfl (by decide) (by decide) h32)))))]; exact ⟨rfl, rfl⟩
              refine gq_zret hX hQ dX5_readsUntable_61 rfl rfl ?_
              unfold RdR
              rw [hr.1, hr.2]
              exact ⟨rfl, N, (nI 110), rfl, fun h => by cases h⟩
          · refine gq_callVe hX dX5_readsUntable_45 rfl vX5_248 (mp_reads_n hb (T := T) (N := N) (s := (nI 110)) (a := a + 1 + 1 + 1 + 1) ht (by omega) (by decide) h31) rfl (mqR0 hb) rfl rfl (Nat.le_of_ble_eq_true rfl) ⟨(Nat.le_of_ble_eq_true rfl), (Nat.le_of_ble_eq_true rfl)⟩ (Nat.zero_add _) (Nat.zero_add _) ?_
            refine gq_if_eqT (tgt := 60) hX dX5_readsUntable_48 rfl rfl ?_
            refine gq_iconst (v := nI 0) hX dX5_readsUntable_60 rfl (by decide) ?_
            have hr : (mG l (frmN 8) 8 1 a).1 = false ∧ (mG l (frmN 8) 8 1 a).2.1 = a + 1 + 1 + 1 + 1 := by rw [(mG_y rfl (by decide) (by decide) h27).trans ((mG_y rfl (by decide) (by decide) h28).trans ((mG_y rfl (by decide) (by decide) h29).trans ((mG_y rfl (by decide) (by decide) h30).trans (mG_n rfl (by decide) (by decide) h31))))]; exact ⟨rfl, rfl⟩
            refine gq_zret hX hQ dX5_readsUntable_61 rfl rfl ?_
            unfold RdR
            rw [hr.1, hr.2]
            exact ⟨rfl, N, (nI 110), rfl, fun h => by cases h⟩
        · refine gq_callVe hX dX5_readsUntable_36 rfl vX5_248 (mp_reads_n hb (T := T) (N := N) (s := (nI 110)) (a := a + 1 + 1 + 1) ht (by omega) (by decide) h30) rfl (mqR0 hb) rfl rfl (Nat.le_of_ble_eq_true rfl) ⟨(Nat.le_of_ble_eq_true rfl), (Nat.le_of_ble_eq_true rfl)⟩ (Nat.zero_add _) (Nat.zero_add _) ?_
          refine gq_if_eqT (tgt := 60) hX dX5_readsUntable_39 rfl rfl ?_
          refine gq_iconst (v := nI 0) hX dX5_readsUntable_60 rfl (by decide) ?_
          have hr : (mG l (frmN 8) 8 1 a).1 = false ∧ (mG l (frmN 8) 8 1 a).2.1 = a + 1 + 1 + 1 := by rw [(mG_y rfl (by decide) (by decide) h27).trans ((mG_y rfl (by decide) (by decide) h28).trans ((mG_y rfl (by decide) (by decide) h29).trans (mG_n rfl (by decide) (by decide) h30)))]; exact ⟨rfl, rfl⟩
          refine gq_zret hX hQ dX5_readsUntable_61 rfl rfl ?_
          unfold RdR
          rw [hr.1, hr.2]
          exact ⟨rfl, N, (nI 110), rfl, fun h => by cases h⟩
      · refine gq_callVe hX dX5_readsUntable_27 rfl vX5_248 (mp_reads_n hb (T := T) (N := N) (s := (nI 110)) (a := a + 1 + 1) ht (by omega) (by decide) h29) rfl (mqR0 hb) rfl rfl (Nat.le_of_ble_eq_true rfl) ⟨(Nat.le_of_ble_eq_true rfl), (Nat.le_of_ble_eq_true rfl)⟩ (Nat.zero_add _) (Nat.zero_add _) ?_
        refine gq_if_eqT (tgt := 60) hX dX5_readsUntable_30 rfl rfl ?_
        refine gq_iconst (v := nI 0) hX dX5_readsUntable_60 rfl (by decide) ?_
        have hr : (mG l (frmN 8) 8 1 a).1 = false ∧ (mG l (frmN 8) 8 1 a).2.1 = a + 1 + 1 := by rw [(mG_y rfl (by decide) (by decide) h27).trans ((mG_y rfl (by decide) (by decide) h28).trans (mG_n rfl (by decide) (by decide) h29))]; exact ⟨rfl, rfl⟩
        refine gq_zret hX hQ dX5_readsUntable_61 rfl rfl ?_
        unfold RdR
        rw [hr.1, hr.2]
        exact ⟨rfl, N, (nI 110), rfl, fun h => by cases h⟩
    · refine gq_callVe hX dX5_readsUntable_18 rfl vX5_248 (mp_reads_n hb (T := T) (N := N) (s := (nI 110)) (a := a + 1) ht (by omega) (by decide) h28) rfl (mqR0 hb) rfl rfl (Nat.le_of_ble_eq_true rfl) ⟨(Nat.le_of_ble_eq_true rfl), (Nat.le_of_ble_eq_true rfl)⟩ (Nat.zero_add _) (Nat.zero_add _) ?_
      refine gq_if_eqT (tgt := 60) hX dX5_readsUntable_21 rfl rfl ?_
      refine gq_iconst (v := nI 0) hX dX5_readsUntable_60 rfl (by decide) ?_
      have hr : (mG l (frmN 8) 8 1 a).1 = false ∧ (mG l (frmN 8) 8 1 a).2.1 = a + 1 := by rw [(mG_y rfl (by decide) (by decide) h27).trans (mG_n rfl (by decide) (by decide) h28)]; exact ⟨rfl, rfl⟩
      refine gq_zret hX hQ dX5_readsUntable_61 rfl rfl ?_
      unfold RdR
      rw [hr.1, hr.2]
      exact ⟨rfl, N, (nI 110), rfl, fun h => by cases h⟩
  · refine gq_callVe hX dX5_readsUntable_9 rfl vX5_248 (mp_reads_n hb (T := T) (N := N) (s := (nI 110)) (a := a) ht (by omega) (by decide) h27) rfl (mqR0 hb) rfl rfl (Nat.le_of_ble_eq_true rfl) ⟨(Nat.le_of_ble_eq_true rfl), (Nat.le_of_ble_eq_true rfl)⟩ (Nat.zero_add _) (Nat.zero_add _) ?_
    refine gq_if_eqT (tgt := 60) hX dX5_readsUntable_12 rfl rfl ?_
    refine gq_iconst (v := nI 0) hX dX5_readsUntable_60 rfl (by decide) ?_
    have hr : (mG l (frmN 8) 8 1 a).1 = false ∧ (mG l (frmN 8) 8 1 a).2.1 = a := by rw [mG_n rfl (by decide) (by decide) h27]; exact ⟨rfl, rfl⟩
    refine gq_zret hX hQ dX5_readsUntable_61 rfl rfl ?_
    unfold RdR
    rw [hr.1, hr.2]
    exact ⟨rfl, N, (nI 110), rfl, fun h => by cases h⟩

set_option maxRecDepth 100000 in
set_option maxHeartbeats 4000000 in
theorem mp_rdW {E : Ev} {b : Nat → Nat} {T : St} {w : Nat → Int32} {N : Nat → Int32} {s : Int32} {M : Hp} (hb : Lay E 9 b) {l : Ln} (ht : TxP T l) {a : Nat} (ha : a < 1000) (ha9 : a < 100)  : Ct E mX5_readsWithdraw [.ref (b 0)] (MdW E b (rdT T N a s) w M) (RdR E b T w M (mG l (frmN 9) 9 1 a) s) 0 0 := by
  refine Ct.of gmX5_readsWithdraw (ls := [.ref (b 0)]) rfl rfl (Nat.le_of_ble_eq_true rfl) ?_
  intro X hX Q hQ
  have hl60 := ht.2.1
  refine gq_aload_n hX dX5_readsWithdraw_0 rfl rfl rfl ?_
  refine gq_bipush (v := nI 105) hX dX5_readsWithdraw_1 rfl (by decide) ?_
  rcases Bool.eq_false_or_eq_true (nx l (a) 105) with h35 | h35
  · refine gq_callVe hX dX5_readsWithdraw_3 rfl vX5_248 (mp_reads_y hb (T := T) (N := N) (s := s) (a := a) ht (by omega) h35) rfl (mqR0 hb) rfl rfl (Nat.le_of_ble_eq_true rfl) ⟨(Nat.le_of_ble_eq_true rfl), (Nat.le_of_ble_eq_true rfl)⟩ (Nat.zero_add _) (Nat.zero_add _) ?_
    refine gq_if_eqF (tgt := 54) hX dX5_readsWithdraw_6 rfl rfl (by decide) ?_
    refine gq_aload_n hX dX5_readsWithdraw_9 rfl rfl rfl ?_
    refine gq_bipush (v := nI 116) hX dX5_readsWithdraw_10 rfl (by decide) ?_
    rcases Bool.eq_false_or_eq_true (nx l (a + 1) 116) with h36 | h36
    · refine gq_callVe hX dX5_readsWithdraw_12 rfl vX5_248 (mp_reads_y hb (T := T) (N := N) (s := s) (a := a + 1) ht (by omega) h36) rfl (mqR0 hb) rfl rfl (Nat.le_of_ble_eq_true rfl) ⟨(Nat.le_of_ble_eq_true rfl), (Nat.le_of_ble_eq_true rfl)⟩ (Nat.zero_add _) (Nat.zero_add _) ?_
      refine gq_if_eqF (tgt := 54) hX dX5_readsWithdraw_15 rfl rfl (by decide) ?_
      refine gq_aload_n hX dX5_readsWithdraw_18 rfl rfl rfl ?_
      refine gq_bipush (v := nI 104) hX dX5_readsWithdraw_19 rfl (by decide) ?_
      rcases Bool.eq_false_or_eq_true (nx l (a + 1 + 1) 104) with h37 | h37
      · refine gq_callVe hX dX5_readsWithdraw_21 rfl vX5_248 (mp_reads_y hb (T := T) (N := N) (s := s) (a := a + 1 + 1) ht (by omega) h37) rfl (mqR0 hb) rfl rfl (Nat.le_of_ble_eq_true rfl) ⟨(Nat.le_of_ble_eq_true rfl), (Nat.le_of_ble_eq_true rfl)⟩ (Nat.zero_add _) (Nat.zero_add _) ?_
        refine gq_if_eqF (tgt := 54) hX dX5_readsWithdraw_24 rfl rfl (by decide) ?_
        refine gq_aload_n hX dX5_readsWithdraw_27 rfl rfl rfl ?_
        refine gq_bipush (v := nI 100) hX dX5_readsWithdraw_28 rfl (by decide) ?_
        rcases Bool.eq_false_or_eq_true (nx l (a + 1 + 1 + 1) 100) with h38 | h38
        · refine gq_callVe hX dX5_readsWithdraw_30 rfl vX5_248 (mp_reads_y hb (T := T) (N := N) (s := s) (a := a + 1 + 1 + 1) ht (by omega) h38) rfl (mqR0 hb) rfl rfl (Nat.le_of_ble_eq_true rfl) ⟨(Nat.le_of_ble_eq_true rfl), (Nat.le_of_ble_eq_true rfl)⟩ (Nat.zero_add _) (Nat.zero_add _) ?_
          refine gq_if_eqF (tgt := 54) hX dX5_readsWithdraw_33 rfl rfl (by decide) ?_
          refine gq_aload_n hX dX5_readsWithdraw_36 rfl rfl rfl ?_
          refine gq_bipush (v := nI 114) hX dX5_readsWithdraw_37 rfl (by decide) ?_
          rcases Bool.eq_false_or_eq_true (nx l (a + 1 + 1 + 1 + 1) 114) with h39 | h39
          · refine gq_callVe hX dX5_readsWithdraw_39 rfl vX5_248 (mp_reads_y hb (T := T) (N := N) (s := s) (a := a + 1 + 1 + 1 + 1) ht (by omega) h39) rfl (mqR0 hb) rfl rfl (Nat.le_of_ble_eq_true rfl) ⟨(Nat.le_of_ble_eq_true rfl), (Nat.le_of_ble_eq_true rfl)⟩ (Nat.zero_add _) (Nat.zero_add _) ?_
            refine gq_if_eqF (tgt := 54) hX dX5_readsWithdraw_42 rfl rfl (by decide) ?_
            refine gq_aload_n hX dX5_readsWithdraw_45 rfl rfl rfl ?_
            refine gq_bipush (v := nI 97) hX dX5_readsWithdraw_46 rfl (by decide) ?_
            rcases Bool.eq_false_or_eq_true (nx l (a + 1 + 1 + 1 + 1 + 1) 97) with h40 | h40
            · refine gq_callVe hX dX5_readsWithdraw_48 rfl vX5_248 (mp_reads_y hb (T := T) (N := N) (s := s) (a := a + 1 + 1 + 1 + 1 + 1) ht (by omega) h40) rfl (mqR0 hb) rfl rfl (Nat.le_of_ble_eq_true rfl) ⟨(Nat.le_of_ble_eq_true rfl), (Nat.le_of_ble_eq_true rfl)⟩ (Nat.zero_add _) (Nat.zero_add _) ?_
              refine gq_if_neT (tgt := 56) hX dX5_readsWithdraw_51 rfl (by decide) ?_
              refine gq_aload_n hX dX5_readsWithdraw_56 rfl rfl rfl ?_
              refine gq_bipush (v := nI 119) hX dX5_readsWithdraw_57 rfl (by decide) ?_
              rcases Bool.eq_false_or_eq_true (nx l (a + 1 + 1 + 1 + 1 + 1 + 1) 119) with h41 | h41
              · refine gq_callVe hX dX5_readsWithdraw_59 rfl vX5_248 (mp_reads_y hb (T := T) (N := N) (s := s) (a := a + 1 + 1 + 1 + 1 + 1 + 1) ht (by omega) h41) rfl (mqR0 hb) rfl rfl (Nat.le_of_ble_eq_true rfl) ⟨(Nat.le_of_ble_eq_true rfl), (Nat.le_of_ble_eq_true rfl)⟩ (Nat.zero_add _) (Nat.zero_add _) ?_
                refine gq_if_eqF (tgt := 86) hX dX5_readsWithdraw_62 rfl rfl (by decide) ?_
                refine gq_aload_n hX dX5_readsWithdraw_65 rfl rfl rfl ?_
                refine gq_bipush (v := nI 32) hX dX5_readsWithdraw_66 rfl (by decide) ?_
                rcases Bool.eq_false_or_eq_true (nx l (a + 1 + 1 + 1 + 1 + 1 + 1 + 1) 32) with h42 | h42
                · refine gq_callVe hX dX5_readsWithdraw_68 rfl vX5_248 (mp_reads_y hb (T := T) (N := N) (s := s) (a := a + 1 + 1 + 1 + 1 + 1 + 1 + 1) ht (by omega) h42) rfl (mqR0 hb) rfl rfl (Nat.le_of_ble_eq_true rfl) ⟨(Nat.le_of_ble_eq_true rfl), (Nat.le_of_ble_eq_true rfl)⟩ (Nat.zero_add _) (Nat.zero_add _) ?_
                  refine gq_if_eqF (tgt := 86) hX dX5_readsWithdraw_71 rfl rfl (by decide) ?_
                  refine gq_aload_n hX dX5_readsWithdraw_74 rfl rfl rfl ?_
                  refine gq_iconst (v := nI 0) hX dX5_readsWithdraw_75 rfl (by decide) ?_
                  by_cases h43 : dgt l (a + 1 + 1 + 1 + 1 + 1 + 1 + 1 + 1) = true
                  · have dh43 := dgm_le (l := l) (a := a + 1 + 1 + 1 + 1 + 1 + 1 + 1 + 1) 3
                    refine gq_callVe hX dX5_readsWithdraw_76 rfl vX5_251 (mp_num_y hb (T := T) (N := N) (s := s) (a := a + 1 + 1 + 1 + 1 + 1 + 1 + 1 + 1) ht (by omega) (by decide) h43) rfl (mqR0 hb) rfl rfl (Nat.le_of_ble_eq_true rfl) ⟨(Nat.le_of_ble_eq_true rfl), (Nat.le_of_ble_eq_true rfl)⟩ (Nat.zero_add _) (Nat.zero_add _) ?_
                    refine gq_if_eqF (tgt := 86) hX dX5_readsWithdraw_79 rfl rfl (by decide) ?_
                    refine gq_iconst (v := nI 1) hX dX5_readsWithdraw_82 rfl (by decide) ?_
                    refine gq_goto (tgt := 87) hX dX5_readsWithdraw_83 rfl ?_
                    have hr : mG l (frmN 9) 9 1 a = (true, a + 1 + 1 + 1 + 1 + 1 + 1 + 1 + 1 + dgm l (a + 1 + 1 + 1 + 1 + 1 + 1 + 1 + 1) 3, [valN l (a + 1 + 1 + 1 + 1 + 1 + 1 + 1 + 1) (dgm l (a + 1 + 1 + 1 + 1 + 1 + 1 + 1 + 1) 3)]) := (mG_y rfl (by decide) (by decide) h35).trans ((mG_y rfl (by decide) (by decide) h36).trans ((mG_y rfl (by decide) (by decide) h37).trans ((mG_y rfl (by decide) (by decide) h38).trans ((mG_y rfl (by decide) (by decide) h39).trans ((mG_y rfl (by decide) (by decide) h40).trans ((mG_y rfl (by decide) (by decide) h41).trans ((mG_y rfl (by decide) (by decide) h42).trans (mG_Dy rfl rfl (dgm3_y h43) (rfl)))))))))
                    refine gq_zret hX hQ dX5_readsWithdraw_87 rfl rfl ?_
                    unfold RdR
                    rw [hr]
                    exact ⟨rfl, (upd N 0 (nI (valN l (a + 1 + 1 + 1 + 1 + 1 + 1 + 1 + 1) (dgm l (a + 1 + 1 + 1 + 1 + 1 + 1 + 1 + 1) 3)))), s, rfl, fun _ => ⟨rfl, fun q hq => match q, hq with | 0, _ => upd_s _ _ _ | _ + 1, h => absurd h (by simp)⟩⟩
                  · refine gq_callVe hX dX5_readsWithdraw_76 rfl vX5_251 (mp_num_n hb (T := T) (N := N) (s := s) (a := a + 1 + 1 + 1 + 1 + 1 + 1 + 1 + 1) ht (by omega) h43) rfl (mqR0 hb) rfl rfl (Nat.le_of_ble_eq_true rfl) ⟨(Nat.le_of_ble_eq_true rfl), (Nat.le_of_ble_eq_true rfl)⟩ (Nat.zero_add _) (Nat.zero_add _) ?_
                    refine gq_if_eqT (tgt := 86) hX dX5_readsWithdraw_79 rfl rfl ?_
                    refine gq_iconst (v := nI 0) hX dX5_readsWithdraw_86 rfl (by decide) ?_
                    have hr : (mG l (frmN 9) 9 1 a).1 = false ∧ (mG l (frmN 9) 9 1 a).2.1 = a + 1 + 1 + 1 + 1 + 1 + 1 + 1 + 1 := by rw [(mG_y rfl (by decide) (by decide) h35).trans ((mG_y rfl (by decide) (by decide) h36).trans ((mG_y rfl (by decide) (by decide) h37).trans ((mG_y rfl (by decide) (by decide) h38).trans ((mG_y rfl (by decide) (by decide) h39).trans ((mG_y rfl (by decide) (by decide) h40).trans ((mG_y rfl (by decide) (by decide) h41).trans ((mG_y rfl (by decide) (by decide) h42).trans (mG_Dn rfl (dgm3_n h43)))))))))]; exact ⟨rfl, rfl⟩
                    refine gq_zret hX hQ dX5_readsWithdraw_87 rfl rfl ?_
                    unfold RdR
                    rw [hr.1, hr.2]
                    exact ⟨rfl, N, s, rfl, fun h => by cases h⟩
                · refine gq_callVe hX dX5_readsWithdraw_68 rfl vX5_248 (mp_reads_n hb (T := T) (N := N) (s := s) (a := a + 1 + 1 + 1 + 1 + 1 + 1 + 1) ht (by omega) (by decide) h42) rfl (mqR0 hb) rfl rfl (Nat.le_of_ble_eq_true rfl) ⟨(Nat.le_of_ble_eq_true rfl), (Nat.le_of_ble_eq_true rfl)⟩ (Nat.zero_add _) (Nat.zero_add _) ?_
                  refine gq_if_eqT (tgt := 86) hX dX5_readsWithdraw_71 rfl rfl ?_
                  refine gq_iconst (v := nI 0) hX dX5_readsWithdraw_86 rfl (by decide) ?_
                  have hr : (mG l (frmN 9) 9 1 a).1 = false ∧ (mG l (frmN 9) 9 1 a).2.1 = a + 1 + 1 + 1 + 1 + 1 + 1 + 1 := by rw [(mG_y rfl (by decide) (by decide) h35).trans ((mG_y rfl (by decide) (by decide) h36).trans ((mG_y rfl (by decide) (by decide) h37).trans ((mG_y rfl (by decide) (by decide) h38).trans ((mG_y rfl (by decide) (by decide) h39).trans ((mG_y rfl (by decide) (by decide) h40).trans ((mG_y rfl (by decide) (by decide) h41).trans (mG_n rfl (by decide) (by decide) h42)))))))]; exact ⟨rfl, rfl⟩
                  refine gq_zret hX hQ dX5_readsWithdraw_87 rfl rfl ?_
                  unfold RdR
                  rw [hr.1, hr.2]
                  exact ⟨rfl, N, s, rfl, fun h => by cases h⟩
              · refine gq_callVe hX dX5_readsWithdraw_59 rfl vX5_248 (mp_reads_n hb (T := T) (N := N) (s := s) (a := a + 1 + 1 + 1 + 1 + 1 + 1) ht (by omega) (by decide) h41) rfl (mqR0 hb) rfl rfl (Nat.le_of_ble_eq_true rfl) ⟨(Nat.le_of_ble_eq_true rfl), (Nat.le_of_ble_eq_true rfl)⟩ (Nat.zero_add _) (Nat.zero_add _) ?_
                refine gq_if_eqT (tgt := 86) hX dX5_readsWithdraw_62 rfl rfl ?_
                refine gq_iconst (v := nI 0) hX dX5_readsWithdraw_86 rfl (by decide) ?_
                have hr : (mG l (frmN 9) 9 1 a).1 = false ∧ (mG l (frmN 9) 9 1 a).2.1 = a + 1 + 1 + 1 + 1 + 1 + 1 := by rw [(mG_y rfl (by decide) (by decide) h35).trans ((mG_y rfl (by decide) (by decide) h36).trans ((mG_y rfl (by decide) (by decide) h37).trans ((mG_y rfl (by decide) (by decide) h38).trans ((mG_y rfl (by decide) (by decide) h39).trans ((mG_y rfl (by decide) (by decide) h40).trans (mG_n rfl (by decide) (by decide) h41))))))]; exact ⟨rfl, rfl⟩
                refine gq_zret hX hQ dX5_readsWithdraw_87 rfl rfl ?_
                unfold RdR
                rw [hr.1, hr.2]
                exact ⟨rfl, N, s, rfl, fun h => by cases h⟩
            · refine gq_callVe hX dX5_readsWithdraw_48 rfl vX5_248 (mp_reads_n hb (T := T) (N := N) (s := s) (a := a + 1 + 1 + 1 + 1 + 1) ht (by omega) (by decide) h40) rfl (mqR0 hb) rfl rfl (Nat.le_of_ble_eq_true rfl) ⟨(Nat.le_of_ble_eq_true rfl), (Nat.le_of_ble_eq_true rfl)⟩ (Nat.zero_add _) (Nat.zero_add _) ?_
              refine gq_if_neF (tgt := 56) hX dX5_readsWithdraw_51 rfl rfl rfl ?_
              refine gq_iconst (v := nI 0) hX dX5_readsWithdraw_54 rfl (by decide) ?_
              have hr : (mG l (frmN 9) 9 1 a).1 = false ∧ (mG l (frmN 9) 9 1 a).2.1 = a + 1 + 1 + 1 + 1 + 1 := by rw [(mG_y rfl (by decide) (by decide) h35).trans ((mG_y rfl (by decide) (by decide) h36).trans ((mG_y rfl (by decide) (by decide) h37).trans ((mG_y rfl (by decide) (by decide) h38).trans ((mG_y rfl (by decide) (by decide) h39).trans (mG_n rfl (by decide) (by decide) h40)))))]; exact ⟨rfl, rfl⟩
              refine gq_zret hX hQ dX5_readsWithdraw_55 rfl rfl ?_
              unfold RdR
              rw [hr.1, hr.2]
              exact ⟨rfl, N, s, rfl, fun h => by cases h⟩
          · refine gq_callVe hX dX5_readsWithdraw_39 rfl vX5_248 (mp_reads_n hb (T := T) (N := N) (s := s) (a := a + 1 + 1 + 1 + 1) ht (by omega) (by decide) h39) rfl (mqR0 hb) rfl rfl (Nat.le_of_ble_eq_true rfl) ⟨(Nat.le_of_ble_eq_true rfl), (Nat.le_of_ble_eq_true rfl)⟩ (Nat.zero_add _) (Nat.zero_add _) ?_
            refine gq_if_eqT (tgt := 54) hX dX5_readsWithdraw_42 rfl rfl ?_
            refine gq_iconst (v := nI 0) hX dX5_readsWithdraw_54 rfl (by decide) ?_
            have hr : (mG l (frmN 9) 9 1 a).1 = false ∧ (mG l (frmN 9) 9 1 a).2.1 = a + 1 + 1 + 1 + 1 := by rw [(mG_y rfl (by decide) (by decide) h35).trans ((mG_y rfl (by decide) (by decide) h36).trans ((mG_y rfl (by decide) (by decide) h37).trans ((mG_y rfl (by decide) (by decide) h38).trans (mG_n rfl (by decide) (by decide) h39))))]; exact ⟨rfl, rfl⟩
            refine gq_zret hX hQ dX5_readsWithdraw_55 rfl rfl ?_
            unfold RdR
            rw [hr.1, hr.2]
            exact ⟨rfl, N, s, rfl, fun h => by cases h⟩
        · refine gq_callVe hX dX5_readsWithdraw_30 rfl vX5_248 (mp_reads_n hb (T := T) (N := N) (s := s) (a := a + 1 + 1 + 1) ht (by omega) (by decide) h38) rfl (mqR0 hb) rfl rfl (Nat.le_of_ble_eq_true rfl) ⟨(Nat.le_of_ble_eq_true rfl), (Nat.le_of_ble_eq_true rfl)⟩ (Nat.zero_add _) (Nat.zero_add _) ?_
          refine gq_if_eqT (tgt := 54) hX dX5_readsWithdraw_33 rfl rfl ?_
          refine gq_iconst (v := nI 0) hX dX5_readsWithdraw_54 rfl (by decide) ?_
          have hr : (mG l (frmN 9) 9 1 a).1 = false ∧ (mG l (frmN 9) 9 1 a).2.1 = a + 1 + 1 + 1 := by rw [(mG_y rfl (by decide) (by decide) h35).trans ((mG_y rfl (by decide) (by decide) h36).trans ((mG_y rfl (by decide) (by decide) h37).trans (mG_n rfl (by decide) (by decide) h38)))]; exact ⟨rfl, rfl⟩
          refine gq_zret hX hQ dX5_readsWithdraw_55 rfl rfl ?_
          unfold RdR
          rw [hr.1, hr.2]
          exact ⟨rfl, N, s, rfl, fun h => by cases h⟩
      · refine gq_callVe hX dX5_readsWithdraw_21 rfl vX5_248 (mp_reads_n hb (T := T) (N := N) (s := s) (a := a + 1 + 1) ht (by omega) (by decide) h37) rfl (mqR0 hb) rfl rfl (Nat.le_of_ble_eq_true rfl) ⟨(Nat.le_of_ble_eq_true rfl), (Nat.le_of_ble_eq_true rfl)⟩ (Nat.zero_add _) (Nat.zero_add _) ?_
        refine gq_if_eqT (tgt := 54) hX dX5_readsWithdraw_24 rfl rfl ?_
        refine gq_iconst (v := nI 0) hX dX5_readsWithdraw_54 rfl (by decide) ?_
        have hr : (mG l (frmN 9) 9 1 a).1 = false ∧ (mG l (frmN 9) 9 1 a).2.1 = a + 1 + 1 := by rw [(mG_y rfl (by decide) (by decide) h35).trans ((mG_y rfl (by decide) (by decide) h36).trans (mG_n rfl (by decide) (by decide) h37))]; exact ⟨rfl, rfl⟩
        refine gq_zret hX hQ dX5_readsWithdraw_55 rfl rfl ?_
        unfold RdR
        rw [hr.1, hr.2]
        exact ⟨rfl, N, s, rfl, fun h => by cases h⟩
    · refine gq_callVe hX dX5_readsWithdraw_12 rfl vX5_248 (mp_reads_n hb (T := T) (N := N) (s := s) (a := a + 1) ht (by omega) (by decide) h36) rfl (mqR0 hb) rfl rfl (Nat.le_of_ble_eq_true rfl) ⟨(Nat.le_of_ble_eq_true rfl), (Nat.le_of_ble_eq_true rfl)⟩ (Nat.zero_add _) (Nat.zero_add _) ?_
      refine gq_if_eqT (tgt := 54) hX dX5_readsWithdraw_15 rfl rfl ?_
      refine gq_iconst (v := nI 0) hX dX5_readsWithdraw_54 rfl (by decide) ?_
      have hr : (mG l (frmN 9) 9 1 a).1 = false ∧ (mG l (frmN 9) 9 1 a).2.1 = a + 1 := by rw [(mG_y rfl (by decide) (by decide) h35).trans (mG_n rfl (by decide) (by decide) h36)]; exact ⟨rfl, rfl⟩
      refine gq_zret hX hQ dX5_readsWithdraw_55 rfl rfl ?_
      unfold RdR
      rw [hr.1, hr.2]
      exact ⟨rfl, N, s, rfl, fun h => by cases h⟩
  · refine gq_callVe hX dX5_readsWithdraw_3 rfl vX5_248 (mp_reads_n hb (T := T) (N := N) (s := s) (a := a) ht (by omega) (by decide) h35) rfl (mqR0 hb) rfl rfl (Nat.le_of_ble_eq_true rfl) ⟨(Nat.le_of_ble_eq_true rfl), (Nat.le_of_ble_eq_true rfl)⟩ (Nat.zero_add _) (Nat.zero_add _) ?_
    refine gq_if_eqT (tgt := 54) hX dX5_readsWithdraw_6 rfl rfl ?_
    refine gq_iconst (v := nI 0) hX dX5_readsWithdraw_54 rfl (by decide) ?_
    have hr : (mG l (frmN 9) 9 1 a).1 = false ∧ (mG l (frmN 9) 9 1 a).2.1 = a := by rw [mG_n rfl (by decide) (by decide) h35]; exact ⟨rfl, rfl⟩
    refine gq_zret hX hQ dX5_readsWithdraw_55 rfl rfl ?_
    unfold RdR
    rw [hr.1, hr.2]
    exact ⟨rfl, N, s, rfl, fun h => by cases h⟩

