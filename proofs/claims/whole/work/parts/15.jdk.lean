theorem nJ7_304 : Cond.methodLink RJ7 304 Lib.Math.min.name ∈ goodT := in5 59 rfl rfl
theorem nJ5_138 : Cond.methodLink RJ5 138 Lib.Math.min.name ∈ goodT := in5 193 rfl rfl
theorem nJ8_194 : Cond.methodLink RJ8 194 Lib.Math.max.name ∈ goodT := in5 41 rfl rfl
theorem uJ5_100 : CallU RJ5 100 mJ5_ensureCapacityInternal_d00df := ⟨gmJ5_ensureCapacityInternal_d00df, in5 30 rfl rfl, in9 142 rfl rfl, in5 32 rfl rfl, Or.inr (List.mem_filter.mpr ⟨chk_in 5 31 _ rfl, rfl⟩), rfl⟩
theorem uJ5_104 : CallU RJ5 104 mJ5_newCapacity_0f7a4 := ⟨gmJ5_newCapacity_0f7a4, in5 34 rfl rfl, in9 143 rfl rfl, in5 36 rfl rfl, Or.inr (List.mem_filter.mpr ⟨chk_in 5 35 _ rfl, rfl⟩), rfl⟩
theorem uJ5_83 : CallU RJ5 83 mJ5_isLatin1_aae02 := ⟨gmJ5_isLatin1_aae02, in5 63 rfl rfl, in5 65 rfl rfl, in5 64 rfl rfl, Or.inl (in5 66 rfl rfl), rfl⟩
theorem zJ4_50 : CallZ RJ4 50 mJ5_append_3fe6f := ⟨gmJ5_append_3fe6f, in5 27 rfl rfl, in9 141 rfl rfl, in1 201 rfl rfl, in5 28 rfl rfl, by decide⟩
theorem zJ4_53 : CallZ RJ4 53 mJ5_append_c97b9 := ⟨gmJ5_append_c97b9, in6 23 rfl rfl, in9 151 rfl rfl, in1 201 rfl rfl, in6 24 rfl rfl, by decide⟩
theorem zJ4_329 : CallZ RJ4 329 mJ5_charAt_5068e := ⟨gmJ5_charAt_5068e, in5 190 rfl rfl, in9 145 rfl rfl, in1 201 rfl rfl, in5 191 rfl rfl, by decide⟩
theorem zJ4_333 : CallZ RJ4 333 mJ5_setLength_d00df := ⟨gmJ5_setLength_d00df, in5 209 rfl rfl, in9 146 rfl rfl, in1 201 rfl rfl, in5 210 rfl rfl, by decide⟩
theorem zJ4_343 : CallZ RJ4 343 mJ5_length_8abf5 := ⟨gmJ5_length_8abf5, in5 15 rfl rfl, in9 140 rfl rfl, in1 201 rfl rfl, in5 16 rfl rfl, by decide⟩
theorem lkJ5_18 : Cond.fieldLink RJ5 18 "java/lang/String" "COMPACT_STRINGS" "Z" ∈ goodT := in1 179 rfl rfl
theorem lkJ0_38 : Cond.fieldLink RJ0 38 "java/lang/String" "COMPACT_STRINGS" "Z" ∈ goodT := in5 159 rfl rfl
theorem lkJ0_9 : Cond.fieldLink RJ0 9 "java/lang/String" "value" "[B" ∈ goodT := in6 90 rfl rfl
theorem lkJ0_15 : Cond.fieldLink RJ0 15 "java/lang/String" "coder" "B" ∈ goodT := in6 91 rfl rfl
theorem lkJ0_1053 : Cond.fieldLink RJ0 1053 "jdk/internal/util/Preconditions" "SIOOBE_FORMATTER" "Ljava/util/function/BiFunction;" ∈ goodT := in5 90 rfl rfl
theorem lkJ6_83 : Cond.fieldLink RJ6 83 "java/lang/Integer" "DigitOnes" "[B" ∈ goodT := in6 32 rfl rfl
theorem lkJ6_87 : Cond.fieldLink RJ6 87 "java/lang/Integer" "DigitTens" "[B" ∈ goodT := in6 34 rfl rfl
theorem kJ8_200 : Cond.constant RJ8 200 (2147483639 : Int32) ∈ goodT := in5 44 rfl rfl
theorem kJ5_39 : Cond.constant RJ5 39 (2147483647 : Int32) ∈ goodT := in5 48 rfl rfl
theorem acL : Cond.methodLink RJ7 150 arraycopyName ∈ goodT := in5 60 rfl rfl
theorem acN : Cond.native arraycopyName ∈ goodT := in5 62 rfl rfl
theorem acS : Cond.static arraycopyName ∈ goodT := in5 61 rfl rfl
theorem acI : Cond.initialized "java/lang/System" ∈ goodT := in1 23 rfl rfl
section LJE
variable {E : Ev} {X : Cx0} {μ : Mth} {Q : State → Prop} {pc q : Nat} {ls st : List Value} {M : Hp} {nc ns : Nat}
theorem gq_callUe (hX : Cx E X μ) {idx a : Nat} {μ2 : Mth} {As rest fs : List Value} {mc ms nc1 ns1 : Nat} {r : Option Value} {M2 : Hp} (d : decode μ.2.1 pc = .ok (.invokevirtual idx, 3)) (hq : pc + 3 = q) (hc : CallU μ.1.cls idx μ2) (hct : Ct E μ2 (.ref a :: As) M (eqR r M2) mc ms) (hst : st = As.reverse ++ .ref a :: rest) (hM : M a = some (.inr (1, fs))) (hnp : As.length = μ2.2.2.2.2.1) (hw : (rest.map fun v => v.category).sum ≤ 8) (hd : μ2.2.2.2.2.2.1 < μ.2.2.2.2.2.1 ∧ μ2.2.2.1 ≤ 45) (hnc : mc + nc1 = nc) (hns : ms + ns1 = ns)
    (kk : Gq E X μ Q q ls (r.toList ++ rest) M2 nc1 ns1) : Gq E X μ Q pc ls st M nc ns := by
  subst hq
  refine gq_callU hX d hc hct hst hM hnp hw hd hnc hns ?_
  rintro v M1 ⟨rfl, rfl⟩
  exact kk
end LJE
theorem ish0 (x : Int32) : x >>> ((0 : Int32) &&& 31) = x := sb_shr0 x
theorem isl0 (x : Int32) : x <<< ((0 : Int32) &&& 31) = x := sb_shl0 x
theorem i0 : (nI 0 : Int32) = 0 := rfl
theorem nI_if {a b : Nat} (ha : a < 2 ^ 31) (hb : b < 2 ^ 31) : (if nI a < nI b then nI b else nI a) = nI (if a < b then b else a) := by
  by_cases h : a < b
  · rw [if_pos (nI_lt h hb), if_pos h]
  · rw [if_neg (nI_nlt (by omega) ha), if_neg h]
/-- a StringBuilder at a: its n letters t, its bytes at v, m of them -/
def SbP (E : Ev) (a : Nat) (t : Nat → Nat) (n v m : Nat) (M : Hp) : Prop := (∃ z : Int32, M a = some (.inr (1, [.ref v, .int 0, .int z, .int (nI n)]))) ∧ (∃ f : Nat → Int32, M v = some (.inl (E.2.2.2.1 5, m, .inl f)) ∧ (∀ i, fits .byte (.int (f i)) = true) ∧ ∀ i, i < n → f i = nI (t i) ∧ t i < 128) ∧ n ≤ m ∧ m ≤ 142 ∧ a ≠ v ∧ E.2.2.1 ≤ a ∧ E.2.2.1 ≤ v
/-- .. and the rest of the world is that of M -/
def SbN (E : Ev) (a v : Nat) (t : Nat → Nat) (n : Nat) (M : Hp) : Hp → Prop := fun M1 => ∃ v' m', SbP E a t n v' m' M1 ∧ (v' = v ∨ M v' = none) ∧ ∀ q, q ≠ a → q ≠ v → q ≠ v' → M1 q = M q
theorem fits_byte {n : Nat} (h : n < 128) : fits .byte (.int (nI n)) = true := by
  have : ∀ k : Fin 128, fits .byte (.int (nI k.1)) = true := by decide +kernel
  exact this ⟨n, h⟩
theorem fits_byte0 : fits .byte (.int 0) = true := by decide

set_option maxRecDepth 100000 in
set_option maxHeartbeats 4000000 in
theorem ct_isL {E : Ev} {M : Hp} {a v : Nat} {z c : Int32} (ha : M a = some (.inr (1, [.ref v, .int 0, .int z, .int c]))) : Ct E mJ5_isLatin1_aae02 [.ref a] M (eqR (some (.int (nI 1))) M) 0 0 := by
  refine Ct.of gmJ5_isLatin1_aae02 (ls := [.ref a]) rfl rfl (Nat.le_of_ble_eq_true rfl) ?_
  intro X hX Q hQ
  refine gq_getsC hX dJ5_isLatin1_aae02_0 rfl lkJ5_18 ?_
  refine gq_if_eqF (tgt := 17) hX dJ5_isLatin1_aae02_3 rfl rfl (by decide) ?_
  refine gq_aload_n hX dJ5_isLatin1_aae02_6 rfl rfl rfl ?_
  refine gq_getf hX dJ5_isLatin1_aae02_7 rfl fJ5_22 ha rfl ?_
  refine gq_if_neF (tgt := 17) hX dJ5_isLatin1_aae02_10 rfl rfl (by decide) ?_
  refine gq_iconst (v := nI 1) hX dJ5_isLatin1_aae02_13 rfl (by decide) ?_
  refine gq_goto (tgt := 18) hX dJ5_isLatin1_aae02_14 rfl ?_
  exact gq_zret hX hQ dJ5_isLatin1_aae02_18 rfl (by decide) ⟨rfl, rfl⟩

set_option maxRecDepth 100000 in
set_option maxHeartbeats 4000000 in
theorem ct_sbLen5 {E : Ev} {M : Hp} {a v : Nat} {z c : Int32} (ha : M a = some (.inr (1, [.ref v, .int 0, .int z, .int c]))) : Ct E mJ5_length_8abf5 [.ref a] M (eqR (some (.int c)) M) 0 0 := by
  refine Ct.of gmJ5_length_8abf5 (ls := [.ref a]) rfl rfl (Nat.le_of_ble_eq_true rfl) ?_
  intro X hX Q hQ
  refine gq_aload_n hX dJ5_length_8abf5_0 rfl rfl rfl ?_
  refine gq_getf hX dJ5_length_8abf5_1 rfl fJ5_79 ha rfl ?_
  exact gq_iret hX hQ dJ5_length_8abf5_4 rfl ⟨rfl, rfl⟩

set_option maxRecDepth 100000 in
set_option maxHeartbeats 4000000 in
theorem ct_newLength {E : Ev} {M : Hp} {o g p : Nat} (ho : 0 < o + p) (ho1 : o < 10000) (hg : g < 10000) (hp : p < 10000) : Ct E mJ8_newLength_cabcc [.int (nI o), .int (nI g), .int (nI p)] M (eqR (some (.int (nI (o + (if g < p then p else g))))) M) 0 0 := by
  refine Ct.of gmJ8_newLength_cabcc (ls := [.int (nI o), .int (nI g), .int (nI p), hole]) rfl rfl (Nat.le_of_ble_eq_true rfl) ?_
  intro X hX Q hQ
  refine gq_iload_n hX dJ8_newLength_cabcc_0 rfl rfl rfl ?_
  refine gq_iload_n hX dJ8_newLength_cabcc_1 rfl rfl rfl ?_
  refine gq_iload_n hX dJ8_newLength_cabcc_2 rfl rfl rfl ?_
  refine gq_mmax hX dJ8_newLength_cabcc_3 rfl nJ8_194 (Nat.le_of_ble_eq_true rfl) (Nat.le_of_ble_eq_true rfl) ?_
  rw [nI_if (by omega) (by omega)]
  refine gq_iadd hX dJ8_newLength_cabcc_6 rfl ?_
  rw [nI_add]
  refine gq_istore_n hX dJ8_newLength_cabcc_7 rfl rfl (Nat.le_of_ble_eq_true rfl) rfl ?_
  refine gq_iconst (v := nI 0) hX dJ8_newLength_cabcc_8 rfl (by decide) ?_
  refine gq_iload_n hX dJ8_newLength_cabcc_9 rfl rfl rfl ?_
  refine gq_icmp_geF (tgt := 21) hX dJ8_newLength_cabcc_10 rfl rfl (nI_nle (by split <;> omega) (by split <;> omega)) ?_
  refine gq_iload_n hX dJ8_newLength_cabcc_13 rfl rfl rfl ?_
  refine gq_ldcI hX kJ8_200 dJ8_newLength_cabcc_14 rfl ?_
  refine gq_icmp_gtF (tgt := 21) hX dJ8_newLength_cabcc_16 rfl rfl (show ¬ nI 2147483639 < nI _ from nI_nlt (by split <;> omega) (by omega)) ?_
  refine gq_iload_n hX dJ8_newLength_cabcc_19 rfl rfl rfl ?_
  exact gq_iret hX hQ dJ8_newLength_cabcc_20 rfl ⟨rfl, rfl⟩

set_option maxRecDepth 100000 in
set_option maxHeartbeats 4000000 in
theorem ct_newCap {E : Ev} {M : Hp} {a v x m : Nat} {z c : Int32} {f : Nat → Int32} (ha : M a = some (.inr (1, [.ref v, .int 0, .int z, .int c]))) (hv : M v = some (.inl (E.2.2.2.1 5, m, .inl f))) (hm : m < 5000) (hx : m < x) (hx2 : x < 5000) : Ct E mJ5_newCapacity_0f7a4 [.ref a, .int (nI x)] M (eqR (some (.int (nI (m + (if x - m < m + 2 then m + 2 else x - m))))) M) 0 0 := by
  refine Ct.of gmJ5_newCapacity_0f7a4 (ls := [.ref a, .int (nI x), hole, hole, hole, hole]) rfl rfl (Nat.le_of_ble_eq_true rfl) ?_
  intro X hX Q hQ
  refine gq_aload_n hX dJ5_newCapacity_0f7a4_0 rfl rfl rfl ?_
  refine gq_getf hX dJ5_newCapacity_0f7a4_1 rfl fJ5_15 ha rfl ?_
  refine gq_alen (t := 5) hX dJ5_newCapacity_0f7a4_4 rfl hv rfl ?_
  refine gq_istore_n hX dJ5_newCapacity_0f7a4_5 rfl rfl (Nat.le_of_ble_eq_true rfl) rfl ?_
  refine gq_iload_n hX dJ5_newCapacity_0f7a4_6 rfl rfl rfl ?_
  refine gq_aload_n hX dJ5_newCapacity_0f7a4_7 rfl rfl rfl ?_
  refine gq_getf hX dJ5_newCapacity_0f7a4_8 rfl fJ5_22 ha rfl ?_
  refine gq_ishl hX dJ5_newCapacity_0f7a4_11 rfl ?_
  rw [isl0]
  refine gq_istore_n hX dJ5_newCapacity_0f7a4_12 rfl rfl (Nat.le_of_ble_eq_true rfl) rfl ?_
  refine gq_iload_n hX dJ5_newCapacity_0f7a4_13 rfl rfl rfl ?_
  refine gq_iload_n hX dJ5_newCapacity_0f7a4_14 rfl rfl rfl ?_
  refine gq_isub hX dJ5_newCapacity_0f7a4_15 rfl ?_
  rw [pk_sub (by omega)]
  refine gq_istore hX dJ5_newCapacity_0f7a4_16 rfl (Nat.le_of_ble_eq_true rfl) rfl ?_
  refine gq_iload_n hX dJ5_newCapacity_0f7a4_18 rfl rfl rfl ?_
  refine gq_iload hX dJ5_newCapacity_0f7a4_19 rfl rfl ?_
  refine gq_iload_n hX dJ5_newCapacity_0f7a4_21 rfl rfl rfl ?_
  refine gq_iconst (v := nI 2) hX dJ5_newCapacity_0f7a4_22 rfl (by decide) ?_
  refine gq_aload_n hX dJ5_newCapacity_0f7a4_23 rfl rfl rfl ?_
  refine gq_getf hX dJ5_newCapacity_0f7a4_24 rfl fJ5_22 ha rfl ?_
  refine gq_ishl hX dJ5_newCapacity_0f7a4_27 rfl ?_
  rw [isl0]
  refine gq_iadd hX dJ5_newCapacity_0f7a4_28 rfl ?_
  rw [nI_add]
  refine gq_callSe hX dJ5_newCapacity_0f7a4_29 rfl vJ5_114 (ct_newLength (o := m) (g := x - m) (p := m + 2) (by omega) (by omega) (by omega) (by omega)) rfl rfl (Nat.le_of_ble_eq_true rfl) ⟨(Nat.le_of_ble_eq_true rfl), (Nat.le_of_ble_eq_true rfl)⟩ (Nat.zero_add _) (Nat.zero_add _) ?_
  refine gq_istore hX dJ5_newCapacity_0f7a4_32 rfl (Nat.le_of_ble_eq_true rfl) rfl ?_
  refine gq_iload hX dJ5_newCapacity_0f7a4_34 rfl rfl ?_
  refine gq_ldcI hX kJ5_39 dJ5_newCapacity_0f7a4_36 rfl ?_
  refine gq_icmp_neT (tgt := 51) hX dJ5_newCapacity_0f7a4_38 rfl (fun e => by have := (nI_eq (by split <;> omega) (by omega)).mp (show nI _ = nI 2147483647 from e); split at this <;> omega) ?_
  refine gq_iload hX dJ5_newCapacity_0f7a4_51 rfl rfl ?_
  refine gq_aload_n hX dJ5_newCapacity_0f7a4_53 rfl rfl rfl ?_
  refine gq_getf hX dJ5_newCapacity_0f7a4_54 rfl fJ5_22 ha rfl ?_
  refine gq_ishr hX dJ5_newCapacity_0f7a4_57 rfl ?_
  rw [ish0]
  exact gq_iret hX hQ dJ5_newCapacity_0f7a4_58 rfl ⟨rfl, rfl⟩

set_option maxRecDepth 100000 in
set_option maxHeartbeats 4000000 in
theorem ct_copyOf {E : Ev} {M : Hp} {v x m : Nat} {f : Nat → Int32} (hv : M v = some (.inl (E.2.2.2.1 5, m, .inl f))) (hva : E.2.2.1 ≤ v) (hf : ∀ i, fits .byte (.int (f i)) = true) (hx : m < x) (hx2 : x < 5000) : Ct E mJ7_copyOf_9075b [.ref v, .int (nI x)] M (fun r M1 => ∃ v1, r = some (.ref v1) ∧ M v1 = none ∧ E.2.2.1 ≤ v1 ∧ M1 v1 = some (.inl (E.2.2.2.1 5, x, .inl (va_cpy f (fun _ => 0) 0 0 m))) ∧ ∀ q, q ≠ v1 → M1 q = M q) 1 x := by
  refine Ct.of gmJ7_copyOf_9075b (ls := [.ref v, .int (nI x), hole]) rfl rfl (Nat.le_of_ble_eq_true rfl) ?_
  intro X hX Q hQ
  refine gq_iload_n hX dJ7_copyOf_9075b_0 rfl rfl rfl ?_
  refine gq_aload_n hX dJ7_copyOf_9075b_1 rfl rfl rfl ?_
  refine gq_alen (t := 5) hX dJ7_copyOf_9075b_2 rfl hv rfl ?_
  refine gq_icmp_neT (tgt := 14) hX dJ7_copyOf_9075b_3 rfl (fun e => by have := (nI_eq (by omega) (by omega)).mp e; omega) ?_
  refine gq_iload_n hX dJ7_copyOf_9075b_14 rfl rfl rfl ?_
  refine gq_newa (fty := .byte) (t := 5) (N := x) (a0 := (x, .inl (fun _ => 0))) (nc1 := 0) (ns1 := 0) hX dJ7_copyOf_9075b_15 rfl rfl (in1 202 rfl rfl) rfl (fun _ _ h => h) (fun _ => rfl) (nI_pos (by omega)) (nI_clamp (by omega)) (by show x * 1 ≤ _; omega) rfl (Nat.zero_add _) ?_
  intro v1 hv1 hv1a
  have hne : v ≠ v1 := fun e => by rw [← e, hv] at hv1; cases hv1
  refine gq_astore_n hX dJ7_copyOf_9075b_17 rfl rfl (Nat.le_of_ble_eq_true rfl) rfl ?_
  refine gq_aload_n hX dJ7_copyOf_9075b_18 rfl rfl rfl ?_
  refine gq_iconst (v := 0) hX dJ7_copyOf_9075b_19 rfl (by decide) ?_
  refine gq_aload_n hX dJ7_copyOf_9075b_20 rfl rfl rfl ?_
  refine gq_iconst (v := 0) hX dJ7_copyOf_9075b_21 rfl (by decide) ?_
  refine gq_aload_n hX dJ7_copyOf_9075b_22 rfl rfl rfl ?_
  refine gq_alen (t := 5) hX dJ7_copyOf_9075b_23 rfl ((hput_n hne).trans hv) rfl ?_
  refine gq_iload_n hX dJ7_copyOf_9075b_24 rfl rfl rfl ?_
  refine gq_mmin hX dJ7_copyOf_9075b_25 rfl nJ7_304 (Nat.le_of_ble_eq_true rfl) (Nat.le_of_ble_eq_true rfl) ?_
  rw [if_neg (nI_nlt (by omega) (by omega))]
  refine gq_acb hX acL acN acS acI dJ7_copyOf_9075b_28 rfl ((hput_n hne).trans hv) (hput_s _ _ _) hne hva hv1a (Nat.le_refl _) (by omega) (by omega) (fun i _ => hf i) (Nat.le_of_ble_eq_true rfl) (Nat.le_of_ble_eq_true rfl) rfl ?_
  refine gq_aload_n hX dJ7_copyOf_9075b_31 rfl rfl rfl ?_
  exact gq_aret hX hQ dJ7_copyOf_9075b_32 rfl (Or.inr ⟨_, rfl⟩) ⟨v1, rfl, hv1, hv1a, hput_s _ _ _, fun q hq => by rw [hput_n hq, hput_n hq]⟩

