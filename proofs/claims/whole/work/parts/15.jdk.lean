theorem nJ7_304 : Cond.methodLink RJ7 304 Lib.Math.min.name ∈ goodT := in5 59 rfl rfl
theorem nJ5_138 : Cond.methodLink RJ5 138 Lib.Math.min.name ∈ goodT := in5 193 rfl rfl
theorem nJ8_194 : Cond.methodLink RJ8 194 Lib.Math.max.name ∈ goodT := in5 41 rfl rfl
theorem uJ5_100 : CallU RJ5 100 mJ5_ensureCapacityInternal_d00df := ⟨gmJ5_ensureCapacityInternal_d00df, in5 30 rfl rfl, in9 142 rfl rfl, in5 32 rfl rfl, Or.inr (List.mem_filter.mpr ⟨chk_in 5 31 _ rfl, rfl⟩), rfl⟩
theorem uJ5_104 : CallU RJ5 104 mJ5_newCapacity_0f7a4 := ⟨gmJ5_newCapacity_0f7a4, in5 34 rfl rfl, in9 143 rfl rfl, in5 36 rfl rfl, Or.inr (List.mem_filter.mpr ⟨chk_in 5 35 _ rfl, rfl⟩), rfl⟩
theorem uJ5_83 : CallU RJ5 83 mJ5_isLatin1_aae02 := ⟨gmJ5_isLatin1_aae02, in5 63 rfl rfl, in5 65 rfl rfl, in5 64 rfl rfl, Or.inl (in5 66 rfl rfl), rfl⟩
theorem zJ4_50 : CallZ RJ4 50 mJ5_append_3fe6f := ⟨gmJ5_append_3fe6f, in5 27 rfl rfl, in9 141 rfl rfl, in1 201 rfl rfl, in5 28 rfl rfl, by decide⟩
theorem zJ4_53 : CallZ RJ4 53 mJ5_append_c97b9 := ⟨gmJ5_append_c97b9, in6 23 rfl rfl, in9 151 rfl rfl, in1 201 rfl rfl, in6 24 rfl rfl, by decide⟩
theorem zJ4_329 : CallZ RJ4 329 mJ5_charAt_5068e := ⟨gmJ5_charAt_5068e, in5 190 rfl rfl, in9 145 rfl rfl, in1 201 rfl rfl, in5 191 rfl rfl, by decide⟩
theorem zJ4_333 : CallZ RJ4 333 mJ5_setLength_d00df := ⟨gmJ5_setLength_d00df, in5 209 rfl rfl, in9 146 rfl rfl, in1 201 rfl rfl, in5 210 rfl rfl, by decide⟩
theorem zJ4_343 : CallZ RJ4 343 mJ5_length_8abf5 := ⟨gmJ5_length_8abf5, in5 15 rfl rfl, in9 140 rfl rfl, in1 201 rfl rfl, in5 16 rfl rfl, by decide⟩
theorem lkJ5_18 : Cond.fieldLink RJ5 18 "java/lang/String" "COMPACT_STRINGS" "Z" ∈ goodT := in1 179 rfl rfl
theorem lkJ0_38 : Cond.fieldLink RJ0 38 "java/lang/String" "COMPACT_STRINGS" "Z" ∈ goodT := in5 159 rfl rfl
theorem lkJ0_9 : Cond.fieldLink RJ0 9 "java/lang/String" "value" "[B" ∈ goodT := in6 90 rfl rfl
theorem lkJ0_15 : Cond.fieldLink RJ0 15 "java/lang/String" "coder" "B" ∈ goodT := in6 91 rfl rfl
theorem lkJ0_1053 : Cond.fieldLink RJ0 1053 "jdk/internal/util/Preconditions" "SIOOBE_FORMATTER" "Ljava/util/function/BiFunction;" ∈ goodT := in5 90 rfl rfl
theorem lkJ6_83 : Cond.fieldLink RJ6 83 "java/lang/Integer" "DigitOnes" "[B" ∈ goodT := in6 32 rfl rfl
theorem lkJ6_87 : Cond.fieldLink RJ6 87 "java/lang/Integer" "DigitTens" "[B" ∈ goodT := in6 34 rfl rfl
theorem kJ8_200 : Cond.constant RJ8 200 (2147483639 : Int32) ∈ goodT := in5 44 rfl rfl
theorem kJ5_39 : Cond.constant RJ5 39 (2147483647 : Int32) ∈ goodT := in5 48 rfl rfl
theorem acL : Cond.methodLink RJ7 150 arraycopyName ∈ goodT := in5 60 rfl rfl
theorem acN : Cond.native arraycopyName ∈ goodT := in5 62 rfl rfl
theorem acS : Cond.static arraycopyName ∈ goodT := in5 61 rfl rfl
theorem acI : Cond.initialized "java/lang/System" ∈ goodT := in1 23 rfl rfl
section LJE
variable {E : Ev} {X : Cx0} {μ : Mth} {Q : State → Prop} {pc q : Nat} {ls st : List Value} {M : Hp} {nc ns : Nat}
theorem gq_callUe (hX : Cx E X μ) {idx a : Nat} {μ2 : Mth} {As rest fs : List Value} {mc ms nc1 ns1 : Nat} {r : Option Value} {M2 : Hp} (d : decode μ.2.1 pc = .ok (.invokevirtual idx, 3)) (hq : pc + 3 = q) (hc : CallU μ.1.cls idx μ2) (hct : Ct E μ2 (.ref a :: As) M (eqR r M2) mc ms) (hst : st = As.reverse ++ .ref a :: rest) (hM : M a = some (.inr (1, fs))) (hnp : As.length = μ2.2.2.2.2.1) (hw : (rest.map fun v => v.category).sum ≤ 8) (hd : μ2.2.2.2.2.2.1 < μ.2.2.2.2.2.1 ∧ μ2.2.2.1 ≤ 45) (hnc : mc + nc1 = nc) (hns : ms + ns1 = ns)
    (kk : Gq E X μ Q q ls (r.toList ++ rest) M2 nc1 ns1) : Gq E X μ Q pc ls st M nc ns := by
  subst hq
  refine gq_callU hX d hc hct hst hM hnp hw hd hnc hns ?_
  rintro v M1 ⟨rfl, rfl⟩
  exact kk
end LJE
theorem ish0 (x : Int32) : x >>> ((0 : Int32) &&& 31) = x := sb_shr0 x
theorem isl0 (x : Int32) : x <<< ((0 : Int32) &&& 31) = x := sb_shl0 x
theorem i0 : (nI 0 : Int32) = 0 := rfl
theorem nI_if {a b : Nat} (ha : a < 2 ^ 31) (hb : b < 2 ^ 31) : (if nI a < nI b then nI b else nI a) = nI (if a < b then b else a) := by
  by_cases h : a < b
  · rw [if_pos (nI_lt h hb), if_pos h]
  · rw [if_neg (nI_nlt (by omega) ha), if_neg h]
/-- a StringBuilder at a: its n letters t, its bytes at v, m of them -/
def SbP (E : Ev) (a : Nat) (t : Nat → Nat) (n v m : Nat) (M : Hp) : Prop := (∃ z : Int32, M a = some (.inr (1, [.ref v, .int 0, .int z, .int (nI n)]))) ∧ (∃ f : Nat → Int32, M v = some (.inl (E.2.2.2.1 5, m, .inl f)) ∧ (∀ i, fits .byte (.int (f i)) = true) ∧ ∀ i, i < n → f i = nI (t i) ∧ t i < 128) ∧ n ≤ m ∧ m ≤ 142 ∧ a ≠ v ∧ E.2.2.1 ≤ a ∧ E.2.2.1 ≤ v
/-- .. and the rest of the world is that of M -/
def SbN (E : Ev) (a v : Nat) (t : Nat → Nat) (n : Nat) (M : Hp) : Hp → Prop := fun M1 => ∃ v' m', SbP E a t n v' m' M1 ∧ (v' = v ∨ M v' = none) ∧ ∀ q, q ≠ a → q ≠ v → q ≠ v' → M1 q = M q
theorem fits_byte {n : Nat} (h : n < 128) : fits .byte (.int (nI n)) = true := by
  have : ∀ k : Fin 128, fits .byte (.int (nI k.1)) = true := by decide +kernel
  exact this ⟨n, h⟩
theorem fits_byte0 : fits .byte (.int 0) = true := by decide

set_option maxRecDepth 100000 in
set_option maxHeartbeats 4000000 in
theorem ct_isL {E : Ev} {M : Hp} {a v : Nat} {z c : Int32} (ha : M a = some (.inr (1, [.ref v, .int 0, .int z, .int c]))) : Ct E mJ5_isLatin1_aae02 [.ref a] M (eqR (some (.int (nI 1))) M) 0 0 := by
  refine Ct.of gmJ5_isLatin1_aae02 (ls := [.ref a]) rfl rfl (Nat.le_of_ble_eq_true rfl) ?_
  intro X hX Q hQ
  refine gq_getsC hX dJ5_isLatin1_aae02_0 rfl lkJ5_18 ?_
  refine gq_if_eqF (tgt := 17) hX dJ5_isLatin1_aae02_3 rfl rfl (by decide) ?_
  refine gq_aload_n hX dJ5_isLatin1_aae02_6 rfl rfl rfl ?_
  refine gq_getf hX dJ5_isLatin1_aae02_7 rfl fJ5_22 ha rfl ?_
  refine gq_if_neF (tgt := 17) hX dJ5_isLatin1_aae02_10 rfl rfl (by decide) ?_
  refine gq_iconst (v := nI 1) hX dJ5_isLatin1_aae02_13 rfl (by decide) ?_
  refine gq_goto (tgt := 18) hX dJ5_isLatin1_aae02_14 rfl ?_
  exact gq_zret hX hQ dJ5_isLatin1_aae02_18 rfl (by decide) ⟨rfl, rfl⟩

set_option maxRecDepth 100000 in
set_option maxHeartbeats 4000000 in
theorem ct_sbLen5 {E : Ev} {M : Hp} {a v : Nat} {z c : Int32} (ha : M a = some (.inr (1, [.ref v, .int 0, .int z, .int c]))) : Ct E mJ5_length_8abf5 [.ref a] M (eqR (some (.int c)) M) 0 0 := by
  refine Ct.of gmJ5_length_8abf5 (ls := [.ref a]) rfl rfl (Nat.le_of_ble_eq_true rfl) ?_
  intro X hX Q hQ
  refine gq_aload_n hX dJ5_length_8abf5_0 rfl rfl rfl ?_
  refine gq_getf hX dJ5_length_8abf5_1 rfl fJ5_79 ha rfl ?_
  exact gq_iret hX hQ dJ5_length_8abf5_4 rfl ⟨rfl, rfl⟩

set_option maxRecDepth 100000 in
set_option maxHeartbeats 4000000 in
theorem ct_newLength {E : Ev} {M : Hp} {o g p : Nat} (ho : 0 < o + p) (ho1 : o < 10000) (hg : g < 10000) (hp : p < 10000) : Ct E mJ8_newLength_cabcc [.int (nI o), .int (nI g), .int (nI p)] M (eqR (some (.int (nI (o + (if g < p then p else g))))) M) 0 0 := by
  refine Ct.of gmJ8_newLength_cabcc (ls := [.int (nI o), .int (nI g), .int (nI p), hole]) rfl rfl (Nat.le_of_ble_eq_true rfl) ?_
  intro X hX Q hQ
  refine gq_iload_n hX dJ8_newLength_cabcc_0 rfl rfl rfl ?_
  refine gq_iload_n hX dJ8_newLength_cabcc_1 rfl rfl rfl ?_
  refine gq_iload_n hX dJ8_newLength_cabcc_2 rfl rfl rfl ?_
  refine gq_mmax hX dJ8_newLength_cabcc_3 rfl nJ8_194 (Nat.le_of_ble_eq_true rfl) (Nat.le_of_ble_eq_true rfl) ?_
  rw [nI_if (by omega) (by omega)]
  refine gq_iadd hX dJ8_newLength_cabcc_6 rfl ?_
  rw [nI_add]
  refine gq_istore_n hX dJ8_newLength_cabcc_7 rfl rfl (Nat.le_of_ble_eq_true rfl) rfl ?_
  refine gq_iconst (v := nI 0) hX dJ8_newLength_cabcc_8 rfl (by decide) ?_
  refine gq_iload_n hX dJ8_newLength_cabcc_9 rfl rfl rfl ?_
  refine gq_icmp_geF (tgt := 21) hX dJ8_newLength_cabcc_10 rfl rfl (nI_nle (by split <;> omega) (by split <;> omega)) ?_
  refine gq_iload_n hX dJ8_newLength_cabcc_13 rfl rfl rfl ?_
  refine gq_ldcI hX kJ8_200 dJ8_newLength_cabcc_14 rfl ?_
  refine gq_icmp_gtF (tgt := 21) hX dJ8_newLength_cabcc_16 rfl rfl (show ¬ nI 2147483639 < nI _ from nI_nlt (by split <;> omega) (by omega)) ?_
  refine gq_iload_n hX dJ8_newLength_cabcc_19 rfl rfl rfl ?_
  exact gq_iret hX hQ dJ8_newLength_cabcc_20 rfl ⟨rfl, rfl⟩

set_option maxRecDepth 100000 in
set_option maxHeartbeats 4000000 in
theorem ct_newCap {E : Ev} {M : Hp} {a v x m : Nat} {z c : Int32} {f : Nat → Int32} (ha : M a = some (.inr (1, [.ref v, .int 0, .int z, .int c]))) (hv : M v = some (.inl (E.2.2.2.1 5, m, .inl f))) (hm : m < 5000) (hx : m < x) (hx2 : x < 5000) : Ct E mJ5_newCapacity_0f7a4 [.ref a, .int (nI x)] M (eqR (some (.int (nI (m + (if x - m < m + 2 then m + 2 else x - m))))) M) 0 0 := by
  refine Ct.of gmJ5_newCapacity_0f7a4 (ls := [.ref a, .int (nI x), hole, hole, hole, hole]) rfl rfl (Nat.le_of_ble_eq_true rfl) ?_
  intro X hX Q hQ
  refine gq_aload_n hX dJ5_newCapacity_0f7a4_0 rfl rfl rfl ?_
  refine gq_getf hX dJ5_newCapacity_0f7a4_1 rfl fJ5_15 ha rfl ?_
  refine gq_alen (t := 5) hX dJ5_newCapacity_0f7a4_4 rfl hv rfl ?_
  refine gq_istore_n hX dJ5_newCapacity_0f7a4_5 rfl rfl (Nat.le_of_ble_eq_true rfl) rfl ?_
  refine gq_iload_n hX dJ5_newCapacity_0f7a4_6 rfl rfl rfl ?_
  refine gq_aload_n hX dJ5_newCapacity_0f7a4_7 rfl rfl rfl ?_
  refine gq_getf hX dJ5_newCapacity_0f7a4_8 rfl fJ5_22 ha rfl ?_
  refine gq_ishl hX dJ5_newCapacity_0f7a4_11 rfl ?_
  rw [isl0]
  refine gq_istore_n hX dJ5_newCapacity_0f7a4_12 rfl rfl (Nat.le_of_ble_eq_true rfl) rfl ?_
  refine gq_iload_n hX dJ5_newCapacity_0f7a4_13 rfl rfl rfl ?_
  refine gq_iload_n hX dJ5_newCapacity_0f7a4_14 rfl rfl rfl ?_
  refine gq_isub hX dJ5_newCapacity_0f7a4_15 rfl ?_
  rw [pk_sub (by omega)]
  refine gq_istore hX dJ5_newCapacity_0f7a4_16 rfl (Nat.le_of_ble_eq_true rfl) rfl ?_
  refine gq_iload_n hX dJ5_newCapacity_0f7a4_18 rfl rfl rfl ?_
  refine gq_iload hX dJ5_newCapacity_0f7a4_19 rfl rfl ?_
  refine gq_iload_n hX dJ5_newCapacity_0f7a4_21 rfl rfl rfl ?_
  refine gq_iconst (v := nI 2) hX dJ5_newCapacity_0f7a4_22 rfl (by decide) ?_
  refine gq_aload_n hX dJ5_newCapacity_0f7a4_23 rfl rfl rfl ?_
  refine gq_getf hX dJ5_newCapacity_0f7a4_24 rfl fJ5_22 ha rfl ?_
  refine gq_ishl hX dJ5_newCapacity_0f7a4_27 rfl ?_
  rw [isl0]
  refine gq_iadd hX dJ5_newCapacity_0f7a4_28 rfl ?_
  rw [nI_add]
  refine gq_callSe hX dJ5_newCapacity_0f7a4_29 rfl vJ5_114 (ct_newLength (o := m) (g := x - m) (p := m + 2) (by omega) (by omega) (by omega) (by omega)) rfl rfl (Nat.le_of_ble_eq_true rfl) ⟨(Nat.le_of_ble_eq_true rfl), (Nat.le_of_ble_eq_true rfl)⟩ (Nat.zero_add _) (Nat.zero_add _) ?_
  refine gq_istore hX dJ5_newCapacity_0f7a4_32 rfl (Nat.le_of_ble_eq_true rfl) rfl ?_
  refine gq_iload hX dJ5_newCapacity_0f7a4_34 rfl rfl ?_
  refine gq_ldcI hX kJ5_39 dJ5_newCapacity_0f7a4_36 rfl ?_
  refine gq_icmp_neT (tgt := 51) hX dJ5_newCapacity_0f7a4_38 rfl (fun e => by have := (nI_eq (by split <;> omega) (by omega)).mp (show nI _ = nI 2147483647 from e); split at this <;> omega) ?_
  refine gq_iload hX dJ5_newCapacity_0f7a4_51 rfl rfl ?_
  refine gq_aload_n hX dJ5_newCapacity_0f7a4_53 rfl rfl rfl ?_
  refine gq_getf hX dJ5_newCapacity_0f7a4_54 rfl fJ5_22 ha rfl ?_
  refine gq_ishr hX dJ5_newCapacity_0f7a4_57 rfl ?_
  rw [ish0]
  exact gq_iret hX hQ dJ5_newCapacity_0f7a4_58 rfl ⟨rfl, rfl⟩

set_option maxRecDepth 100000 in
set_option maxHeartbeats 4000000 in
theorem ct_copyOf {E : Ev} {M : Hp} {v x m : Nat} {f : Nat → Int32} (hv : M v = some (.inl (E.2.2.2.1 5, m, .inl f))) (hva : E.2.2.1 ≤ v) (hf : ∀ i, fits .byte (.int (f i)) = true) (hx : m < x) (hx2 : x < 5000) : Ct E mJ7_copyOf_9075b [.ref v, .int (nI x)] M (fun r M1 => ∃ v1, r = some (.ref v1) ∧ M v1 = none ∧ E.2.2.1 ≤ v1 ∧ M1 v1 = some (.inl (E.2.2.2.1 5, x, .inl (va_cpy f (fun _ => 0) 0 0 m))) ∧ ∀ q, q ≠ v1 → M1 q = M q) 1 x := by
  refine Ct.of gmJ7_copyOf_9075b (ls := [.ref v, .int (nI x), hole]) rfl rfl (Nat.le_of_ble_eq_true rfl) ?_
  intro X hX Q hQ
  refine gq_iload_n hX dJ7_copyOf_9075b_0 rfl rfl rfl ?_
  refine gq_aload_n hX dJ7_copyOf_9075b_1 rfl rfl rfl ?_
  refine gq_alen (t := 5) hX dJ7_copyOf_9075b_2 rfl hv rfl ?_
  refine gq_icmp_neT (tgt := 14) hX dJ7_copyOf_9075b_3 rfl (fun e => by have := (nI_eq (by omega) (by omega)).mp e; omega) ?_
  refine gq_iload_n hX dJ7_copyOf_9075b_14 rfl rfl rfl ?_
  refine gq_newa (fty := .byte) (t := 5) (N := x) (a0 := (x, .inl (fun _ => 0))) (nc1 := 0) (ns1 := 0) hX dJ7_copyOf_9075b_15 rfl rfl (in1 202 rfl rfl) rfl (fun _ _ h => h) (fun _ => rfl) (nI_pos (by omega)) (nI_clamp (by omega)) (by show x * 1 ≤ _; omega) rfl (Nat.zero_add _) ?_
  intro v1 hv1 hv1a
  have hne : v ≠ v1 := fun e => by rw [← e, hv] at hv1; cases hv1
  refine gq_astore_n hX dJ7_copyOf_9075b_17 rfl rfl (Nat.le_of_ble_eq_true rfl) rfl ?_
  refine gq_aload_n hX dJ7_copyOf_9075b_18 rfl rfl rfl ?_
  refine gq_iconst (v := 0) hX dJ7_copyOf_9075b_19 rfl (by decide) ?_
  refine gq_aload_n hX dJ7_copyOf_9075b_20 rfl rfl rfl ?_
  refine gq_iconst (v := 0) hX dJ7_copyOf_9075b_21 rfl (by decide) ?_
  refine gq_aload_n hX dJ7_copyOf_9075b_22 rfl rfl rfl ?_
  refine gq_alen (t := 5) hX dJ7_copyOf_9075b_23 rfl ((hput_n hne).trans hv) rfl ?_
  refine gq_iload_n hX dJ7_copyOf_9075b_24 rfl rfl rfl ?_
  refine gq_mmin hX dJ7_copyOf_9075b_25 rfl nJ7_304 (Nat.le_of_ble_eq_true rfl) (Nat.le_of_ble_eq_true rfl) ?_
  rw [if_neg (nI_nlt (by omega) (by omega))]
  refine gq_acb hX acL acN acS acI dJ7_copyOf_9075b_28 rfl ((hput_n hne).trans hv) (hput_s _ _ _) hne hva hv1a (Nat.le_refl _) (by omega) (by omega) (fun i _ => hf i) (Nat.le_of_ble_eq_true rfl) (Nat.le_of_ble_eq_true rfl) rfl ?_
  refine gq_aload_n hX dJ7_copyOf_9075b_31 rfl rfl rfl ?_
  exact gq_aret hX hQ dJ7_copyOf_9075b_32 rfl (Or.inr ⟨_, rfl⟩) ⟨v1, rfl, hv1, hv1a, hput_s _ _ _, fun q hq => by rw [hput_n hq, hput_n hq]⟩

theorem hput_2 {M : Hp} {a : Nat} {x y : va_E} : hput (hput M a x) a y = hput M a y := by
  funext q
  unfold hput
  split <;> rfl
theorem hput_3 {M : Hp} {a b : Nat} {x y : va_E} (h : a ≠ b) : hput (hput M a x) b y = hput (hput M b y) a x := by
  funext q
  unfold hput
  by_cases e : q = b
  · subst e
    rw [if_pos rfl, if_neg (Ne.symm h), if_pos rfl]
  · rw [if_neg e, if_neg e]
theorem gq_forget {E : Ev} {X : Cx0} {μ : Mth} {Q : State → Prop} {pc : Nat} {ls st : List Value} {M : Hp} {nc ns : Nat} (i : Nat) (k : Gq E X μ Q pc (ls.set i hole) st M nc ns) : Gq E X μ Q pc ls st M nc ns := by
  intro H locs cells slots lsR hR hS hL h1 h2
  refine k H locs cells slots lsR hR hS ⟨hL.1, hL.2.1, fun j v hv hn => ?_⟩ h1 h2
  by_cases e : j = i
  · subst e
    rw [List.getElem?_set] at hv
    simp only [if_true] at hv
    split at hv
    · exact absurd (Option.some.inj hv).symm hn
    · cases hv
  · rw [List.getElem?_set_ne (Ne.symm e)] at hv
    exact hL.2.2 j v hv hn
theorem vnb {k : Nat} (h : k < 128) : vp_nar .byte (nI k) = nI k := by
  have : ∀ q : Fin 128, vp_nar .byte (nI q.1) = nI q.1 := by decide +kernel
  exact this ⟨k, h⟩
theorem i2b_n {k : Nat} (h : k < 128) : (nI k).toInt8.toInt32 = nI k := by
  have : ∀ q : Fin 128, (nI q.1).toInt8.toInt32 = nI q.1 := by decide +kernel
  exact this ⟨k, h⟩
theorem i2c_n {k : Nat} (h : k < 128) : ((nI k &&& 255).toUInt32 % 65536).toInt32 = nI k := by
  have : ∀ q : Fin 128, ((nI q.1 &&& 255).toUInt32 % 65536).toInt32 = nI q.1 := by decide +kernel
  exact this ⟨k, h⟩
theorem nar_c {k : Nat} (h : k < 128) : narrow .char (.int (nI k)) = .int (nI k) := by
  have : ∀ q : Fin 128, narrow .char (.int (nI q.1)) = .int (nI q.1) := by decide +kernel
  exact this ⟨k, h⟩
/-- what ensureCapacityInternal leaves -/
def SbE (E : Ev) (a v : Nat) (t : Nat → Nat) (n x : Nat) (M : Hp) : Option Value → Hp → Prop := fun r M1 => r = none ∧ ∃ v' m', SbP E a t n v' m' M1 ∧ x ≤ m' ∧ (v' = v ∨ M v' = none) ∧ ∀ q, q ≠ a → q ≠ v → q ≠ v' → M1 q = M q

set_option maxRecDepth 100000 in
set_option maxHeartbeats 4000000 in
theorem ct_ensure {E : Ev} {M : Hp} {a v n m : Nat} {t : Nat → Nat} (h : SbP E a t n v m M) {x : Nat} (hx : x ≤ 71) : Ct E mJ5_ensureCapacityInternal_d00df [.ref a, .int (nI x)] M (SbE E a v t n x M) 1 142 := by
  refine Ct.of gmJ5_ensureCapacityInternal_d00df (ls := [.ref a, .int (nI x), hole]) rfl rfl (Nat.le_of_ble_eq_true rfl) ?_
  intro X hX Q hQ
  obtain ⟨⟨z, ha⟩, ⟨f, hv, hf, ht⟩, hnm, hm, hav, hla, hlv⟩ := id h
  refine gq_aload_n hX dJ5_ensureCapacityInternal_d00df_0 rfl rfl rfl ?_
  refine gq_getf hX dJ5_ensureCapacityInternal_d00df_1 rfl fJ5_15 ha rfl ?_
  refine gq_alen (t := 5) hX dJ5_ensureCapacityInternal_d00df_4 rfl hv rfl ?_
  refine gq_aload_n hX dJ5_ensureCapacityInternal_d00df_5 rfl rfl rfl ?_
  refine gq_getf hX dJ5_ensureCapacityInternal_d00df_6 rfl fJ5_22 ha rfl ?_
  refine gq_ishr hX dJ5_ensureCapacityInternal_d00df_9 rfl ?_
  rw [ish0]
  refine gq_istore_n hX dJ5_ensureCapacityInternal_d00df_10 rfl rfl (Nat.le_of_ble_eq_true rfl) rfl ?_
  refine gq_iload_n hX dJ5_ensureCapacityInternal_d00df_11 rfl rfl rfl ?_
  refine gq_iload_n hX dJ5_ensureCapacityInternal_d00df_12 rfl rfl rfl ?_
  refine gq_isub hX dJ5_ensureCapacityInternal_d00df_13 rfl ?_
  by_cases hxm : x ≤ m
  · refine gq_if_leT (tgt := 38) hX dJ5_ensureCapacityInternal_d00df_14 rfl (by rw [Int32.le_iff_toInt_le, pk_sub_toInt (by omega) (by omega), Int32.toInt_zero]; omega) ?_
    exact gq_vret hX hQ dJ5_ensureCapacityInternal_d00df_38 rfl ⟨rfl, v, m, h, hxm, Or.inl rfl, fun _ _ _ _ => rfl⟩
  · refine gq_if_leF (tgt := 38) hX dJ5_ensureCapacityInternal_d00df_14 rfl rfl (fun hc => hxm (by rw [Int32.le_iff_toInt_le, pk_sub_toInt (by omega) (by omega), Int32.toInt_zero] at hc; omega)) ?_
    refine gq_aload_n hX dJ5_ensureCapacityInternal_d00df_17 rfl rfl rfl ?_
    refine gq_aload_n hX dJ5_ensureCapacityInternal_d00df_18 rfl rfl rfl ?_
    refine gq_getf hX dJ5_ensureCapacityInternal_d00df_19 rfl fJ5_15 ha rfl ?_
    refine gq_aload_n hX dJ5_ensureCapacityInternal_d00df_22 rfl rfl rfl ?_
    refine gq_iload_n hX dJ5_ensureCapacityInternal_d00df_23 rfl rfl rfl ?_
    refine gq_callUe hX dJ5_ensureCapacityInternal_d00df_24 rfl uJ5_104 (ct_newCap ha hv (by omega) (by omega) (by omega)) rfl ha rfl (Nat.le_of_ble_eq_true rfl) ⟨(Nat.le_of_ble_eq_true rfl), (Nat.le_of_ble_eq_true rfl)⟩ (Nat.zero_add _) (Nat.zero_add _) ?_
    refine gq_aload_n hX dJ5_ensureCapacityInternal_d00df_27 rfl rfl rfl ?_
    refine gq_getf hX dJ5_ensureCapacityInternal_d00df_28 rfl fJ5_22 ha rfl ?_
    refine gq_ishl hX dJ5_ensureCapacityInternal_d00df_31 rfl ?_
    rw [isl0]
    have hcp : m + (if x - m < m + 2 then m + 2 else x - m) ≤ 142 := by split <;> omega
    have hcx : x ≤ m + (if x - m < m + 2 then m + 2 else x - m) := by split <;> omega
    have hcm : m < m + (if x - m < m + 2 then m + 2 else x - m) := by split <;> omega
    generalize m + (if x - m < m + 2 then m + 2 else x - m) = y at hcp hcx hcm ⊢
    refine gq_callS (mc := 1) (ms := y) (nc1 := 0) (ns1 := 142 - y) hX dJ5_ensureCapacityInternal_d00df_32 vJ5_108 (ct_copyOf hv hlv hf hcm (by omega)) rfl rfl (Nat.le_of_ble_eq_true rfl) ⟨(Nat.le_of_ble_eq_true rfl), (Nat.le_of_ble_eq_true rfl)⟩ rfl (by omega) ?_
    rintro r M1 ⟨v1, rfl, hv1, hv1a, hM1, hfr⟩
    have hne : a ≠ v1 := fun e => by rw [← e, ha] at hv1; cases hv1
    have ha1 : M1 a = some (.inr (1, [.ref v, .int 0, .int z, .int (nI n)])) := (hfr a hne).trans ha
    refine gq_putf hX dJ5_ensureCapacityInternal_d00df_35 rfl fJ5_15 rfl rfl rfl ha1 (Nat.le_of_ble_eq_true rfl) hla rfl ?_
    refine gq_vret hX hQ dJ5_ensureCapacityInternal_d00df_38 rfl ⟨rfl, v1, y, ⟨⟨z, hput_s _ _ _⟩, ⟨_, (hput_n (Ne.symm hne)).trans hM1, sb_fitC hf sb_fit0, fun i hi => ?_⟩, by omega, hcp, hne, hla, hv1a⟩, hcx, Or.inr hv1, fun q h1 h2 h3 => (hput_n h1).trans (hfr q h3)⟩
    rw [sb_cpy0 (by omega)]
    exact ht i hi

set_option maxRecDepth 100000 in
set_option maxHeartbeats 4000000 in
theorem ct_canEnc {E : Ev} {M : Hp} {c : Nat} (hc : c < 128) : Ct E mJ1_canEncode_fc78d [.int (nI c)] M (eqR (some (.int (nI 1))) M) 0 0 := by
  refine Ct.of gmJ1_canEncode_fc78d (ls := [.int (nI c)]) rfl rfl (Nat.le_of_ble_eq_true rfl) ?_
  intro X hX Q hQ
  refine gq_iload_n hX dJ1_canEncode_fc78d_0 rfl rfl rfl ?_
  refine gq_sipush (v := nI 255) hX dJ1_canEncode_fc78d_1 rfl (by decide) ?_
  refine gq_icmp_gtF (tgt := 11) hX dJ1_canEncode_fc78d_4 rfl rfl (show ¬ nI 255 < nI c from nI_nlt (by omega) (by omega)) ?_
  refine gq_iconst (v := nI 1) hX dJ1_canEncode_fc78d_7 rfl (by decide) ?_
  refine gq_goto (tgt := 12) hX dJ1_canEncode_fc78d_8 rfl ?_
  exact gq_zret hX hQ dJ1_canEncode_fc78d_12 rfl (by decide) ⟨rfl, rfl⟩

set_option maxRecDepth 100000 in
set_option maxHeartbeats 4000000 in
theorem ct_appC5 {E : Ev} {M : Hp} {a v n m : Nat} {t : Nat → Nat} (h : SbP E a t n v m M) {c : Nat} (hc : c < 128) (hn : n + 1 ≤ 71) : Ct E mJ5_append_3fe6f [.ref a, .int (nI c)] M (fun r M1 => r = some (.ref a) ∧ SbN E a v (sb_cat t n (fun _ => c)) (n + 1) M M1) 1 142 := by
  refine Ct.of gmJ5_append_3fe6f (ls := [.ref a, .int (nI c)]) rfl rfl (Nat.le_of_ble_eq_true rfl) ?_
  intro X hX Q hQ
  obtain ⟨⟨z, ha⟩, ⟨f, hv, hf, ht⟩, hnm, hm, hav, hla, hlv⟩ := id h
  refine gq_aload_n hX dJ5_append_3fe6f_0 rfl rfl rfl ?_
  refine gq_aload_n hX dJ5_append_3fe6f_1 rfl rfl rfl ?_
  refine gq_getf hX dJ5_append_3fe6f_2 rfl fJ5_79 ha rfl ?_
  refine gq_iconst (v := nI 1) hX dJ5_append_3fe6f_5 rfl (by decide) ?_
  refine gq_iadd hX dJ5_append_3fe6f_6 rfl ?_
  rw [inM]
  refine gq_callU (mc := 1) (ms := 142) (nc1 := 0) (ns1 := 0) hX dJ5_append_3fe6f_7 uJ5_100 (ct_ensure h (by omega)) rfl ha rfl (Nat.le_of_ble_eq_true rfl) ⟨(Nat.le_of_ble_eq_true rfl), (Nat.le_of_ble_eq_true rfl)⟩ rfl rfl ?_
  rintro r M1 ⟨rfl, v1, m1, h1, hx, hfresh, hfr⟩
  obtain ⟨⟨z1, ha1⟩, ⟨f1, hv1, hf1, ht1⟩, hnm1, hm1, hav1, hla1, hlv1⟩ := id h1
  refine gq_aload_n hX dJ5_append_3fe6f_10 rfl rfl rfl ?_
  refine gq_callUe hX dJ5_append_3fe6f_11 rfl uJ5_83 (ct_isL ha1) rfl ha1 rfl (Nat.le_of_ble_eq_true rfl) ⟨(Nat.le_of_ble_eq_true rfl), (Nat.le_of_ble_eq_true rfl)⟩ (Nat.zero_add _) (Nat.zero_add _) ?_
  refine gq_if_eqF (tgt := 45) hX dJ5_append_3fe6f_14 rfl rfl (by decide) ?_
  refine gq_iload_n hX dJ5_append_3fe6f_17 rfl rfl rfl ?_
  refine gq_callSe hX dJ5_append_3fe6f_18 rfl vJ5_191 (ct_canEnc hc) rfl rfl (Nat.le_of_ble_eq_true rfl) ⟨(Nat.le_of_ble_eq_true rfl), (Nat.le_of_ble_eq_true rfl)⟩ (Nat.zero_add _) (Nat.zero_add _) ?_
  refine gq_if_eqF (tgt := 45) hX dJ5_append_3fe6f_21 rfl rfl (by decide) ?_
  refine gq_aload_n hX dJ5_append_3fe6f_24 rfl rfl rfl ?_
  refine gq_getf hX dJ5_append_3fe6f_25 rfl fJ5_15 ha1 rfl ?_
  refine gq_aload_n hX dJ5_append_3fe6f_28 rfl rfl rfl ?_
  refine gq_dup hX dJ5_append_3fe6f_29 rfl rfl ?_
  refine gq_getf hX dJ5_append_3fe6f_30 rfl fJ5_79 ha1 rfl ?_
  refine gq_dup_x1 hX dJ5_append_3fe6f_33 rfl rfl rfl ?_
  refine gq_iconst (v := nI 1) hX dJ5_append_3fe6f_34 rfl (by decide) ?_
  refine gq_iadd hX dJ5_append_3fe6f_35 rfl ?_
  rw [inM]
  refine gq_putf hX dJ5_append_3fe6f_36 rfl fJ5_79 rfl rfl rfl ha1 (Nat.le_of_ble_eq_true rfl) hla1 rfl ?_
  refine gq_iload_n hX dJ5_append_3fe6f_39 rfl rfl rfl ?_
  refine gq_i2b hX dJ5_append_3fe6f_40 rfl ?_
  rw [i2b_n hc]
  refine gq_bastN hX dJ5_append_3fe6f_41 rfl ((hput_n (Ne.symm hav1)).trans hv1) rfl (by omega) (by omega) hlv1 rfl ?_
  rw [vnb hc]
  refine gq_goto (tgt := 75) hX dJ5_append_3fe6f_42 rfl ?_
  refine gq_aload_n hX dJ5_append_3fe6f_75 rfl rfl rfl ?_
  refine gq_aret hX hQ dJ5_append_3fe6f_76 rfl (Or.inl ⟨_, rfl⟩) ⟨rfl, v1, m1, ⟨⟨z1, (hput_n hav1).trans (hput_s _ _ _)⟩, ⟨_, hput_s _ _ _, fun i => ?_, fun i hi => ?_⟩, hx, hm1, hav1, hla1, hlv1⟩, hfresh, fun q h2 h3 h4 => (hput_n h4).trans ((hput_n h2).trans (hfr q h2 h3 h4))⟩
  · show fits .byte (.int (upd f1 n (nI c) i)) = true
    by_cases e : i = n
    · rw [e, upd_s]
      exact fits_byte hc
    · rw [upd_n _ e]
      exact hf1 i
  · show upd f1 n (nI c) i = nI (sb_cat t n (fun _ => c) i) ∧ _
    by_cases e : i = n
    · subst e
      rw [upd_s]
      unfold sb_cat
      rw [if_neg (Nat.lt_irrefl _)]
      exact ⟨rfl, hc⟩
    · rw [upd_n _ e, sb_cat_lo (by omega)]
      exact ht1 i (by omega)

theorem dg_at {v i : Nat} (h1 : 1 ≤ i) (h8 : i ≤ 8) (h : i = 1 ∨ 10 ^ (i - 1) ≤ v) (h2 : v < 10 ^ i) : sb_dg v = i := by
  obtain rfl | rfl | rfl | rfl | rfl | rfl | rfl | rfl : i = 1 ∨ i = 2 ∨ i = 3 ∨ i = 4 ∨ i = 5 ∨ i = 6 ∨ i = 7 ∨ i = 8 := by omega
  · have h1 : v < 10 := h2
    unfold sb_dg
    (repeat' split) <;> omega
  · have h1 : v < 100 := h2
    have h3 : 10 ≤ v := h.resolve_left (by decide)
    unfold sb_dg
    (repeat' split) <;> omega
  · have h1 : v < 1000 := h2
    have h3 : 100 ≤ v := h.resolve_left (by decide)
    unfold sb_dg
    (repeat' split) <;> omega
  · have h1 : v < 10000 := h2
    have h3 : 1000 ≤ v := h.resolve_left (by decide)
    unfold sb_dg
    (repeat' split) <;> omega
  · have h1 : v < 100000 := h2
    have h3 : 10000 ≤ v := h.resolve_left (by decide)
    unfold sb_dg
    (repeat' split) <;> omega
  · have h1 : v < 1000000 := h2
    have h3 : 100000 ≤ v := h.resolve_left (by decide)
    unfold sb_dg
    (repeat' split) <;> omega
  · have h1 : v < 10000000 := h2
    have h3 : 1000000 ≤ v := h.resolve_left (by decide)
    unfold sb_dg
    (repeat' split) <;> omega
  · have h1 : v < 100000000 := h2
    have h3 : 10000000 ≤ v := h.resolve_left (by decide)
    unfold sb_dg
    (repeat' split) <;> omega
theorem p10_le {i : Nat} (h : i ≤ 8) : 10 ^ i ≤ 100000000 := Nat.pow_le_pow_right (by decide) h
set_option maxRecDepth 100000 in
set_option maxHeartbeats 4000000 in
theorem ct_stringSize {E : Ev} {M : Hp} {v : Nat} (hv : v < 100000000) : Ct E mJ6_stringSize_0f7a4 [.int (nI v)] M (eqR (some (.int (nI (sb_dg v)))) M) 0 0 := by
  refine Ct.of gmJ6_stringSize_0f7a4 (ls := [.int (nI v), hole, hole, hole]) rfl rfl (Nat.le_of_ble_eq_true rfl) ?_
  intro X hX Q hQ
  refine gq_iconst (v := nI 1) hX dJ6_stringSize_0f7a4_0 rfl (by decide) ?_
  refine gq_istore_n hX dJ6_stringSize_0f7a4_1 rfl rfl (Nat.le_of_ble_eq_true rfl) rfl ?_
  refine gq_iload_n hX dJ6_stringSize_0f7a4_2 rfl rfl rfl ?_
  refine gq_if_ltF (tgt := 11) hX dJ6_stringSize_0f7a4_3 rfl rfl (nI_pos (by omega)) ?_
  refine gq_iconst (v := nI 0) hX dJ6_stringSize_0f7a4_6 rfl (by decide) ?_
  refine gq_istore_n hX dJ6_stringSize_0f7a4_7 rfl rfl (Nat.le_of_ble_eq_true rfl) rfl ?_
  refine gq_iload_n hX dJ6_stringSize_0f7a4_8 rfl rfl rfl ?_
  refine gq_ineg hX dJ6_stringSize_0f7a4_9 rfl ?_
  refine gq_istore_n hX dJ6_stringSize_0f7a4_10 rfl rfl (Nat.le_of_ble_eq_true rfl) rfl ?_
  refine gq_bipush (v := -10) hX dJ6_stringSize_0f7a4_11 rfl (by decide) ?_
  refine gq_istore_n hX dJ6_stringSize_0f7a4_13 rfl rfl (Nat.le_of_ble_eq_true rfl) rfl ?_
  refine gq_iconst (v := nI 1) hX dJ6_stringSize_0f7a4_14 rfl (by decide) ?_
  refine gq_istore_n hX dJ6_stringSize_0f7a4_15 rfl rfl (Nat.le_of_ble_eq_true rfl) rfl ?_
  have lp : ∀ k i : Nat, i + k = 9 → 1 ≤ i → (i = 1 ∨ 10 ^ (i - 1) ≤ v) → Gq E X mJ6_stringSize_0f7a4 Q 16 [.int (-nI v), .int (nI 0), .int (-nI (10 ^ i)), .int (nI i)] [] M 0 0 := by
    intro k
    induction k with
    | zero =>
      intro i hi h1 h
      have e : i = 9 := by omega
      subst e
      have h3 : 100000000 ≤ v := h.resolve_left (by decide)
      omega
    | succ k ih =>
      intro i hi h1 h
      have hp := p10_le (i := i) (by omega)
      refine gq_iload_n hX dJ6_stringSize_0f7a4_16 rfl rfl rfl ?_
      refine gq_bipush (v := nI 10) hX dJ6_stringSize_0f7a4_17 rfl (by decide) ?_
      refine gq_icmp_geF (tgt := 42) hX dJ6_stringSize_0f7a4_19 rfl rfl (nI_ge (by omega) (by omega)) ?_
      refine gq_iload_n hX dJ6_stringSize_0f7a4_22 rfl rfl rfl ?_
      refine gq_iload_n hX dJ6_stringSize_0f7a4_23 rfl rfl rfl ?_
      by_cases hv2 : 10 ^ i ≤ v
      · refine gq_icmp_leT (tgt := 31) hX dJ6_stringSize_0f7a4_24 rfl ((sb_nle (by omega) (by omega)).mpr hv2) ?_
        refine gq_bipush (v := nI 10) hX dJ6_stringSize_0f7a4_31 rfl (by decide) ?_
        refine gq_iload_n hX dJ6_stringSize_0f7a4_33 rfl rfl rfl ?_
        refine gq_imul hX dJ6_stringSize_0f7a4_34 rfl ?_
        rw [show nI 10 * -nI (10 ^ i) = -nI (10 ^ (i + 1)) by rw [Int32.mul_comm, Int32.neg_mul, nI_m, Nat.pow_succ]]
        refine gq_istore_n hX dJ6_stringSize_0f7a4_35 rfl rfl (Nat.le_of_ble_eq_true rfl) rfl ?_
        refine gq_iinc hX dJ6_stringSize_0f7a4_36 rfl rfl (inc1 i) (Nat.le_of_ble_eq_true rfl) rfl ?_
        refine gq_goto (tgt := 16) hX dJ6_stringSize_0f7a4_39 rfl ?_
        exact ih (i + 1) (by omega) (by omega) (Or.inr hv2)
      · refine gq_icmp_leF (tgt := 31) hX dJ6_stringSize_0f7a4_24 rfl rfl (fun z => hv2 ((sb_nle (by omega) (by omega)).mp z)) ?_
        refine gq_iload_n hX dJ6_stringSize_0f7a4_27 rfl rfl rfl ?_
        refine gq_iload_n hX dJ6_stringSize_0f7a4_28 rfl rfl rfl ?_
        refine gq_iadd hX dJ6_stringSize_0f7a4_29 rfl ?_
        exact gq_iret hX hQ dJ6_stringSize_0f7a4_30 rfl ⟨by rw [dg_at h1 (by omega) h (by omega), nI_add]; rfl, rfl⟩
  exact lp 8 1 rfl (Nat.le_refl _) (Or.inl rfl)

theorem vnb2 : ∀ j, j < 10 → vp_nar .byte (nI (48 + j)) = nI (48 + j) ∧ fits .byte (.int (nI (48 + j))) = true := by decide +kernel
theorem vnbd (k : Nat) (h : k < 100) : vp_nar .byte (nI (48 + k / 10)) = nI (48 + k / 10) ∧ vp_nar .byte (nI (48 + k % 10)) = nI (48 + k % 10) := ⟨(vnb2 _ (by omega)).1, (vnb2 _ (by omega)).1⟩
theorem sb_fitD {a : Nat → Int32} {k j : Nat} (h : ∀ i, fits .byte (.int (a i)) = true) (hj : j < 10) : ∀ i, fits .byte (.int (upd a k (nI (48 + j)) i)) = true := by
  intro i
  by_cases e : i = k
  · rw [e, upd_s]
    exact (vnb2 j hj).2
  · rw [upd_n _ e]
    exact h i
/-- what getChars leaves -/
def GcP (E : Ev) (va m n w p : Nat) (f : Nat → Int32) (M : Hp) : Option Value → Hp → Prop := fun r M1 => r = some (.int (nI n)) ∧ ∃ f', M1 = hput M va (.inl (E.2.2.2.1 5, m, .inl f')) ∧ (∀ j, j < n ∨ p ≤ j → f' j = f j) ∧ (∀ i, i < sb_dg w → f' (p - 1 - i) = nI (48 + w / 10 ^ i % 10)) ∧ ∀ i, fits .byte (.int (f' i)) = true
theorem hput_same {M : Hp} {a : Nat} {x : va_E} (h : M a = some x) : hput M a x = M := by
  funext q
  unfold hput
  split
  · rename_i e
    rw [e, h]
  · rfl

set_option maxRecDepth 100000 in
set_option maxHeartbeats 4000000 in
theorem ct_getChars {E : Ev} {M : Hp} {va m n w p : Nat} {f : Nat → Int32} (hv : M va = some (.inl (E.2.2.2.1 5, m, .inl f))) (hva : E.2.2.1 ≤ va) (hf : ∀ i, fits .byte (.int (f i)) = true) (hw : w < 100000000) (hp : p = n + sb_dg w) (hpm : p ≤ m) (hm : m ≤ 142) : Ct E mJ6_getChars_ba4f3 [.int (nI w), .int (nI p), .ref va] M (GcP E va m n w p f M) 0 0 := by
  refine Ct.of gmJ6_getChars_ba4f3 (ls := [.int (nI w), .int (nI p), .ref va, hole, hole, hole, hole]) rfl rfl (Nat.le_of_ble_eq_true rfl) ?_
  intro X hX Q hQ
  have lp : ∀ (k w1 p1 : Nat) (f1 : Nat → Int32) (l3 l4 : Value), w1 < k → w1 < 100000000 → p1 = n + sb_dg w1 → p1 ≤ m → (∀ i, fits .byte (.int (f1 i)) = true) →
      (∀ f', (∀ j, j < n ∨ p1 ≤ j → f' j = f1 j) → (∀ i, i < sb_dg w1 → f' (p1 - 1 - i) = nI (48 + w1 / 10 ^ i % 10)) → (∀ i, fits .byte (.int (f' i)) = true) → GcP E va m n w p f M (some (.int (nI n))) (hput M va (.inl (E.2.2.2.1 5, m, .inl f')))) →
      Gq E X mJ6_getChars_ba4f3 Q 22 [.int (-nI w1), .int (nI p), .ref va, l3, l4, .int (nI p1), .int (nI 0)] [] (hput M va (.inl (E.2.2.2.1 5, m, .inl f1))) 0 0 := by
    intro k
    induction k with
    | zero =>
      intro w1 p1 f1 l3 l4 h
      omega
    | succ k ih =>
      intro w1 p1 f1 l3 l4 hk hw hp hpm hf hP
      have hd1 := (sb_dg_in w1).1
      have e1 : -(-nI w1) = nI w1 := Int32.neg_neg
      by_cases h100 : w1 < 100
      · obtain ⟨t2, t1⟩ := vnbd w1 h100
        refine gq_forget 3 (gq_forget 4 ?_)
        show Gq E X mJ6_getChars_ba4f3 Q 22 [.int (-nI w1), .int (nI p), .ref va, hole, hole, .int (nI p1), .int (nI 0)] [] _ 0 0
        refine gq_iload_n hX dJ6_getChars_ba4f3_22 rfl rfl rfl ?_
        refine gq_bipush (v := -100) hX dJ6_getChars_ba4f3_23 rfl (by decide) ?_
        refine gq_icmp_gtT (tgt := 72) hX dJ6_getChars_ba4f3_25 rfl (show -nI 100 < -nI w1 from (sb_nlt (by decide) (by omega)).mpr h100) ?_
        refine gq_aload_n hX dJ6_getChars_ba4f3_72 rfl rfl rfl ?_
        refine gq_iinc hX dJ6_getChars_ba4f3_73 rfl rfl (sb_m1 (by omega)) (Nat.le_of_ble_eq_true rfl) rfl ?_
        refine gq_iload hX dJ6_getChars_ba4f3_76 rfl rfl ?_
        refine gq_getsO hX dJ6_getChars_ba4f3_78 rfl lkJ6_83 (fun t ht => ?_)
        refine gq_iload_n hX dJ6_getChars_ba4f3_81 rfl rfl rfl ?_
        refine gq_ineg hX dJ6_getChars_ba4f3_82 rfl ?_
        refine gq_digT hX ht dJ6_getChars_ba4f3_83 rfl e1 h100 ?_
        refine gq_bastN hX dJ6_getChars_ba4f3_84 rfl (hput_s _ _ _) rfl (by omega) (by omega) hva rfl ?_
        rw [t1, hput_2]
        refine gq_iload_n hX dJ6_getChars_ba4f3_85 rfl rfl rfl ?_
        refine gq_bipush (v := -9) hX dJ6_getChars_ba4f3_86 rfl (by decide) ?_
        by_cases h9 : w1 < 10
        · have hd : sb_dg w1 = 1 := if_pos h9
          refine gq_icmp_geT (tgt := 104) hX dJ6_getChars_ba4f3_88 rfl (show -nI 9 ≤ -nI w1 from (sb_nle (by decide) (by omega)).mpr (by omega)) ?_
          refine gq_iload hX dJ6_getChars_ba4f3_104 rfl rfl ?_
          refine gq_if_eqT (tgt := 118) hX dJ6_getChars_ba4f3_106 rfl rfl ?_
          refine gq_iload hX dJ6_getChars_ba4f3_118 rfl rfl ?_
          rw [show nI (p1 - 1) = nI n from congrArg nI (by omega)]
          refine gq_iret hX hQ dJ6_getChars_ba4f3_120 rfl (hP _ (fun j hj => upd_n _ (by omega)) (fun i hi => ?_) (sb_fitD hf (Nat.mod_lt _ (by decide))))
          obtain rfl : i = 0 := by omega
          rw [Nat.sub_zero, upd_s, Nat.pow_zero, Nat.div_one]
        · have hd : sb_dg w1 = 2 := by rw [sb_dg, if_neg h9, if_pos h100]
          have d2 : w1 / 10 % 10 = w1 / 10 := by omega
          refine gq_icmp_geF (tgt := 104) hX dJ6_getChars_ba4f3_88 rfl rfl (fun z => by have := (sb_nle (by decide) (by omega)).mp (show -nI 9 ≤ -nI w1 from z); omega) ?_
          refine gq_aload_n hX dJ6_getChars_ba4f3_91 rfl rfl rfl ?_
          refine gq_iinc hX dJ6_getChars_ba4f3_92 rfl rfl (sb_m1 (by omega)) (Nat.le_of_ble_eq_true rfl) rfl ?_
          refine gq_iload hX dJ6_getChars_ba4f3_95 rfl rfl ?_
          refine gq_getsT hX dJ6_getChars_ba4f3_97 rfl lkJ6_87 (fun t9 ht2 => ?_)
          refine gq_iload_n hX dJ6_getChars_ba4f3_100 rfl rfl rfl ?_
          refine gq_ineg hX dJ6_getChars_ba4f3_101 rfl ?_
          refine gq_digT hX ht2 dJ6_getChars_ba4f3_102 rfl e1 h100 ?_
          refine gq_bastN hX dJ6_getChars_ba4f3_103 rfl (hput_s _ _ _) rfl (by omega) (by omega) hva rfl ?_
          rw [t2, hput_2]
          refine gq_iload hX dJ6_getChars_ba4f3_104 rfl rfl ?_
          refine gq_if_eqT (tgt := 118) hX dJ6_getChars_ba4f3_106 rfl rfl ?_
          refine gq_iload hX dJ6_getChars_ba4f3_118 rfl rfl ?_
          rw [show nI (p1 - 1 - 1) = nI n from congrArg nI (by omega)]
          refine gq_iret hX hQ dJ6_getChars_ba4f3_120 rfl (hP _ (fun j hj => by rw [upd_n _ (by omega), upd_n _ (by omega)]) (fun i hi => ?_) (sb_fitD (sb_fitD hf (Nat.mod_lt _ (by decide))) (by omega)))
          obtain rfl | rfl : i = 0 ∨ i = 1 := by omega
          · rw [Nat.sub_zero, upd_n _ (by omega), upd_s, Nat.pow_zero, Nat.div_one]
          · rw [upd_s, Nat.pow_one, d2]
      · have hd := sb_dg100 (w := w1) (by omega) (by omega)
        have hd2 := (sb_dg_in (w1 / 100)).1
        obtain ⟨t2, t1⟩ := vnbd (w1 % 100) (Nat.mod_lt _ (by decide))
        rw [show w1 % 100 % 10 = w1 % 10 by omega] at t1
        rw [show w1 % 100 / 10 = w1 / 10 % 10 by omega] at t2
        refine gq_iload_n hX dJ6_getChars_ba4f3_22 rfl rfl rfl ?_
        refine gq_bipush (v := -100) hX dJ6_getChars_ba4f3_23 rfl (by decide) ?_
        refine gq_icmp_gtF (tgt := 72) hX dJ6_getChars_ba4f3_25 rfl rfl (fun z => h100 ((sb_nlt (by decide) (by omega)).mp (show -nI 100 < -nI w1 from z))) ?_
        refine gq_iload_n hX dJ6_getChars_ba4f3_28 rfl rfl rfl ?_
        refine gq_bipush (v := 100) hX dJ6_getChars_ba4f3_29 rfl (by decide) ?_
        refine gq_idiv hX dJ6_getChars_ba4f3_31 rfl (by decide) ?_
        rw [sb_ndiv (by omega)]
        refine gq_istore_n hX dJ6_getChars_ba4f3_32 rfl rfl (Nat.le_of_ble_eq_true rfl) rfl ?_
        refine gq_iload_n hX dJ6_getChars_ba4f3_33 rfl rfl rfl ?_
        refine gq_bipush (v := 100) hX dJ6_getChars_ba4f3_34 rfl (by decide) ?_
        refine gq_imul hX dJ6_getChars_ba4f3_36 rfl ?_
        refine gq_iload_n hX dJ6_getChars_ba4f3_37 rfl rfl rfl ?_
        refine gq_isub hX dJ6_getChars_ba4f3_38 rfl ?_
        rw [sb_nrem (by omega)]
        refine gq_istore hX dJ6_getChars_ba4f3_39 rfl (Nat.le_of_ble_eq_true rfl) rfl ?_
        refine gq_iload_n hX dJ6_getChars_ba4f3_41 rfl rfl rfl ?_
        refine gq_istore_n hX dJ6_getChars_ba4f3_42 rfl rfl (Nat.le_of_ble_eq_true rfl) rfl ?_
        refine gq_aload_n hX dJ6_getChars_ba4f3_43 rfl rfl rfl ?_
        refine gq_iinc hX dJ6_getChars_ba4f3_44 rfl rfl (sb_m1 (by omega)) (Nat.le_of_ble_eq_true rfl) rfl ?_
        refine gq_iload hX dJ6_getChars_ba4f3_47 rfl rfl ?_
        refine gq_getsO hX dJ6_getChars_ba4f3_49 rfl lkJ6_83 (fun t ht => ?_)
        refine gq_iload hX dJ6_getChars_ba4f3_52 rfl rfl ?_
        refine gq_digT hX ht dJ6_getChars_ba4f3_54 rfl rfl (Nat.mod_lt _ (by decide)) ?_
        refine gq_bastN hX dJ6_getChars_ba4f3_55 rfl (hput_s _ _ _) rfl (by omega) (by omega) hva rfl ?_
        rw [show w1 % 100 % 10 = w1 % 10 by omega, t1, hput_2]
        refine gq_aload_n hX dJ6_getChars_ba4f3_56 rfl rfl rfl ?_
        refine gq_iinc hX dJ6_getChars_ba4f3_57 rfl rfl (sb_m1 (by omega)) (Nat.le_of_ble_eq_true rfl) rfl ?_
        refine gq_iload hX dJ6_getChars_ba4f3_60 rfl rfl ?_
        refine gq_getsT hX dJ6_getChars_ba4f3_62 rfl lkJ6_87 (fun t9 ht2 => ?_)
        refine gq_iload hX dJ6_getChars_ba4f3_65 rfl rfl ?_
        refine gq_digT hX ht2 dJ6_getChars_ba4f3_67 rfl rfl (Nat.mod_lt _ (by decide)) ?_
        refine gq_bastN hX dJ6_getChars_ba4f3_68 rfl (hput_s _ _ _) rfl (by omega) (by omega) hva rfl ?_
        rw [show w1 % 100 / 10 = w1 / 10 % 10 by omega, t2, hput_2]
        refine gq_goto (tgt := 22) hX dJ6_getChars_ba4f3_69 rfl ?_
        refine ih (w1 / 100) (p1 - 1 - 1) _ _ _ (by omega) (by omega) (by omega) (by omega) (sb_fitD (sb_fitD hf (Nat.mod_lt _ (by decide))) (Nat.mod_lt _ (by decide))) (fun a' h1 h2 h3 => ?_)
        refine hP a' (fun j hj => by rw [h1 j (by omega), upd_n _ (by omega), upd_n _ (by omega)]) (fun i hi => ?_) h3
        match i, hi with
        | 0, _ => rw [Nat.sub_zero, h1 _ (by omega), upd_n _ (by omega), upd_s, Nat.pow_zero, Nat.div_one]
        | 1, _ => rw [h1 _ (by omega), upd_s, Nat.pow_one]
        | k + 2, hi =>
          rw [show p1 - 1 - (k + 2) = p1 - 1 - 1 - 1 - k by omega, h2 k (by omega), Nat.div_div_eq_div_mul, show 100 * 10 ^ k = 10 ^ (k + 2) by rw [show k + 2 = k + 1 + 1 from rfl, Nat.pow_succ, Nat.pow_succ]; omega]
  refine gq_iload_n hX dJ6_getChars_ba4f3_0 rfl rfl rfl ?_
  refine gq_istore hX dJ6_getChars_ba4f3_1 rfl (Nat.le_of_ble_eq_true rfl) rfl ?_
  refine gq_iload_n hX dJ6_getChars_ba4f3_3 rfl rfl rfl ?_
  refine gq_if_geT (tgt := 11) hX dJ6_getChars_ba4f3_4 rfl (nI_pos' (by omega)) ?_
  refine gq_iconst (v := nI 0) hX dJ6_getChars_ba4f3_11 rfl (by decide) ?_
  refine gq_istore hX dJ6_getChars_ba4f3_12 rfl (Nat.le_of_ble_eq_true rfl) rfl ?_
  refine gq_iload hX dJ6_getChars_ba4f3_14 rfl rfl ?_
  refine gq_if_neF (tgt := 22) hX dJ6_getChars_ba4f3_16 rfl rfl rfl ?_
  refine gq_iload_n hX dJ6_getChars_ba4f3_19 rfl rfl rfl ?_
  refine gq_ineg hX dJ6_getChars_ba4f3_20 rfl ?_
  refine gq_istore_n hX dJ6_getChars_ba4f3_21 rfl rfl (Nat.le_of_ble_eq_true rfl) rfl ?_
  have h0 := lp (w + 1) w p f hole hole (by omega) hw hp hpm hf (fun f' g1 g2 g3 => ⟨rfl, f', rfl, g1, g2, g3⟩)
  rw [hput_same hv] at h0
  exact h0

set_option maxRecDepth 100000 in
set_option maxHeartbeats 4000000 in
theorem ct_appI5 {E : Ev} {M : Hp} {a v n m : Nat} {t : Nat → Nat} (h : SbP E a t n v m M) {w : Nat} (hw : w < 100000000) (hn : n + sb_dg w ≤ 71) : Ct E mJ5_append_c97b9 [.ref a, .int (nI w)] M (fun r M1 => r = some (.ref a) ∧ SbN E a v (sb_cat t n (sb_dec w)) (n + sb_dg w) M M1) 1 142 := by
  refine Ct.of gmJ5_append_c97b9 (ls := [.ref a, .int (nI w), hole, hole]) rfl rfl (Nat.le_of_ble_eq_true rfl) ?_
  intro X hX Q hQ
  obtain ⟨⟨z, ha⟩, ⟨f, hv, hf, ht⟩, hnm, hm, hav, hla, hlv⟩ := id h
  have hd := sb_dg_in w
  refine gq_aload_n hX dJ5_append_c97b9_0 rfl rfl rfl ?_
  refine gq_getf hX dJ5_append_c97b9_1 rfl fJ5_79 ha rfl ?_
  refine gq_istore_n hX dJ5_append_c97b9_4 rfl rfl (Nat.le_of_ble_eq_true rfl) rfl ?_
  refine gq_iload_n hX dJ5_append_c97b9_5 rfl rfl rfl ?_
  refine gq_iload_n hX dJ5_append_c97b9_6 rfl rfl rfl ?_
  refine gq_callSe hX dJ5_append_c97b9_7 rfl vJ5_245 (ct_stringSize hw) rfl rfl (Nat.le_of_ble_eq_true rfl) ⟨(Nat.le_of_ble_eq_true rfl), (Nat.le_of_ble_eq_true rfl)⟩ (Nat.zero_add _) (Nat.zero_add _) ?_
  refine gq_iadd hX dJ5_append_c97b9_10 rfl ?_
  rw [nI_add]
  refine gq_istore_n hX dJ5_append_c97b9_11 rfl rfl (Nat.le_of_ble_eq_true rfl) rfl ?_
  refine gq_aload_n hX dJ5_append_c97b9_12 rfl rfl rfl ?_
  refine gq_iload_n hX dJ5_append_c97b9_13 rfl rfl rfl ?_
  refine gq_callU (mc := 1) (ms := 142) (nc1 := 0) (ns1 := 0) hX dJ5_append_c97b9_14 uJ5_100 (ct_ensure h hn) rfl ha rfl (Nat.le_of_ble_eq_true rfl) ⟨(Nat.le_of_ble_eq_true rfl), (Nat.le_of_ble_eq_true rfl)⟩ rfl rfl ?_
  rintro r M1 ⟨rfl, v1, m1, h1, hx, hfresh, hfr⟩
  obtain ⟨⟨z1, ha1⟩, ⟨f1, hv1, hf1, ht1⟩, hnm1, hm1, hav1, hla1, hlv1⟩ := id h1
  refine gq_aload_n hX dJ5_append_c97b9_17 rfl rfl rfl ?_
  refine gq_callUe hX dJ5_append_c97b9_18 rfl uJ5_83 (ct_isL ha1) rfl ha1 rfl (Nat.le_of_ble_eq_true rfl) ⟨(Nat.le_of_ble_eq_true rfl), (Nat.le_of_ble_eq_true rfl)⟩ (Nat.zero_add _) (Nat.zero_add _) ?_
  refine gq_if_eqF (tgt := 37) hX dJ5_append_c97b9_21 rfl rfl (by decide) ?_
  refine gq_iload_n hX dJ5_append_c97b9_24 rfl rfl rfl ?_
  refine gq_iload_n hX dJ5_append_c97b9_25 rfl rfl rfl ?_
  refine gq_aload_n hX dJ5_append_c97b9_26 rfl rfl rfl ?_
  refine gq_getf hX dJ5_append_c97b9_27 rfl fJ5_15 ha1 rfl ?_
  refine gq_callS (mc := 0) (ms := 0) (nc1 := 0) (ns1 := 0) hX dJ5_append_c97b9_30 vJ5_248 (ct_getChars (n := n) (w := w) (p := n + sb_dg w) hv1 hlv1 hf1 hw rfl hx hm1) rfl rfl (Nat.le_of_ble_eq_true rfl) ⟨(Nat.le_of_ble_eq_true rfl), (Nat.le_of_ble_eq_true rfl)⟩ rfl rfl ?_
  rintro r M2 ⟨rfl, f2, rfl, g1, g2, g3⟩
  have ha2 : hput M1 v1 (.inl (E.2.2.2.1 5, m1, .inl f2)) a = some (.inr (1, [.ref v1, .int 0, .int z1, .int (nI n)])) := (hput_n hav1).trans ha1
  refine gq_pop hX dJ5_append_c97b9_33 rfl rfl ?_
  refine gq_goto (tgt := 48) hX dJ5_append_c97b9_34 rfl ?_
  refine gq_aload_n hX dJ5_append_c97b9_48 rfl rfl rfl ?_
  refine gq_iload_n hX dJ5_append_c97b9_49 rfl rfl rfl ?_
  refine gq_putf hX dJ5_append_c97b9_50 rfl fJ5_79 rfl rfl rfl ha2 (Nat.le_of_ble_eq_true rfl) hla1 rfl ?_
  refine gq_aload_n hX dJ5_append_c97b9_53 rfl rfl rfl ?_
  refine gq_aret hX hQ dJ5_append_c97b9_54 rfl (Or.inl ⟨_, rfl⟩) ⟨rfl, v1, m1, ⟨⟨z1, hput_s _ _ _⟩, ⟨f2, (hput_n (Ne.symm hav1)).trans (hput_s _ _ _), g3, fun i hi => ?_⟩, hx, hm1, hav1, hla1, hlv1⟩, hfresh, fun q h2 h3 h4 => (hput_n h2).trans ((hput_n h4).trans (hfr q h2 h3 h4))⟩
  by_cases e : i < n
  · rw [sb_cat_lo e, g1 i (Or.inl e)]
    exact ht1 i e
  · have h9 := g2 (n + sb_dg w - 1 - i) (by omega)
    rw [show n + sb_dg w - 1 - (n + sb_dg w - 1 - i) = i by omega] at h9
    have e2 : sb_cat t n (sb_dec w) i = 48 + w / 10 ^ (n + sb_dg w - 1 - i) % 10 := by
      obtain ⟨j, rfl⟩ : ∃ j, i = n + j := ⟨i - n, by omega⟩
      rw [sb_cat_hi]
      unfold sb_dec
      rw [show n + sb_dg w - 1 - (n + j) = sb_dg w - 1 - j by omega]
    rw [e2]
    exact ⟨h9, by omega⟩

set_option maxRecDepth 100000 in
set_option maxHeartbeats 4000000 in
theorem ct_setLen5 {E : Ev} {M : Hp} {a v n m : Nat} {t : Nat → Nat} (h : SbP E a t n v m M) : Ct E mJ5_setLength_d00df [.ref a, .int (nI 0)] M (fun r M1 => r = none ∧ SbN E a v t 0 M M1) 1 142 := by
  refine Ct.of gmJ5_setLength_d00df (ls := [.ref a, .int (nI 0)]) rfl rfl (Nat.le_of_ble_eq_true rfl) ?_
  intro X hX Q hQ
  obtain ⟨⟨z, ha⟩, ⟨f, hv, hf, ht⟩, hnm, hm, hav, hla, hlv⟩ := id h
  refine gq_iload_n hX dJ5_setLength_d00df_0 rfl rfl rfl ?_
  refine gq_if_geT (tgt := 13) hX dJ5_setLength_d00df_1 rfl (by decide) ?_
  refine gq_aload_n hX dJ5_setLength_d00df_13 rfl rfl rfl ?_
  refine gq_iload_n hX dJ5_setLength_d00df_14 rfl rfl rfl ?_
  refine gq_callU (mc := 1) (ms := 142) (nc1 := 0) (ns1 := 0) hX dJ5_setLength_d00df_15 uJ5_100 (ct_ensure h (by omega)) rfl ha rfl (Nat.le_of_ble_eq_true rfl) ⟨(Nat.le_of_ble_eq_true rfl), (Nat.le_of_ble_eq_true rfl)⟩ rfl rfl ?_
  rintro r M1 ⟨rfl, v1, m1, h1, hx, hfresh, hfr⟩
  obtain ⟨⟨z1, ha1⟩, ⟨f1, hv1, hf1, ht1⟩, hnm1, hm1, hav1, hla1, hlv1⟩ := id h1
  refine gq_aload_n hX dJ5_setLength_d00df_18 rfl rfl rfl ?_
  refine gq_getf hX dJ5_setLength_d00df_19 rfl fJ5_79 ha1 rfl ?_
  refine gq_iload_n hX dJ5_setLength_d00df_22 rfl rfl rfl ?_
  refine gq_icmp_geT (tgt := 63) hX dJ5_setLength_d00df_23 rfl (nI_le (by omega) (by omega)) ?_
  refine gq_aload_n hX dJ5_setLength_d00df_63 rfl rfl rfl ?_
  refine gq_getf hX dJ5_setLength_d00df_64 rfl fJ5_79 ha1 rfl ?_
  refine gq_iload_n hX dJ5_setLength_d00df_67 rfl rfl rfl ?_
  by_cases h0 : n = 0
  · refine gq_icmp_leT (tgt := 76) hX dJ5_setLength_d00df_68 rfl (nI_le (by omega) (by omega)) ?_
    refine gq_aload_n hX dJ5_setLength_d00df_76 rfl rfl rfl ?_
    refine gq_iload_n hX dJ5_setLength_d00df_77 rfl rfl rfl ?_
    refine gq_putf hX dJ5_setLength_d00df_78 rfl fJ5_79 rfl rfl rfl ha1 (Nat.le_of_ble_eq_true rfl) hla1 rfl ?_
    exact gq_vret hX hQ dJ5_setLength_d00df_81 rfl ⟨rfl, v1, m1, ⟨⟨z1, hput_s _ _ _⟩, ⟨f1, (hput_n (Ne.symm hav1)).trans hv1, hf1, fun i hi => absurd hi (Nat.not_lt_zero i)⟩, Nat.zero_le _, hm1, hav1, hla1, hlv1⟩, hfresh, fun q h2 h3 h4 => (hput_n h2).trans (hfr q h2 h3 h4)⟩
  · refine gq_icmp_leF (tgt := 76) hX dJ5_setLength_d00df_68 rfl rfl (nI_nle (by omega) (by omega)) ?_
    refine gq_aload_n hX dJ5_setLength_d00df_71 rfl rfl rfl ?_
    refine gq_iconst (v := nI 1) hX dJ5_setLength_d00df_72 rfl (by decide) ?_
    refine gq_putf hX dJ5_setLength_d00df_73 rfl fJ5_73 rfl rfl rfl ha1 (Nat.le_of_ble_eq_true rfl) hla1 rfl ?_
    refine gq_aload_n hX dJ5_setLength_d00df_76 rfl rfl rfl ?_
    refine gq_iload_n hX dJ5_setLength_d00df_77 rfl rfl rfl ?_
    refine gq_putf hX dJ5_setLength_d00df_78 rfl fJ5_79 rfl rfl rfl (hput_s _ _ _) (Nat.le_of_ble_eq_true rfl) hla1 rfl ?_
    exact gq_vret hX hQ dJ5_setLength_d00df_81 rfl ⟨rfl, v1, m1, ⟨⟨nI 1, hput_s _ _ _⟩, ⟨f1, (hput_n (Ne.symm hav1)).trans ((hput_n (Ne.symm hav1)).trans hv1), hf1, fun i hi => absurd hi (Nat.not_lt_zero i)⟩, Nat.zero_le _, hm1, hav1, hla1, hlv1⟩, hfresh, fun q h2 h3 h4 => (hput_n h2).trans ((hput_n h2).trans (hfr q h2 h3 h4))⟩

set_option maxRecDepth 100000 in
set_option maxHeartbeats 4000000 in
theorem ct_chk3 {E : Ev} {M : Hp} {i n : Nat} {x : Value} (hx : x.category = 1) (hi : i < n) (hn : n < 100000) : Ct E mJ3_checkIndex_8e157 [.int (nI i), .int (nI n), x] M (eqR (some (.int (nI i))) M) 0 0 := by
  refine Ct.of gmJ3_checkIndex_8e157 (ls := [.int (nI i), .int (nI n), x]) rfl (by simp only [List.all_cons, List.all_nil, Bool.and_true, hx]; rfl) (Nat.le_of_ble_eq_true rfl) ?_
  intro X hX Q hQ
  refine gq_iload_n hX dJ3_checkIndex_8e157_0 rfl rfl rfl ?_
  refine gq_if_ltF (tgt := 9) hX dJ3_checkIndex_8e157_1 rfl rfl (nI_pos (by omega)) ?_
  refine gq_iload_n hX dJ3_checkIndex_8e157_4 rfl rfl rfl ?_
  refine gq_iload_n hX dJ3_checkIndex_8e157_5 rfl rfl rfl ?_
  refine gq_icmp_ltT (tgt := 16) hX dJ3_checkIndex_8e157_6 rfl (nI_lt hi (by omega)) ?_
  refine gq_iload_n hX dJ3_checkIndex_8e157_16 rfl rfl rfl ?_
  exact gq_iret hX hQ dJ3_checkIndex_8e157_17 rfl ⟨rfl, rfl⟩

set_option maxRecDepth 100000 in
set_option maxHeartbeats 4000000 in
theorem ct_chk0 {E : Ev} {M : Hp} {i n : Nat} (hi : i < n) (hn : n < 100000) : Ct E mJ0_checkIndex_df160 [.int (nI i), .int (nI n)] M (eqR none M) 0 0 := by
  refine Ct.of gmJ0_checkIndex_df160 (ls := [.int (nI i), .int (nI n)]) rfl rfl (Nat.le_of_ble_eq_true rfl) ?_
  intro X hX Q hQ
  refine gq_iload_n hX dJ0_checkIndex_df160_0 rfl rfl rfl ?_
  refine gq_iload_n hX dJ0_checkIndex_df160_1 rfl rfl rfl ?_
  refine gq_getsF hX dJ0_checkIndex_df160_2 rfl lkJ0_1053 (fun x hx => ?_)
  refine gq_callSe hX dJ0_checkIndex_df160_5 rfl vJ0_1059 (ct_chk3 hx hi hn) rfl rfl (Nat.le_of_ble_eq_true rfl) ⟨(Nat.le_of_ble_eq_true rfl), (Nat.le_of_ble_eq_true rfl)⟩ (Nat.zero_add _) (Nat.zero_add _) ?_
  refine gq_pop hX dJ0_checkIndex_df160_8 rfl rfl ?_
  exact gq_vret hX hQ dJ0_checkIndex_df160_9 rfl ⟨rfl, rfl⟩

set_option maxRecDepth 100000 in
set_option maxHeartbeats 4000000 in
theorem ct_charAt5 {E : Ev} {M : Hp} {a v n m : Nat} {t : Nat → Nat} (h : SbP E a t n v m M) {i : Nat} (hi : i < n) : Ct E mJ5_charAt_5068e [.ref a, .int (nI i)] M (eqR (some (.int (nI (t i)))) M) 0 0 := by
  refine Ct.of gmJ5_charAt_5068e (ls := [.ref a, .int (nI i), hole, hole, hole]) rfl rfl (Nat.le_of_ble_eq_true rfl) ?_
  intro X hX Q hQ
  obtain ⟨⟨z, ha⟩, ⟨f, hv, hf, ht⟩, hnm, hm, hav, hla, hlv⟩ := id h
  obtain ⟨hti, htl⟩ := ht i hi
  refine gq_aload_n hX dJ5_charAt_5068e_0 rfl rfl rfl ?_
  refine gq_getf hX dJ5_charAt_5068e_1 rfl fJ5_22 ha rfl ?_
  refine gq_istore_n hX dJ5_charAt_5068e_4 rfl rfl (Nat.le_of_ble_eq_true rfl) rfl ?_
  refine gq_aload_n hX dJ5_charAt_5068e_5 rfl rfl rfl ?_
  refine gq_getf hX dJ5_charAt_5068e_6 rfl fJ5_15 ha rfl ?_
  refine gq_astore_n hX dJ5_charAt_5068e_9 rfl rfl (Nat.le_of_ble_eq_true rfl) rfl ?_
  refine gq_aload_n hX dJ5_charAt_5068e_10 rfl rfl rfl ?_
  refine gq_getf hX dJ5_charAt_5068e_11 rfl fJ5_79 ha rfl ?_
  refine gq_aload_n hX dJ5_charAt_5068e_14 rfl rfl rfl ?_
  refine gq_alen (t := 5) hX dJ5_charAt_5068e_15 rfl hv rfl ?_
  refine gq_iload_n hX dJ5_charAt_5068e_16 rfl rfl rfl ?_
  refine gq_ishr hX dJ5_charAt_5068e_17 rfl ?_
  rw [ish0]
  refine gq_mmin hX dJ5_charAt_5068e_18 rfl nJ5_138 (Nat.le_of_ble_eq_true rfl) (Nat.le_of_ble_eq_true rfl) ?_
  rw [if_neg (nI_nlt hnm (by omega))]
  refine gq_istore hX dJ5_charAt_5068e_21 rfl (Nat.le_of_ble_eq_true rfl) rfl ?_
  refine gq_iload_n hX dJ5_charAt_5068e_23 rfl rfl rfl ?_
  refine gq_iload hX dJ5_charAt_5068e_24 rfl rfl ?_
  refine gq_callSe hX dJ5_charAt_5068e_26 rfl vJ5_144 (ct_chk0 hi (by omega)) rfl rfl (Nat.le_of_ble_eq_true rfl) ⟨(Nat.le_of_ble_eq_true rfl), (Nat.le_of_ble_eq_true rfl)⟩ (Nat.zero_add _) (Nat.zero_add _) ?_
  refine gq_iload_n hX dJ5_charAt_5068e_29 rfl rfl rfl ?_
  refine gq_if_neF (tgt := 42) hX dJ5_charAt_5068e_30 rfl rfl (by decide) ?_
  refine gq_aload_n hX dJ5_charAt_5068e_33 rfl rfl rfl ?_
  refine gq_iload_n hX dJ5_charAt_5068e_34 rfl rfl rfl ?_
  refine gq_baldN hX dJ5_charAt_5068e_35 rfl hv rfl (by omega) (by omega) ?_
  rw [hti]
  refine gq_sipush (v := nI 255) hX dJ5_charAt_5068e_36 rfl (by decide) ?_
  refine gq_iand hX dJ5_charAt_5068e_39 rfl ?_
  refine gq_i2c hX dJ5_charAt_5068e_40 rfl (i2c_n htl) ?_
  exact gq_zret hX hQ dJ5_charAt_5068e_41 rfl (nar_c htl) ⟨rfl, rfl⟩

set_option maxRecDepth 100000 in
set_option maxHeartbeats 4000000 in
theorem ct_appC {E : Ev} {M : Hp} {a v n m : Nat} {t : Nat → Nat} (h : SbP E a t n v m M) {c : Nat} (hc : c < 128) (hn : n + 1 ≤ 71) : Ct E mJ4_append_cf468 [.ref a, .int (nI c)] M (fun r M1 => r = some (.ref a) ∧ SbN E a v (sb_cat t n (fun _ => c)) (n + 1) M M1) 1 142 := by
  refine Ct.of gmJ4_append_cf468 (ls := [.ref a, .int (nI c)]) rfl rfl (Nat.le_of_ble_eq_true rfl) ?_
  intro X hX Q hQ
  obtain ⟨⟨z, ha⟩, ⟨f, hv, hf, ht⟩, hnm, hm, hav, hla, hlv⟩ := id h
  refine gq_aload_n hX dJ4_append_cf468_0 rfl rfl rfl ?_
  refine gq_iload_n hX dJ4_append_cf468_1 rfl rfl rfl ?_
  refine gq_callZ (mc := 1) (ms := 142) (nc1 := 0) (ns1 := 0) hX rfl dJ4_append_cf468_2 zJ4_50 (ct_appC5 h hc hn) rfl ha rfl (Nat.le_of_ble_eq_true rfl) ⟨(Nat.le_of_ble_eq_true rfl), (Nat.le_of_ble_eq_true rfl)⟩ rfl rfl ?_
  rintro r M1 ⟨rfl, hs⟩
  refine gq_pop hX dJ4_append_cf468_5 rfl rfl ?_
  refine gq_aload_n hX dJ4_append_cf468_6 rfl rfl rfl ?_
  exact gq_aret hX hQ dJ4_append_cf468_7 rfl (Or.inl ⟨_, rfl⟩) ⟨rfl, hs⟩

set_option maxRecDepth 100000 in
set_option maxHeartbeats 4000000 in
theorem ct_appI {E : Ev} {M : Hp} {a v n m : Nat} {t : Nat → Nat} (h : SbP E a t n v m M) {w : Nat} (hw : w < 100000000) (hn : n + sb_dg w ≤ 71) : Ct E mJ4_append_bf812 [.ref a, .int (nI w)] M (fun r M1 => r = some (.ref a) ∧ SbN E a v (sb_cat t n (sb_dec w)) (n + sb_dg w) M M1) 1 142 := by
  refine Ct.of gmJ4_append_bf812 (ls := [.ref a, .int (nI w)]) rfl rfl (Nat.le_of_ble_eq_true rfl) ?_
  intro X hX Q hQ
  obtain ⟨⟨z, ha⟩, ⟨f, hv, hf, ht⟩, hnm, hm, hav, hla, hlv⟩ := id h
  refine gq_aload_n hX dJ4_append_bf812_0 rfl rfl rfl ?_
  refine gq_iload_n hX dJ4_append_bf812_1 rfl rfl rfl ?_
  refine gq_callZ (mc := 1) (ms := 142) (nc1 := 0) (ns1 := 0) hX rfl dJ4_append_bf812_2 zJ4_53 (ct_appI5 h hw hn) rfl ha rfl (Nat.le_of_ble_eq_true rfl) ⟨(Nat.le_of_ble_eq_true rfl), (Nat.le_of_ble_eq_true rfl)⟩ rfl rfl ?_
  rintro r M1 ⟨rfl, hs⟩
  refine gq_pop hX dJ4_append_bf812_5 rfl rfl ?_
  refine gq_aload_n hX dJ4_append_bf812_6 rfl rfl rfl ?_
  exact gq_aret hX hQ dJ4_append_bf812_7 rfl (Or.inl ⟨_, rfl⟩) ⟨rfl, hs⟩

set_option maxRecDepth 100000 in
set_option maxHeartbeats 4000000 in
theorem ct_charAt {E : Ev} {M : Hp} {a v n m : Nat} {t : Nat → Nat} (h : SbP E a t n v m M) {i : Nat} (hi : i < n) : Ct E mJ4_charAt_5068e [.ref a, .int (nI i)] M (eqR (some (.int (nI (t i)))) M) 0 0 := by
  refine Ct.of gmJ4_charAt_5068e (ls := [.ref a, .int (nI i)]) rfl rfl (Nat.le_of_ble_eq_true rfl) ?_
  intro X hX Q hQ
  obtain ⟨⟨z, ha⟩, ⟨f, hv, hf, ht⟩, hnm, hm, hav, hla, hlv⟩ := id h
  refine gq_aload_n hX dJ4_charAt_5068e_0 rfl rfl rfl ?_
  refine gq_iload_n hX dJ4_charAt_5068e_1 rfl rfl rfl ?_
  refine gq_callZ (mc := 0) (ms := 0) (nc1 := 0) (ns1 := 0) hX rfl dJ4_charAt_5068e_2 zJ4_329 (ct_charAt5 h hi) rfl ha rfl (Nat.le_of_ble_eq_true rfl) ⟨(Nat.le_of_ble_eq_true rfl), (Nat.le_of_ble_eq_true rfl)⟩ rfl rfl ?_
  rintro r M1 ⟨rfl, rfl⟩
  exact gq_zret hX hQ dJ4_charAt_5068e_5 rfl (nar_c (ht i hi).2) ⟨rfl, rfl⟩

set_option maxRecDepth 100000 in
set_option maxHeartbeats 4000000 in
theorem ct_setLen {E : Ev} {M : Hp} {a v n m : Nat} {t : Nat → Nat} (h : SbP E a t n v m M) : Ct E mJ4_setLength_d00df [.ref a, .int (nI 0)] M (fun r M1 => r = none ∧ SbN E a v t 0 M M1) 1 142 := by
  refine Ct.of gmJ4_setLength_d00df (ls := [.ref a, .int (nI 0)]) rfl rfl (Nat.le_of_ble_eq_true rfl) ?_
  intro X hX Q hQ
  obtain ⟨⟨z, ha⟩, ⟨f, hv, hf, ht⟩, hnm, hm, hav, hla, hlv⟩ := id h
  refine gq_aload_n hX dJ4_setLength_d00df_0 rfl rfl rfl ?_
  refine gq_iload_n hX dJ4_setLength_d00df_1 rfl rfl rfl ?_
  refine gq_callZ (mc := 1) (ms := 142) (nc1 := 0) (ns1 := 0) hX rfl dJ4_setLength_d00df_2 zJ4_333 (ct_setLen5 h) rfl ha rfl (Nat.le_of_ble_eq_true rfl) ⟨(Nat.le_of_ble_eq_true rfl), (Nat.le_of_ble_eq_true rfl)⟩ rfl rfl ?_
  rintro r M1 ⟨rfl, hs⟩
  exact gq_vret hX hQ dJ4_setLength_d00df_5 rfl ⟨rfl, hs⟩

set_option maxRecDepth 100000 in
set_option maxHeartbeats 4000000 in
theorem ct_sbLen {E : Ev} {M : Hp} {a v n m : Nat} {t : Nat → Nat} (h : SbP E a t n v m M) : Ct E mJ4_length_8abf5 [.ref a] M (eqR (some (.int (nI n))) M) 0 0 := by
  refine Ct.of gmJ4_length_8abf5 (ls := [.ref a]) rfl rfl (Nat.le_of_ble_eq_true rfl) ?_
  intro X hX Q hQ
  obtain ⟨⟨z, ha⟩, ⟨f, hv, hf, ht⟩, hnm, hm, hav, hla, hlv⟩ := id h
  refine gq_aload_n hX dJ4_length_8abf5_0 rfl rfl rfl ?_
  refine gq_callZ (mc := 0) (ms := 0) (nc1 := 0) (ns1 := 0) hX rfl dJ4_length_8abf5_1 zJ4_343 (ct_sbLen5 ha) rfl ha rfl (Nat.le_of_ble_eq_true rfl) ⟨(Nat.le_of_ble_eq_true rfl), (Nat.le_of_ble_eq_true rfl)⟩ rfl rfl ?_
  rintro r M1 ⟨rfl, rfl⟩
  exact gq_iret hX hQ dJ4_length_8abf5_4 rfl ⟨rfl, rfl⟩

set_option maxRecDepth 100000 in
set_option maxHeartbeats 4000000 in
theorem ct_sbInit5 {E : Ev} {M : Hp} {a : Nat} (ha : M a = some (.inr (1, [.null, .int 0, .int 0, .int 0]))) (hla : E.2.2.1 ≤ a) : Ct E mJ5_init_d00df [.ref a, .int (nI 16)] M (fun r M1 => r = none ∧ ∃ v, M v = none ∧ SbP E a (fun _ => 0) 0 v 16 M1 ∧ ∀ q, q ≠ a → q ≠ v → M1 q = M q) 1 16 := by
  refine Ct.of gmJ5_init_d00df (ls := [.ref a, .int (nI 16)]) rfl rfl (Nat.le_of_ble_eq_true rfl) ?_
  intro X hX Q hQ
  refine gq_aload_n hX dJ5_init_d00df_0 rfl rfl rfl ?_
  refine gq_objI hX dJ5_init_d00df_1 rfl (in1 178 rfl rfl) (in1 36 rfl rfl) (in1 37 rfl rfl) (Nat.le_of_ble_eq_true rfl) (Nat.le_of_ble_eq_true rfl) ?_
  refine gq_getsC hX dJ5_init_d00df_4 rfl lkJ5_18 ?_
  refine gq_if_eqF (tgt := 25) hX dJ5_init_d00df_7 rfl rfl (by decide) ?_
  refine gq_aload_n hX dJ5_init_d00df_10 rfl rfl rfl ?_
  refine gq_iload_n hX dJ5_init_d00df_11 rfl rfl rfl ?_
  refine gq_newa (fty := .byte) (t := 5) (N := 16) (a0 := (16, .inl (fun _ => 0))) (nc1 := 0) (ns1 := 0) hX dJ5_init_d00df_12 rfl rfl (in1 202 rfl rfl) rfl (fun _ _ h => h) (fun _ => rfl) (by decide) rfl (by decide) rfl rfl ?_
  intro v hv hva
  have hne : a ≠ v := fun e => by rw [← e, ha] at hv; cases hv
  refine gq_putf hX dJ5_init_d00df_14 rfl fJ5_15 rfl rfl rfl ((hput_n hne).trans ha) (Nat.le_of_ble_eq_true rfl) hla rfl ?_
  refine gq_aload_n hX dJ5_init_d00df_17 rfl rfl rfl ?_
  refine gq_iconst (v := 0) hX dJ5_init_d00df_18 rfl (by decide) ?_
  refine gq_putf hX dJ5_init_d00df_19 rfl fJ5_22 rfl rfl rfl (hput_s _ _ _) (Nat.le_of_ble_eq_true rfl) hla rfl ?_
  refine gq_goto (tgt := 38) hX dJ5_init_d00df_22 rfl ?_
  exact gq_vret hX hQ dJ5_init_d00df_38 rfl ⟨rfl, v, hv, ⟨⟨0, hput_s _ _ _⟩, ⟨fun _ => 0, (hput_n (Ne.symm hne)).trans ((hput_n (Ne.symm hne)).trans (hput_s _ _ _)), fun _ => fits_byte0, fun i hi => absurd hi (Nat.not_lt_zero i)⟩, Nat.zero_le _, by decide, hne, hla, hva⟩, fun q h1 h2 => (hput_n h1).trans ((hput_n h1).trans (hput_n h2))⟩

set_option maxRecDepth 100000 in
set_option maxHeartbeats 4000000 in
theorem ct_sbInit {E : Ev} {M : Hp} {a : Nat} (ha : M a = some (.inr (1, [.null, .int 0, .int 0, .int 0]))) (hla : E.2.2.1 ≤ a) : Ct E mJ4_init_da8c8 [.ref a] M (fun r M1 => r = none ∧ ∃ v, M v = none ∧ SbP E a (fun _ => 0) 0 v 16 M1 ∧ ∀ q, q ≠ a → q ≠ v → M1 q = M q) 1 16 := by
  refine Ct.of gmJ4_init_da8c8 (ls := [.ref a]) rfl rfl (Nat.le_of_ble_eq_true rfl) ?_
  intro X hX Q hQ
  refine gq_aload_n hX dJ4_init_da8c8_0 rfl rfl rfl ?_
  refine gq_bipush (v := nI 16) hX dJ4_init_da8c8_1 rfl (by decide) ?_
  refine gq_callI (mc := 1) (ms := 16) (nc1 := 0) (ns1 := 0) hX dJ4_init_da8c8_3 vJ4_1 (ct_sbInit5 ha hla) rfl rfl (Nat.le_of_ble_eq_true rfl) ⟨(Nat.le_of_ble_eq_true rfl), (Nat.le_of_ble_eq_true rfl)⟩ rfl rfl ?_
  rintro r M1 ⟨rfl, hs⟩
  exact gq_vret hX hQ dJ4_init_da8c8_6 rfl ⟨rfl, hs⟩

set_option maxRecDepth 100000 in
set_option maxHeartbeats 4000000 in
theorem ct_kLat {E : Ev} {M : Hp} {i : Nat} (hi : i < 13) : Ct E mJ0_isLatin1_aae02 [.ref (E.2.2.2.2.1 i)] M (eqR (some (.int (nI 1))) M) 0 0 := by
  refine Ct.of gmJ0_isLatin1_aae02 (ls := [.ref (E.2.2.2.2.1 i)]) rfl rfl (Nat.le_of_ble_eq_true rfl) ?_
  intro X hX Q hQ
  refine gq_getsC hX dJ0_isLatin1_aae02_0 rfl lkJ0_38 ?_
  refine gq_if_eqF (tgt := 17) hX dJ0_isLatin1_aae02_3 rfl rfl (by decide) ?_
  refine gq_aload_n hX dJ0_isLatin1_aae02_6 rfl rfl rfl ?_
  refine gq_kco hX hi dJ0_isLatin1_aae02_7 rfl lkJ0_15 ?_
  refine gq_if_neF (tgt := 17) hX dJ0_isLatin1_aae02_10 rfl rfl (by decide) ?_
  refine gq_iconst (v := nI 1) hX dJ0_isLatin1_aae02_13 rfl (by decide) ?_
  refine gq_goto (tgt := 18) hX dJ0_isLatin1_aae02_14 rfl ?_
  exact gq_zret hX hQ dJ0_isLatin1_aae02_18 rfl (by decide) ⟨rfl, rfl⟩

set_option maxRecDepth 100000 in
set_option maxHeartbeats 4000000 in
theorem ct_kCod {E : Ev} {M : Hp} {i : Nat} (hi : i < 13) : Ct E mJ0_coder_7d493 [.ref (E.2.2.2.2.1 i)] M (eqR (some (.int 0)) M) 0 0 := by
  refine Ct.of gmJ0_coder_7d493 (ls := [.ref (E.2.2.2.2.1 i)]) rfl rfl (Nat.le_of_ble_eq_true rfl) ?_
  intro X hX Q hQ
  refine gq_getsC hX dJ0_coder_7d493_0 rfl lkJ0_38 ?_
  refine gq_if_eqF (tgt := 13) hX dJ0_coder_7d493_3 rfl rfl (by decide) ?_
  refine gq_aload_n hX dJ0_coder_7d493_6 rfl rfl rfl ?_
  refine gq_kco hX hi dJ0_coder_7d493_7 rfl lkJ0_15 ?_
  refine gq_goto (tgt := 14) hX dJ0_coder_7d493_10 rfl ?_
  exact gq_zret hX hQ dJ0_coder_7d493_14 rfl (by decide) ⟨rfl, rfl⟩

set_option maxRecDepth 100000 in
set_option maxHeartbeats 4000000 in
theorem ct_kLen {E : Ev} {M : Hp} {i : Nat} (hi : i < 13) : Ct E mJ0_length_8abf5 [.ref (E.2.2.2.2.1 i)] M (eqR (some (.int (nI (frmL.getD i 0)))) M) 0 0 := by
  refine Ct.of gmJ0_length_8abf5 (ls := [.ref (E.2.2.2.2.1 i)]) rfl rfl (Nat.le_of_ble_eq_true rfl) ?_
  intro X hX Q hQ
  refine gq_aload_n hX dJ0_length_8abf5_0 rfl rfl rfl ?_
  refine gq_kva hX hi dJ0_length_8abf5_1 rfl lkJ0_9 ?_
  refine gq_kle hX hi dJ0_length_8abf5_4 rfl ?_
  refine gq_aload_n hX dJ0_length_8abf5_5 rfl rfl rfl ?_
  refine gq_callK (mc := 0) (ms := 0) (nc1 := 0) (ns1 := 0) hX dJ0_length_8abf5_6 vJ0_335 (ct_kCod hi) rfl hi rfl rfl (Nat.le_of_ble_eq_true rfl) ⟨(Nat.le_of_ble_eq_true rfl), (Nat.le_of_ble_eq_true rfl)⟩ rfl rfl ?_
  rintro r M1 ⟨rfl, rfl⟩
  refine gq_ishr hX dJ0_length_8abf5_9 rfl ?_
  rw [ish0]
  exact gq_iret hX hQ dJ0_length_8abf5_10 rfl ⟨rfl, rfl⟩

/-- the letters of the forms -/
def frmN (i j : Nat) : Nat := ((frmB.getD i []).getD j 0).toNatClampNeg
theorem frm_all : ∀ i, i < 13 → ∀ j, j < frmL.getD i 0 → frmN i j < 128 ∧ frmL.getD i 0 < 1000 ∧ (frmB.getD i []).getD j 0 = nI (frmN i j) := by decide +kernel
theorem frm_lt {i j : Nat} (hi : i < 13) (hj : j < frmL.getD i 0) : frmN i j < 128 ∧ frmL.getD i 0 < 1000 := ⟨(frm_all i hi j hj).1, (frm_all i hi j hj).2.1⟩
theorem frm_e {i j : Nat} (hi : i < 13) (hj : j < frmL.getD i 0) : (frmB.getD i []).getD j 0 = nI (frmN i j) := (frm_all i hi j hj).2.2

set_option maxRecDepth 100000 in
set_option maxHeartbeats 4000000 in
theorem ct_kCh1 {E : Ev} {M : Hp} {i : Nat} (hi : i < 13) {j : Nat} (hj : j < frmL.getD i 0) : Ct E mJ1_charAt_3b067 [.ref (E.2.2.2.2.2 i), .int (nI j)] M (eqR (some (.int (nI (frmN i j)))) M) 0 0 := by
  refine Ct.of gmJ1_charAt_3b067 (ls := [.ref (E.2.2.2.2.2 i), .int (nI j)]) rfl rfl (Nat.le_of_ble_eq_true rfl) ?_
  intro X hX Q hQ
  obtain ⟨h128, hjl⟩ := frm_lt hi hj
  refine gq_iload_n hX dJ1_charAt_3b067_0 rfl rfl rfl ?_
  refine gq_aload_n hX dJ1_charAt_3b067_1 rfl rfl rfl ?_
  refine gq_kle hX hi dJ1_charAt_3b067_2 rfl ?_
  refine gq_callSe hX dJ1_charAt_3b067_3 rfl vJ1_9 (ct_chk0 hj (by omega)) rfl rfl (Nat.le_of_ble_eq_true rfl) ⟨(Nat.le_of_ble_eq_true rfl), (Nat.le_of_ble_eq_true rfl)⟩ (Nat.zero_add _) (Nat.zero_add _) ?_
  refine gq_aload_n hX dJ1_charAt_3b067_6 rfl rfl rfl ?_
  refine gq_iload_n hX dJ1_charAt_3b067_7 rfl rfl rfl ?_
  refine gq_kby hX hi dJ1_charAt_3b067_8 rfl rfl hj (by omega) ?_
  rw [frm_e hi hj]
  refine gq_sipush (v := 255) hX dJ1_charAt_3b067_9 rfl (by decide) ?_
  refine gq_iand hX dJ1_charAt_3b067_12 rfl ?_
  refine gq_i2c hX dJ1_charAt_3b067_13 rfl (i2c_n h128) ?_
  exact gq_zret hX hQ dJ1_charAt_3b067_14 rfl (nar_c h128) ⟨rfl, rfl⟩

set_option maxRecDepth 100000 in
set_option maxHeartbeats 4000000 in
theorem ct_kCh {E : Ev} {M : Hp} {i : Nat} (hi : i < 13) {j : Nat} (hj : j < frmL.getD i 0) : Ct E mJ0_charAt_5068e [.ref (E.2.2.2.2.1 i), .int (nI j)] M (eqR (some (.int (nI (frmN i j)))) M) 0 0 := by
  refine Ct.of gmJ0_charAt_5068e (ls := [.ref (E.2.2.2.2.1 i), .int (nI j)]) rfl rfl (Nat.le_of_ble_eq_true rfl) ?_
  intro X hX Q hQ
  refine gq_aload_n hX dJ0_charAt_5068e_0 rfl rfl rfl ?_
  refine gq_callK (mc := 0) (ms := 0) (nc1 := 0) (ns1 := 0) hX dJ0_charAt_5068e_1 vJ0_492 (ct_kLat hi) rfl hi rfl rfl (Nat.le_of_ble_eq_true rfl) ⟨(Nat.le_of_ble_eq_true rfl), (Nat.le_of_ble_eq_true rfl)⟩ rfl rfl ?_
  rintro r M1 ⟨rfl, rfl⟩
  refine gq_if_eqF (tgt := 16) hX dJ0_charAt_5068e_4 rfl rfl (by decide) ?_
  refine gq_aload_n hX dJ0_charAt_5068e_7 rfl rfl rfl ?_
  refine gq_kva hX hi dJ0_charAt_5068e_8 rfl lkJ0_9 ?_
  refine gq_iload_n hX dJ0_charAt_5068e_11 rfl rfl rfl ?_
  refine gq_callSe hX dJ0_charAt_5068e_12 rfl vJ0_495 (ct_kCh1 hi hj) rfl rfl (Nat.le_of_ble_eq_true rfl) ⟨(Nat.le_of_ble_eq_true rfl), (Nat.le_of_ble_eq_true rfl)⟩ (Nat.zero_add _) (Nat.zero_add _) ?_
  exact gq_zret hX hQ dJ0_charAt_5068e_15 rfl (nar_c (frm_lt hi hj).1) ⟨rfl, rfl⟩

