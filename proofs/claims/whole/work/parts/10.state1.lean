theorem vz0 : vp_nar .boolean (nI 0) = nI 0 := by decide
theorem vz1 : vp_nar .boolean (nI 1) = nI 1 := by decide
theorem nz0 : narrow .boolean (.int (nI 0)) = .int (nI 0) := rfl
theorem nz1 : narrow .boolean (.int (nI 1)) = .int (nI 1) := rfl
theorem incA (x : Int32) : x + Int32.ofInt 1 = x + nI 1 := rfl
theorem dcm (j : Nat) : nI (j + 1) - nI 1 = nI j := nI_pred j
theorem inM (j : Nat) : nI j + nI 1 = nI (j + 1) := nI_1 j
/-- a number among the first n -/
def hasI (n : Nat) (c : Int32) : Int32 := if c < 0 then nI 0 else if nI n ≤ c then nI 0 else nI 1
theorem hasI_yes {n j : Nat} (h : j < n) (hn : n < 100000) : hasI n (nI j) = nI 1 := by
  unfold hasI
  rw [if_neg (nI_pos (by omega)), if_neg (nI_ge h (by omega))]
theorem hasI_ix {n : Nat} {c : Int32} (hn : n < 100000) (h : ¬ hasI n c = 0) : ∃ j, j < n ∧ c = nI j := by
  unfold hasI at h
  rcases pk_ix c (n := n) (by omega) with h1 | h1 | h1
  · rw [if_pos h1] at h
    exact absurd nI_0 h
  · split at h
    · exact absurd nI_0 h
    · first | (rw [if_pos h1] at h; exact absurd nI_0 h) | exact absurd rfl h
  · exact h1
/-- what a state's counts are -/
def Wf (S : St) (nc nt no : Nat) : Prop := S.1 0 = nI nc ∧ nc ≤ 6 ∧ S.1 1 = nI nt ∧ nt ≤ 8 ∧ S.1 7 = nI no ∧ no ≤ 8
def lenB (S : St) (nt : Nat) (c : Int32) : Int32 := it (fun j s => if S.2 5 j = c then s + S.2 4 j else s) (nI 0) nt
def taiB (S : St) (nt : Nat) (c : Int32) : Int32 := it (fun j s => if S.2 5 j = c then s + nI 1 else s) (nI 0) nt
def arrSum (S : St) (nc : Nat) : Int32 := it (fun j s => s + S.2 2 j) (nI 0) nc
def cntFly (S : St) (nc : Nat) : Int32 := it (fun j s => if S.2 3 j = 0 then s else s + nI 1) (nI 0) nc
def cntSec (S : St) (no : Nat) : Int32 := it (fun j s => if S.2 11 j = -1 then s else s + nI 1) (nI 0) no
def aheadI (S : St) (a b : Nat) : Int32 := if S.2 2 a = S.2 2 b then (if S.2 1 a = S.2 1 b then (if nI b ≤ nI a then nI 0 else nI 1) else if S.2 1 a ≤ S.2 1 b then nI 0 else nI 1) else if S.2 2 a ≤ S.2 2 b then nI 0 else nI 1
def rankI (S : St) (nc a : Nat) : Int32 := it (fun j s => if aheadI S j a = 0 then s else s + nI 1) (nI 0) nc
def firstI (p : Nat → Bool) : Nat → Nat → Option Nat
  | 0, _ => none
  | n + 1, j => if p j = true then some j else firstI p n (j + 1)
def slO (o : Option Nat) : Int32 := match o with
  | some k => nI k
  | none => -1
def slotO (S : St) (no : Nat) (id : Int32) : Option Nat := firstI (fun j => decide (S.2 7 j = id)) no 0
def rankO (S : St) (nc : Nat) (r : Int32) : Option Nat := firstI (fun j => decide (rankI S nc j = r)) nc 0
theorem firstI_some {p : Nat → Bool} : ∀ {n j k : Nat}, firstI p n j = some k → j ≤ k ∧ k < j + n ∧ p k = true
  | 0, _, _, h => by cases h
  | n + 1, j, k, h => by
    unfold firstI at h
    split at h
    · cases h
      exact ⟨Nat.le_refl _, by omega, by assumption⟩
    · obtain ⟨h1, h2, h3⟩ := firstI_some h
      exact ⟨by omega, by omega, h3⟩
theorem firstI_none {p : Nat → Bool} : ∀ {n j k : Nat}, firstI p n j = none → j ≤ k → k < j + n → ¬ p k = true
  | 0, _, _, _, h1, h2 => by omega
  | n + 1, j, k, h, h1, h2 => by
    unfold firstI at h
    split at h
    · cases h
    · rcases Nat.eq_or_lt_of_le h1 with e | e
      · subst e
        assumption
      · exact firstI_none h (by omega) (by omega)
theorem firstI_cong {p q : Nat → Bool} : ∀ {n j : Nat}, (∀ k, j ≤ k → k < j + n → p k = q k) → firstI p n j = firstI q n j
  | 0, _, _ => rfl
  | n + 1, j, h => by
    unfold firstI
    rw [h j (Nat.le_refl _) (by omega), firstI_cong (fun k h1 h2 => h k (by omega) (by omega))]
theorem it_cong {α : Type} {f g : Nat → α → α} {a : α} : ∀ {n : Nat}, (∀ j x, j < n → f j x = g j x) → it f a n = it g a n
  | 0, _ => rfl
  | n + 1, h => by rw [it, it, it_cong (fun j x hj => h j x (by omega)), h n _ (by omega)]
theorem slotO_lt {S : St} {no k : Nat} {id : Int32} (h : slotO S no id = some k) : k < no ∧ S.2 7 k = id := by
  obtain ⟨-, h2, h3⟩ := firstI_some h
  exact ⟨by omega, by simpa using h3⟩
def comF (S : St) (m : Int32) : Int32 := if m < nI 1 then nI 1 else if m ≤ nI 9 then (if S.1 0 < nI 6 then nI 0 else nI 2) else nI 1
def taiF (S : St) (m : Int32) : Int32 := if m < nI 1 then nI 1 else if m ≤ nI 9 then (if S.1 1 < nI 8 then nI 0 else nI 2) else nI 1
def payF (S : St) (nc : Nat) (c coins : Int32) : Int32 := if hasI nc c = 0 then nI 1 else if coins < nI 1 then nI 2 else if coins ≤ nI 99 then (if coins ≤ S.2 2 c.toNatClampNeg then nI 0 else nI 3) else nI 2
def lauF (S : St) (nc : Nat) (c : Int32) : Int32 := if hasI nc c = 0 then nI 1 else if S.2 3 c.toNatClampNeg = 0 then (if S.2 2 c.toNatClampNeg ≤ 0 then nI 0 else nI 2) else nI 2
def fulF (S : St) : Int32 := if S.1 7 < nI 8 then nI 0 else nI 1
def tmoF (S : St) (nc nt : Nat) (c t : Int32) : Int32 := if hasI nc c = 0 then nI 1 else if hasI nt t = 0 then nI 1 else if fulF S = 0 then nI 0 else nI 2
def gmoF (S : St) (nc : Nat) (c t : Int32) : Int32 := if hasI nc c = 0 then nI 1 else if hasI nc t = 0 then nI 1 else if fulF S = 0 then nI 0 else nI 2
def secF (S : St) (nc no : Nat) (c id : Int32) : Int32 := if hasI nc c = 0 then nI 1 else match slotO S no id with
  | none => nI 2
  | some k => if S.2 9 k = c then nI 3 else if S.2 11 k = -1 then nI 0 else nI 4
def untF (S : St) (no : Nat) (id : Int32) : Int32 := match slotO S no id with
  | none => nI 1
  | some k => if S.2 12 k = 0 then nI 2 else nI 0
def witF (S : St) (no : Nat) (id : Int32) : Int32 := match slotO S no id with
  | none => nI 1
  | some _ => nI 0
def votF (S : St) (no : Nat) (id : Int32) : Int32 := match slotO S no id with
  | none => nI 1
  | some k => if S.2 11 k = -1 then nI 2 else if S.2 12 k = 0 then nI 0 else nI 2
def gusF (s : Int32) : Int32 := if s < 0 then nI 1 else if s ≤ nI 20 then nI 0 else nI 1
def pasF (s : Int32) : Int32 := if s < nI 1 then nI 1 else if s ≤ nI 12 then nI 0 else nI 1
def voiF (S : St) (k a j : Nat) : Int32 := if nI j = nI a then nI 1 else if nI j = S.2 11 k then nI 1 else if S.2 3 j = 0 then nI 0 else if S.2 2 a < S.2 2 j then -1 else nI 1
def sumV (S : St) (nc k a : Nat) (v : Int32) : Int32 := it (fun j s => if voiF S k a j = v then s + S.2 1 j else s) (nI 0) nc
def sumM1 (S : St) (nc k a : Nat) (x : Nat) (s0 : Int32) : Int32 := it (fun j s => if S.2 1 j < nI (x + 1) then s else if voiF S k a j = nI 1 then s + nI 1 else s) s0 nc
def sumM (S : St) (nc k a : Nat) : Int32 := it (fun x s => sumM1 S nc k a x s) (nI 0) 9
def shoO (S : St) (nt : Nat) : Int32 := it (fun j b => if S.2 5 j = -1 then (if b = -1 then nI j else if S.2 4 b.toNatClampNeg ≤ S.2 4 j then b else nI j) else b) (-1) nt

set_option maxRecDepth 100000 in
set_option maxHeartbeats 4000000 in
theorem ct_hasCommittee {E : Ev} {b : Nat → Nat} {S : St} {M : Hp} (hb : Lay E 13 b) {nc nt no : Nat} (hwf : Wf S nc nt no) (c : Int32) : Ct E mX3_hasCommittee [.ref (b 0), .int c] (StP E b S M) (eqR (some (.int (hasI nc c))) (StP E b S M)) 0 0 := by
  refine Ct.of gmX3_hasCommittee (ls := [.ref (b 0), .int c]) rfl rfl (Nat.le_of_ble_eq_true rfl) ?_
  intro X hX Q hQ
  have hwf2 := hwf
  obtain ⟨hnc, hncl, hnt, hntl, hno, hnol⟩ := hwf2
  refine gq_iload_n hX dX3_hasCommittee_0 rfl rfl rfl ?_
  refine gq_if_lt (tgt := 16) hX dX3_hasCommittee_1 rfl rfl (fun c1 => ?_) (fun c1 => ?_)
  · refine gq_iconst (v := nI 0) hX dX3_hasCommittee_16 rfl (by decide) ?_
    refine gq_zret hX hQ dX3_hasCommittee_17 rfl rfl ⟨?_, rfl⟩
    rw [hnc] at *
    simp [hasI, *]
  · refine gq_iload_n hX dX3_hasCommittee_4 rfl rfl rfl ?_
    refine gq_aload_n hX dX3_hasCommittee_5 rfl rfl rfl ?_
    refine gq_getf hX dX3_hasCommittee_6 rfl fX3_9 (sxR0 hb) rfl ?_
    refine gq_icmp_ge (tgt := 16) hX dX3_hasCommittee_9 rfl rfl (fun c9 => ?_) (fun c9 => ?_)
    · refine gq_iconst (v := nI 0) hX dX3_hasCommittee_16 rfl (by decide) ?_
      refine gq_zret hX hQ dX3_hasCommittee_17 rfl rfl ⟨?_, rfl⟩
      rw [hnc] at *
      simp [hasI, *]
    · refine gq_iconst (v := nI 1) hX dX3_hasCommittee_12 rfl (by decide) ?_
      refine gq_goto (tgt := 17) hX dX3_hasCommittee_13 rfl ?_
      refine gq_zret hX hQ dX3_hasCommittee_17 rfl rfl ⟨?_, rfl⟩
      rw [hnc] at *
      simp [hasI, *]

set_option maxRecDepth 100000 in
set_option maxHeartbeats 4000000 in
theorem ct_hasTail {E : Ev} {b : Nat → Nat} {S : St} {M : Hp} (hb : Lay E 13 b) {nc nt no : Nat} (hwf : Wf S nc nt no) (c : Int32) : Ct E mX3_hasTail [.ref (b 0), .int c] (StP E b S M) (eqR (some (.int (hasI nt c))) (StP E b S M)) 0 0 := by
  refine Ct.of gmX3_hasTail (ls := [.ref (b 0), .int c]) rfl rfl (Nat.le_of_ble_eq_true rfl) ?_
  intro X hX Q hQ
  have hwf2 := hwf
  obtain ⟨hnc, hncl, hnt, hntl, hno, hnol⟩ := hwf2
  refine gq_iload_n hX dX3_hasTail_0 rfl rfl rfl ?_
  refine gq_if_lt (tgt := 16) hX dX3_hasTail_1 rfl rfl (fun c1 => ?_) (fun c1 => ?_)
  · refine gq_iconst (v := nI 0) hX dX3_hasTail_16 rfl (by decide) ?_
    refine gq_zret hX hQ dX3_hasTail_17 rfl rfl ⟨?_, rfl⟩
    rw [hnt] at *
    simp [hasI, *]
  · refine gq_iload_n hX dX3_hasTail_4 rfl rfl rfl ?_
    refine gq_aload_n hX dX3_hasTail_5 rfl rfl rfl ?_
    refine gq_getf hX dX3_hasTail_6 rfl fX3_26 (sxR0 hb) rfl ?_
    refine gq_icmp_ge (tgt := 16) hX dX3_hasTail_9 rfl rfl (fun c9 => ?_) (fun c9 => ?_)
    · refine gq_iconst (v := nI 0) hX dX3_hasTail_16 rfl (by decide) ?_
      refine gq_zret hX hQ dX3_hasTail_17 rfl rfl ⟨?_, rfl⟩
      rw [hnt] at *
      simp [hasI, *]
    · refine gq_iconst (v := nI 1) hX dX3_hasTail_12 rfl (by decide) ?_
      refine gq_goto (tgt := 17) hX dX3_hasTail_13 rfl ?_
      refine gq_zret hX hQ dX3_hasTail_17 rfl rfl ⟨?_, rfl⟩
      rw [hnt] at *
      simp [hasI, *]

set_option maxRecDepth 100000 in
set_option maxHeartbeats 4000000 in
theorem ct_lengthBehind {E : Ev} {b : Nat → Nat} {S : St} {M : Hp} (hb : Lay E 13 b) {nc nt no : Nat} (hwf : Wf S nc nt no) (c : Int32) : Ct E mX3_lengthBehind [.ref (b 0), .int c] (StP E b S M) (eqR (some (.int (lenB S nt c))) (StP E b S M)) 0 0 := by
  refine Ct.of gmX3_lengthBehind (ls := [.ref (b 0), .int c, hole, hole]) rfl rfl (Nat.le_of_ble_eq_true rfl) ?_
  intro X hX Q hQ
  have hwf2 := hwf
  obtain ⟨hnc, hncl, hnt, hntl, hno, hnol⟩ := hwf2
  refine gq_iconst (v := nI 0) hX dX3_lengthBehind_0 rfl (by decide) ?_
  refine gq_istore_n hX dX3_lengthBehind_1 rfl rfl (Nat.le_of_ble_eq_true rfl) rfl ?_
  refine gq_iconst (v := nI 0) hX dX3_lengthBehind_2 rfl (by decide) ?_
  refine gq_istore_n hX dX3_lengthBehind_3 rfl rfl (Nat.le_of_ble_eq_true rfl) rfl ?_
  have loop : ∀ n j : Nat, j + n = nt → Gq E X mX3_lengthBehind Q 4 [.ref (b 0), .int c, .int (it (fun j s => if S.2 5 j = c then s + S.2 4 j else s) (nI 0) j), .int (nI j)] [] (StP E b S M) 0 0 := by
    intro n
    induction n with
    | zero =>
      intro j hj
      refine gq_iload_n hX dX3_lengthBehind_4 rfl rfl rfl ?_
      refine gq_aload_n hX dX3_lengthBehind_5 rfl rfl rfl ?_
      refine gq_getf hX dX3_lengthBehind_6 rfl fX3_26 (sxR0 hb) rfl ?_
      refine gq_icmp_geT (tgt := 37) hX dX3_lengthBehind_9 rfl (cT hnt (by omega) (by omega)) ?_
      have ej : nt = j := by omega
      subst ej
      refine gq_iload_n hX dX3_lengthBehind_37 rfl rfl rfl ?_
      exact gq_iret hX hQ dX3_lengthBehind_38 rfl ⟨rfl, rfl⟩
    | succ n ih =>
      intro j hj
      refine gq_iload_n hX dX3_lengthBehind_4 rfl rfl rfl ?_
      refine gq_aload_n hX dX3_lengthBehind_5 rfl rfl rfl ?_
      refine gq_getf hX dX3_lengthBehind_6 rfl fX3_26 (sxR0 hb) rfl ?_
      refine gq_icmp_geF (tgt := 37) hX dX3_lengthBehind_9 rfl rfl (cF hnt (by omega) (by omega)) ?_
      refine gq_aload_n hX dX3_lengthBehind_12 rfl rfl rfl ?_
      refine gq_getf hX dX3_lengthBehind_13 rfl fX3_32 (sxR0 hb) rfl ?_
      refine gq_iload_n hX dX3_lengthBehind_16 rfl rfl rfl ?_
      refine gq_ialdN hX dX3_lengthBehind_17 rfl (sxR5 hb) rfl (by omega) (Nat.le_of_ble_eq_true rfl) ?_
      refine gq_iload_n hX dX3_lengthBehind_18 rfl rfl rfl ?_
      refine gq_icmp_ne (tgt := 31) hX dX3_lengthBehind_19 rfl rfl (fun c9 => ?_) (fun c9 => ?_)
      · refine gq_iinc hX dX3_lengthBehind_31 rfl rfl (inc1 _) (Nat.le_of_ble_eq_true rfl) rfl ?_
        refine gq_goto (tgt := 4) hX dX3_lengthBehind_34 rfl ?_
        exact gq_ls (by simp only [it, if_neg c9]; rfl) rfl rfl (ih (j + 1) (by omega))
      · refine gq_iload_n hX dX3_lengthBehind_22 rfl rfl rfl ?_
        refine gq_aload_n hX dX3_lengthBehind_23 rfl rfl rfl ?_
        refine gq_getf hX dX3_lengthBehind_24 rfl fX3_29 (sxR0 hb) rfl ?_
        refine gq_iload_n hX dX3_lengthBehind_27 rfl rfl rfl ?_
        refine gq_ialdN hX dX3_lengthBehind_28 rfl (sxR4 hb) rfl (by omega) (Nat.le_of_ble_eq_true rfl) ?_
        refine gq_iadd hX dX3_lengthBehind_29 rfl ?_
        refine gq_istore_n hX dX3_lengthBehind_30 rfl rfl (Nat.le_of_ble_eq_true rfl) rfl ?_
        refine gq_iinc hX dX3_lengthBehind_31 rfl rfl (inc1 _) (Nat.le_of_ble_eq_true rfl) rfl ?_
        refine gq_goto (tgt := 4) hX dX3_lengthBehind_34 rfl ?_
        exact gq_ls (by simp only [it, if_pos c9]; rfl) rfl rfl (ih (j + 1) (by omega))
  exact loop nt 0 (by omega)

set_option maxRecDepth 100000 in
set_option maxHeartbeats 4000000 in
theorem ct_tailsBehind {E : Ev} {b : Nat → Nat} {S : St} {M : Hp} (hb : Lay E 13 b) {nc nt no : Nat} (hwf : Wf S nc nt no) (c : Int32) : Ct E mX3_tailsBehind [.ref (b 0), .int c] (StP E b S M) (eqR (some (.int (taiB S nt c))) (StP E b S M)) 0 0 := by
  refine Ct.of gmX3_tailsBehind (ls := [.ref (b 0), .int c, hole, hole]) rfl rfl (Nat.le_of_ble_eq_true rfl) ?_
  intro X hX Q hQ
  have hwf2 := hwf
  obtain ⟨hnc, hncl, hnt, hntl, hno, hnol⟩ := hwf2
  refine gq_iconst (v := nI 0) hX dX3_tailsBehind_0 rfl (by decide) ?_
  refine gq_istore_n hX dX3_tailsBehind_1 rfl rfl (Nat.le_of_ble_eq_true rfl) rfl ?_
  refine gq_iconst (v := nI 0) hX dX3_tailsBehind_2 rfl (by decide) ?_
  refine gq_istore_n hX dX3_tailsBehind_3 rfl rfl (Nat.le_of_ble_eq_true rfl) rfl ?_
  have loop : ∀ n j : Nat, j + n = nt → Gq E X mX3_tailsBehind Q 4 [.ref (b 0), .int c, .int (it (fun j s => if S.2 5 j = c then s + nI 1 else s) (nI 0) j), .int (nI j)] [] (StP E b S M) 0 0 := by
    intro n
    induction n with
    | zero =>
      intro j hj
      refine gq_iload_n hX dX3_tailsBehind_4 rfl rfl rfl ?_
      refine gq_aload_n hX dX3_tailsBehind_5 rfl rfl rfl ?_
      refine gq_getf hX dX3_tailsBehind_6 rfl fX3_26 (sxR0 hb) rfl ?_
      refine gq_icmp_geT (tgt := 31) hX dX3_tailsBehind_9 rfl (cT hnt (by omega) (by omega)) ?_
      have ej : nt = j := by omega
      subst ej
      refine gq_iload_n hX dX3_tailsBehind_31 rfl rfl rfl ?_
      exact gq_iret hX hQ dX3_tailsBehind_32 rfl ⟨rfl, rfl⟩
    | succ n ih =>
      intro j hj
      refine gq_iload_n hX dX3_tailsBehind_4 rfl rfl rfl ?_
      refine gq_aload_n hX dX3_tailsBehind_5 rfl rfl rfl ?_
      refine gq_getf hX dX3_tailsBehind_6 rfl fX3_26 (sxR0 hb) rfl ?_
      refine gq_icmp_geF (tgt := 31) hX dX3_tailsBehind_9 rfl rfl (cF hnt (by omega) (by omega)) ?_
      refine gq_aload_n hX dX3_tailsBehind_12 rfl rfl rfl ?_
      refine gq_getf hX dX3_tailsBehind_13 rfl fX3_32 (sxR0 hb) rfl ?_
      refine gq_iload_n hX dX3_tailsBehind_16 rfl rfl rfl ?_
      refine gq_ialdN hX dX3_tailsBehind_17 rfl (sxR5 hb) rfl (by omega) (Nat.le_of_ble_eq_true rfl) ?_
      refine gq_iload_n hX dX3_tailsBehind_18 rfl rfl rfl ?_
      refine gq_icmp_ne (tgt := 25) hX dX3_tailsBehind_19 rfl rfl (fun c9 => ?_) (fun c9 => ?_)
      · refine gq_iinc hX dX3_tailsBehind_25 rfl rfl (inc1 _) (Nat.le_of_ble_eq_true rfl) rfl ?_
        refine gq_goto (tgt := 4) hX dX3_tailsBehind_28 rfl ?_
        exact gq_ls (by simp only [it, if_neg c9]; rfl) rfl rfl (ih (j + 1) (by omega))
      · refine gq_iinc hX dX3_tailsBehind_22 rfl rfl (incA _) (Nat.le_of_ble_eq_true rfl) rfl ?_
        refine gq_iinc hX dX3_tailsBehind_25 rfl rfl (inc1 _) (Nat.le_of_ble_eq_true rfl) rfl ?_
        refine gq_goto (tgt := 4) hX dX3_tailsBehind_28 rfl ?_
        exact gq_ls (by simp only [it, if_pos c9]; rfl) rfl rfl (ih (j + 1) (by omega))
  exact loop nt 0 (by omega)

set_option maxRecDepth 100000 in
set_option maxHeartbeats 4000000 in
theorem ct_rentedTails {E : Ev} {b : Nat → Nat} {S : St} {M : Hp} (hb : Lay E 13 b) {nc nt no : Nat} (hwf : Wf S nc nt no) : Ct E mX3_rentedTails [.ref (b 0)] (StP E b S M) (eqR (some (.int (S.1 1 - taiB S nt (-1)))) (StP E b S M)) 0 0 := by
  refine Ct.of gmX3_rentedTails (ls := [.ref (b 0)]) rfl rfl (Nat.le_of_ble_eq_true rfl) ?_
  intro X hX Q hQ
  refine gq_aload_n hX dX3_rentedTails_0 rfl rfl rfl ?_
  refine gq_getf hX dX3_rentedTails_1 rfl fX3_26 (sxR0 hb) rfl ?_
  refine gq_aload_n hX dX3_rentedTails_4 rfl rfl rfl ?_
  refine gq_iconst (v := -1) hX dX3_rentedTails_5 rfl (by decide) ?_
  refine gq_callVe hX dX3_rentedTails_6 rfl vX3_73 (ct_tailsBehind hb hwf _) rfl (sxR0 hb) rfl rfl (Nat.le_of_ble_eq_true rfl) ⟨(Nat.le_of_ble_eq_true rfl), (Nat.le_of_ble_eq_true rfl)⟩ (Nat.zero_add _) (Nat.zero_add _) ?_
  refine gq_isub hX dX3_rentedTails_9 rfl ?_
  exact gq_iret hX hQ dX3_rentedTails_10 rfl ⟨rfl, rfl⟩

set_option maxRecDepth 100000 in
set_option maxHeartbeats 4000000 in
theorem ct_sumOfArrears {E : Ev} {b : Nat → Nat} {S : St} {M : Hp} (hb : Lay E 13 b) {nc nt no : Nat} (hwf : Wf S nc nt no) : Ct E mX3_sumOfArrears [.ref (b 0)] (StP E b S M) (eqR (some (.int (arrSum S nc))) (StP E b S M)) 0 0 := by
  refine Ct.of gmX3_sumOfArrears (ls := [.ref (b 0), hole, hole]) rfl rfl (Nat.le_of_ble_eq_true rfl) ?_
  intro X hX Q hQ
  have hwf2 := hwf
  obtain ⟨hnc, hncl, hnt, hntl, hno, hnol⟩ := hwf2
  refine gq_iconst (v := nI 0) hX dX3_sumOfArrears_0 rfl (by decide) ?_
  refine gq_istore_n hX dX3_sumOfArrears_1 rfl rfl (Nat.le_of_ble_eq_true rfl) rfl ?_
  refine gq_iconst (v := nI 0) hX dX3_sumOfArrears_2 rfl (by decide) ?_
  refine gq_istore_n hX dX3_sumOfArrears_3 rfl rfl (Nat.le_of_ble_eq_true rfl) rfl ?_
  have loop : ∀ n j : Nat, j + n = nc → Gq E X mX3_sumOfArrears Q 4 [.ref (b 0), .int (it (fun j s => s + S.2 2 j) (nI 0) j), .int (nI j)] [] (StP E b S M) 0 0 := by
    intro n
    induction n with
    | zero =>
      intro j hj
      refine gq_iload_n hX dX3_sumOfArrears_4 rfl rfl rfl ?_
      refine gq_aload_n hX dX3_sumOfArrears_5 rfl rfl rfl ?_
      refine gq_getf hX dX3_sumOfArrears_6 rfl fX3_9 (sxR0 hb) rfl ?_
      refine gq_icmp_geT (tgt := 27) hX dX3_sumOfArrears_9 rfl (cT hnc (by omega) (by omega)) ?_
      have ej : nc = j := by omega
      subst ej
      refine gq_iload_n hX dX3_sumOfArrears_27 rfl rfl rfl ?_
      exact gq_iret hX hQ dX3_sumOfArrears_28 rfl ⟨rfl, rfl⟩
    | succ n ih =>
      intro j hj
      refine gq_iload_n hX dX3_sumOfArrears_4 rfl rfl rfl ?_
      refine gq_aload_n hX dX3_sumOfArrears_5 rfl rfl rfl ?_
      refine gq_getf hX dX3_sumOfArrears_6 rfl fX3_9 (sxR0 hb) rfl ?_
      refine gq_icmp_geF (tgt := 27) hX dX3_sumOfArrears_9 rfl rfl (cF hnc (by omega) (by omega)) ?_
      refine gq_iload_n hX dX3_sumOfArrears_12 rfl rfl rfl ?_
      refine gq_aload_n hX dX3_sumOfArrears_13 rfl rfl rfl ?_
      refine gq_getf hX dX3_sumOfArrears_14 rfl fX3_19 (sxR0 hb) rfl ?_
      refine gq_iload_n hX dX3_sumOfArrears_17 rfl rfl rfl ?_
      refine gq_ialdN hX dX3_sumOfArrears_18 rfl (sxR2 hb) rfl (by omega) (Nat.le_of_ble_eq_true rfl) ?_
      refine gq_iadd hX dX3_sumOfArrears_19 rfl ?_
      refine gq_istore_n hX dX3_sumOfArrears_20 rfl rfl (Nat.le_of_ble_eq_true rfl) rfl ?_
      refine gq_iinc hX dX3_sumOfArrears_21 rfl rfl (inc1 _) (Nat.le_of_ble_eq_true rfl) rfl ?_
      refine gq_goto (tgt := 4) hX dX3_sumOfArrears_24 rfl ?_
      exact gq_ls rfl rfl rfl (ih (j + 1) (by omega))
  exact loop nc 0 (by omega)

set_option maxRecDepth 100000 in
set_option maxHeartbeats 4000000 in
theorem ct_committeeFault {E : Ev} {b : Nat → Nat} {S : St} {M : Hp} (hb : Lay E 13 b) (c : Int32) : Ct E mX3_committeeFault [.ref (b 0), .int c] (StP E b S M) (eqR (some (.int (comF S c))) (StP E b S M)) 0 0 := by
  refine Ct.of gmX3_committeeFault (ls := [.ref (b 0), .int c]) rfl rfl (Nat.le_of_ble_eq_true rfl) ?_
  intro X hX Q hQ
  refine gq_iload_n hX dX3_committeeFault_0 rfl rfl rfl ?_
  refine gq_iconst (v := nI 1) hX dX3_committeeFault_1 rfl (by decide) ?_
  refine gq_icmp_lt (tgt := 11) hX dX3_committeeFault_2 rfl rfl (fun c2 => ?_) (fun c2 => ?_)
  · refine gq_iconst (v := nI 1) hX dX3_committeeFault_11 rfl (by decide) ?_
    exact gq_iret hX hQ dX3_committeeFault_12 rfl ⟨congrArg (fun z => some (Value.int z)) (by simp [comF, *]), rfl⟩
  · refine gq_iload_n hX dX3_committeeFault_5 rfl rfl rfl ?_
    refine gq_bipush (v := nI 9) hX dX3_committeeFault_6 rfl (by decide) ?_
    refine gq_icmp_le (tgt := 13) hX dX3_committeeFault_8 rfl rfl (fun c8 => ?_) (fun c8 => ?_)
    · refine gq_aload_n hX dX3_committeeFault_13 rfl rfl rfl ?_
      refine gq_getf hX dX3_committeeFault_14 rfl fX3_9 (sxR0 hb) rfl ?_
      refine gq_bipush (v := nI 6) hX dX3_committeeFault_17 rfl (by decide) ?_
      refine gq_icmp_lt (tgt := 26) hX dX3_committeeFault_19 rfl rfl (fun c19 => ?_) (fun c19 => ?_)
      · refine gq_iconst (v := nI 0) hX dX3_committeeFault_26 rfl (by decide) ?_
        exact gq_iret hX hQ dX3_committeeFault_27 rfl ⟨congrArg (fun z => some (Value.int z)) (by simp [comF, *]), rfl⟩
      · refine gq_iconst (v := nI 2) hX dX3_committeeFault_22 rfl (by decide) ?_
        refine gq_goto (tgt := 27) hX dX3_committeeFault_23 rfl ?_
        exact gq_iret hX hQ dX3_committeeFault_27 rfl ⟨congrArg (fun z => some (Value.int z)) (by simp [comF, *]), rfl⟩
    · refine gq_iconst (v := nI 1) hX dX3_committeeFault_11 rfl (by decide) ?_
      exact gq_iret hX hQ dX3_committeeFault_12 rfl ⟨congrArg (fun z => some (Value.int z)) (by simp [comF, *]), rfl⟩

set_option maxRecDepth 100000 in
set_option maxHeartbeats 4000000 in
theorem ct_tailFault {E : Ev} {b : Nat → Nat} {S : St} {M : Hp} (hb : Lay E 13 b) (c : Int32) : Ct E mX3_tailFault [.ref (b 0), .int c] (StP E b S M) (eqR (some (.int (taiF S c))) (StP E b S M)) 0 0 := by
  refine Ct.of gmX3_tailFault (ls := [.ref (b 0), .int c]) rfl rfl (Nat.le_of_ble_eq_true rfl) ?_
  intro X hX Q hQ
  refine gq_iload_n hX dX3_tailFault_0 rfl rfl rfl ?_
  refine gq_iconst (v := nI 1) hX dX3_tailFault_1 rfl (by decide) ?_
  refine gq_icmp_lt (tgt := 11) hX dX3_tailFault_2 rfl rfl (fun c2 => ?_) (fun c2 => ?_)
  · refine gq_iconst (v := nI 1) hX dX3_tailFault_11 rfl (by decide) ?_
    exact gq_iret hX hQ dX3_tailFault_12 rfl ⟨congrArg (fun z => some (Value.int z)) (by simp [taiF, *]), rfl⟩
  · refine gq_iload_n hX dX3_tailFault_5 rfl rfl rfl ?_
    refine gq_bipush (v := nI 9) hX dX3_tailFault_6 rfl (by decide) ?_
    refine gq_icmp_le (tgt := 13) hX dX3_tailFault_8 rfl rfl (fun c8 => ?_) (fun c8 => ?_)
    · refine gq_aload_n hX dX3_tailFault_13 rfl rfl rfl ?_
      refine gq_getf hX dX3_tailFault_14 rfl fX3_26 (sxR0 hb) rfl ?_
      refine gq_bipush (v := nI 8) hX dX3_tailFault_17 rfl (by decide) ?_
      refine gq_icmp_lt (tgt := 26) hX dX3_tailFault_19 rfl rfl (fun c19 => ?_) (fun c19 => ?_)
      · refine gq_iconst (v := nI 0) hX dX3_tailFault_26 rfl (by decide) ?_
        exact gq_iret hX hQ dX3_tailFault_27 rfl ⟨congrArg (fun z => some (Value.int z)) (by simp [taiF, *]), rfl⟩
      · refine gq_iconst (v := nI 2) hX dX3_tailFault_22 rfl (by decide) ?_
        refine gq_goto (tgt := 27) hX dX3_tailFault_23 rfl ?_
        exact gq_iret hX hQ dX3_tailFault_27 rfl ⟨congrArg (fun z => some (Value.int z)) (by simp [taiF, *]), rfl⟩
    · refine gq_iconst (v := nI 1) hX dX3_tailFault_11 rfl (by decide) ?_
      exact gq_iret hX hQ dX3_tailFault_12 rfl ⟨congrArg (fun z => some (Value.int z)) (by simp [taiF, *]), rfl⟩

set_option maxRecDepth 100000 in
set_option maxHeartbeats 4000000 in
theorem ct_gustFault {E : Ev} {b : Nat → Nat} {S : St} {M : Hp} (hb : Lay E 13 b) (c : Int32) : Ct E mX3_gustFault [.ref (b 0), .int c] (StP E b S M) (eqR (some (.int (gusF c))) (StP E b S M)) 0 0 := by
  refine Ct.of gmX3_gustFault (ls := [.ref (b 0), .int c]) rfl rfl (Nat.le_of_ble_eq_true rfl) ?_
  intro X hX Q hQ
  refine gq_iload_n hX dX3_gustFault_0 rfl rfl rfl ?_
  refine gq_if_lt (tgt := 10) hX dX3_gustFault_1 rfl rfl (fun c1 => ?_) (fun c1 => ?_)
  · refine gq_iconst (v := nI 1) hX dX3_gustFault_10 rfl (by decide) ?_
    refine gq_goto (tgt := 15) hX dX3_gustFault_11 rfl ?_
    exact gq_iret hX hQ dX3_gustFault_15 rfl ⟨congrArg (fun z => some (Value.int z)) (by simp [gusF, *]), rfl⟩
  · refine gq_iload_n hX dX3_gustFault_4 rfl rfl rfl ?_
    refine gq_bipush (v := nI 20) hX dX3_gustFault_5 rfl (by decide) ?_
    refine gq_icmp_le (tgt := 14) hX dX3_gustFault_7 rfl rfl (fun c7 => ?_) (fun c7 => ?_)
    · refine gq_iconst (v := nI 0) hX dX3_gustFault_14 rfl (by decide) ?_
      exact gq_iret hX hQ dX3_gustFault_15 rfl ⟨congrArg (fun z => some (Value.int z)) (by simp [gusF, *]), rfl⟩
    · refine gq_iconst (v := nI 1) hX dX3_gustFault_10 rfl (by decide) ?_
      refine gq_goto (tgt := 15) hX dX3_gustFault_11 rfl ?_
      exact gq_iret hX hQ dX3_gustFault_15 rfl ⟨congrArg (fun z => some (Value.int z)) (by simp [gusF, *]), rfl⟩

set_option maxRecDepth 100000 in
set_option maxHeartbeats 4000000 in
theorem ct_passFault {E : Ev} {b : Nat → Nat} {S : St} {M : Hp} (hb : Lay E 13 b) (c : Int32) : Ct E mX3_passFault [.ref (b 0), .int c] (StP E b S M) (eqR (some (.int (pasF c))) (StP E b S M)) 0 0 := by
  refine Ct.of gmX3_passFault (ls := [.ref (b 0), .int c]) rfl rfl (Nat.le_of_ble_eq_true rfl) ?_
  intro X hX Q hQ
  refine gq_iload_n hX dX3_passFault_0 rfl rfl rfl ?_
  refine gq_iconst (v := nI 1) hX dX3_passFault_1 rfl (by decide) ?_
  refine gq_icmp_lt (tgt := 11) hX dX3_passFault_2 rfl rfl (fun c2 => ?_) (fun c2 => ?_)
  · refine gq_iconst (v := nI 1) hX dX3_passFault_11 rfl (by decide) ?_
    refine gq_goto (tgt := 16) hX dX3_passFault_12 rfl ?_
    exact gq_iret hX hQ dX3_passFault_16 rfl ⟨congrArg (fun z => some (Value.int z)) (by simp [pasF, *]), rfl⟩
  · refine gq_iload_n hX dX3_passFault_5 rfl rfl rfl ?_
    refine gq_bipush (v := nI 12) hX dX3_passFault_6 rfl (by decide) ?_
    refine gq_icmp_le (tgt := 15) hX dX3_passFault_8 rfl rfl (fun c8 => ?_) (fun c8 => ?_)
    · refine gq_iconst (v := nI 0) hX dX3_passFault_15 rfl (by decide) ?_
      exact gq_iret hX hQ dX3_passFault_16 rfl ⟨congrArg (fun z => some (Value.int z)) (by simp [pasF, *]), rfl⟩
    · refine gq_iconst (v := nI 1) hX dX3_passFault_11 rfl (by decide) ?_
      refine gq_goto (tgt := 16) hX dX3_passFault_12 rfl ?_
      exact gq_iret hX hQ dX3_passFault_16 rfl ⟨congrArg (fun z => some (Value.int z)) (by simp [pasF, *]), rfl⟩

set_option maxRecDepth 100000 in
set_option maxHeartbeats 4000000 in
theorem ct_payFault {E : Ev} {b : Nat → Nat} {S : St} {M : Hp} (hb : Lay E 13 b) {nc nt no : Nat} (hwf : Wf S nc nt no) (c x : Int32) : Ct E mX3_payFault [.ref (b 0), .int c, .int x] (StP E b S M) (eqR (some (.int (payF S nc c x))) (StP E b S M)) 0 0 := by
  refine Ct.of gmX3_payFault (ls := [.ref (b 0), .int c, .int x]) rfl rfl (Nat.le_of_ble_eq_true rfl) ?_
  intro X hX Q hQ
  have hwf2 := hwf
  obtain ⟨hnc, hncl, hnt, hntl, hno, hnol⟩ := hwf2
  refine gq_aload_n hX dX3_payFault_0 rfl rfl rfl ?_
  refine gq_iload_n hX dX3_payFault_1 rfl rfl rfl ?_
  refine gq_callVe hX dX3_payFault_2 rfl vX3_61 (ct_hasCommittee hb hwf _) rfl (sxR0 hb) rfl rfl (Nat.le_of_ble_eq_true rfl) ⟨(Nat.le_of_ble_eq_true rfl), (Nat.le_of_ble_eq_true rfl)⟩ (Nat.zero_add _) (Nat.zero_add _) ?_
  refine gq_if_ne (tgt := 10) hX dX3_payFault_5 rfl rfl (fun c5 => ?_) (fun c5 => ?_)
  · obtain ⟨j, hj, rfl⟩ := hasI_ix (by omega) c5
    have hcl : (nI j).toNatClampNeg = j := nI_clamp (by omega)
    refine gq_iload_n hX dX3_payFault_10 rfl rfl rfl ?_
    refine gq_iconst (v := nI 1) hX dX3_payFault_11 rfl (by decide) ?_
    refine gq_icmp_lt (tgt := 21) hX dX3_payFault_12 rfl rfl (fun c12 => ?_) (fun c12 => ?_)
    · refine gq_iconst (v := nI 2) hX dX3_payFault_21 rfl (by decide) ?_
      exact gq_iret hX hQ dX3_payFault_22 rfl ⟨congrArg (fun z => some (Value.int z)) (by simp [payF, *]), rfl⟩
    · refine gq_iload_n hX dX3_payFault_15 rfl rfl rfl ?_
      refine gq_bipush (v := nI 99) hX dX3_payFault_16 rfl (by decide) ?_
      refine gq_icmp_le (tgt := 23) hX dX3_payFault_18 rfl rfl (fun c18 => ?_) (fun c18 => ?_)
      · refine gq_iload_n hX dX3_payFault_23 rfl rfl rfl ?_
        refine gq_aload_n hX dX3_payFault_24 rfl rfl rfl ?_
        refine gq_getf hX dX3_payFault_25 rfl fX3_19 (sxR0 hb) rfl ?_
        refine gq_iload_n hX dX3_payFault_28 rfl rfl rfl ?_
        refine gq_ialdN hX dX3_payFault_29 rfl (sxR2 hb) rfl (by omega) (Nat.le_of_ble_eq_true rfl) ?_
        refine gq_icmp_le (tgt := 37) hX dX3_payFault_30 rfl rfl (fun c30 => ?_) (fun c30 => ?_)
        · refine gq_iconst (v := nI 0) hX dX3_payFault_37 rfl (by decide) ?_
          exact gq_iret hX hQ dX3_payFault_38 rfl ⟨congrArg (fun z => some (Value.int z)) (by simp [payF, *]), rfl⟩
        · refine gq_iconst (v := nI 3) hX dX3_payFault_33 rfl (by decide) ?_
          refine gq_goto (tgt := 38) hX dX3_payFault_34 rfl ?_
          exact gq_iret hX hQ dX3_payFault_38 rfl ⟨congrArg (fun z => some (Value.int z)) (by simp [payF, *]), rfl⟩
      · refine gq_iconst (v := nI 2) hX dX3_payFault_21 rfl (by decide) ?_
        exact gq_iret hX hQ dX3_payFault_22 rfl ⟨congrArg (fun z => some (Value.int z)) (by simp [payF, *]), rfl⟩
  · refine gq_iconst (v := nI 1) hX dX3_payFault_8 rfl (by decide) ?_
    exact gq_iret hX hQ dX3_payFault_9 rfl ⟨congrArg (fun z => some (Value.int z)) (by simp [payF, *]), rfl⟩

set_option maxRecDepth 100000 in
set_option maxHeartbeats 4000000 in
theorem ct_launchFault {E : Ev} {b : Nat → Nat} {S : St} {M : Hp} (hb : Lay E 13 b) {nc nt no : Nat} (hwf : Wf S nc nt no) (c : Int32) : Ct E mX3_launchFault [.ref (b 0), .int c] (StP E b S M) (eqR (some (.int (lauF S nc c))) (StP E b S M)) 0 0 := by
  refine Ct.of gmX3_launchFault (ls := [.ref (b 0), .int c]) rfl rfl (Nat.le_of_ble_eq_true rfl) ?_
  intro X hX Q hQ
  have hwf2 := hwf
  obtain ⟨hnc, hncl, hnt, hntl, hno, hnol⟩ := hwf2
  refine gq_aload_n hX dX3_launchFault_0 rfl rfl rfl ?_
  refine gq_iload_n hX dX3_launchFault_1 rfl rfl rfl ?_
  refine gq_callVe hX dX3_launchFault_2 rfl vX3_61 (ct_hasCommittee hb hwf _) rfl (sxR0 hb) rfl rfl (Nat.le_of_ble_eq_true rfl) ⟨(Nat.le_of_ble_eq_true rfl), (Nat.le_of_ble_eq_true rfl)⟩ (Nat.zero_add _) (Nat.zero_add _) ?_
  refine gq_if_ne (tgt := 10) hX dX3_launchFault_5 rfl rfl (fun c5 => ?_) (fun c5 => ?_)
  · obtain ⟨j, hj, rfl⟩ := hasI_ix (by omega) c5
    have hcl : (nI j).toNatClampNeg = j := nI_clamp (by omega)
    refine gq_aload_n hX dX3_launchFault_10 rfl rfl rfl ?_
    refine gq_getf hX dX3_launchFault_11 rfl fX3_22 (sxR0 hb) rfl ?_
    refine gq_iload_n hX dX3_launchFault_14 rfl rfl rfl ?_
    refine gq_zaldN hX dX3_launchFault_15 rfl (sxR3 hb) rfl (by omega) (Nat.le_of_ble_eq_true rfl) ?_
    refine gq_if_ne (tgt := 28) hX dX3_launchFault_16 rfl rfl (fun c16 => ?_) (fun c16 => ?_)
    · refine gq_iconst (v := nI 2) hX dX3_launchFault_28 rfl (by decide) ?_
      refine gq_goto (tgt := 33) hX dX3_launchFault_29 rfl ?_
      exact gq_iret hX hQ dX3_launchFault_33 rfl ⟨congrArg (fun z => some (Value.int z)) (by simp [lauF, *]), rfl⟩
    · refine gq_aload_n hX dX3_launchFault_19 rfl rfl rfl ?_
      refine gq_getf hX dX3_launchFault_20 rfl fX3_19 (sxR0 hb) rfl ?_
      refine gq_iload_n hX dX3_launchFault_23 rfl rfl rfl ?_
      refine gq_ialdN hX dX3_launchFault_24 rfl (sxR2 hb) rfl (by omega) (Nat.le_of_ble_eq_true rfl) ?_
      refine gq_if_le (tgt := 32) hX dX3_launchFault_25 rfl rfl (fun c25 => ?_) (fun c25 => ?_)
      · refine gq_iconst (v := nI 0) hX dX3_launchFault_32 rfl (by decide) ?_
        exact gq_iret hX hQ dX3_launchFault_33 rfl ⟨congrArg (fun z => some (Value.int z)) (by simp [lauF, *]), rfl⟩
      · refine gq_iconst (v := nI 2) hX dX3_launchFault_28 rfl (by decide) ?_
        refine gq_goto (tgt := 33) hX dX3_launchFault_29 rfl ?_
        exact gq_iret hX hQ dX3_launchFault_33 rfl ⟨congrArg (fun z => some (Value.int z)) (by simp [lauF, *]), rfl⟩
  · refine gq_iconst (v := nI 1) hX dX3_launchFault_8 rfl (by decide) ?_
    exact gq_iret hX hQ dX3_launchFault_9 rfl ⟨congrArg (fun z => some (Value.int z)) (by simp [lauF, *]), rfl⟩

set_option maxRecDepth 100000 in
set_option maxHeartbeats 4000000 in
theorem ct_slotOf {E : Ev} {b : Nat → Nat} {S : St} {M : Hp} (hb : Lay E 13 b) {nc nt no : Nat} (hwf : Wf S nc nt no) (id : Int32) : Ct E mX2_slotOf [.ref (b 6), .int id] (StP E b S M) (eqR (some (.int (slO (slotO S no id)))) (StP E b S M)) 0 0 := by
  refine Ct.of gmX2_slotOf (ls := [.ref (b 6), .int id, hole]) rfl rfl (Nat.le_of_ble_eq_true rfl) ?_
  intro X hX Q hQ
  have hwf2 := hwf
  obtain ⟨hnc, hncl, hnt, hntl, hno, hnol⟩ := hwf2
  refine gq_iconst (v := nI 0) hX dX2_slotOf_0 rfl (by decide) ?_
  refine gq_istore_n hX dX2_slotOf_1 rfl rfl (Nat.le_of_ble_eq_true rfl) rfl ?_
  have loop : ∀ n j : Nat, j + n = no →  firstI (fun j => decide (S.2 7 j = id)) n j = slotO S no id → Gq E X mX2_slotOf Q 2 [.ref (b 6), .int id, .int (nI j)] [] (StP E b S M) 0 0 := by
    intro n
    induction n with
    | zero =>
      intro j hj  hf
      refine gq_iload_n hX dX2_slotOf_2 rfl rfl rfl ?_
      refine gq_aload_n hX dX2_slotOf_3 rfl rfl rfl ?_
      refine gq_getf hX dX2_slotOf_4 rfl fX2_9 (sxR6 hb) rfl ?_
      refine gq_icmp_geT (tgt := 28) hX dX2_slotOf_7 rfl (cT hno (by omega) (by omega)) ?_
      have ej : no = j := by omega
      subst ej
      refine gq_iconst (v := -1) hX dX2_slotOf_28 rfl (by decide) ?_
      have hf2 : slotO S no id = none := by rw [← hf]; rfl
      exact gq_iret hX hQ dX2_slotOf_29 rfl ⟨by rw [hf2]; rfl, rfl⟩
    | succ n ih =>
      intro j hj  hf
      refine gq_iload_n hX dX2_slotOf_2 rfl rfl rfl ?_
      refine gq_aload_n hX dX2_slotOf_3 rfl rfl rfl ?_
      refine gq_getf hX dX2_slotOf_4 rfl fX2_9 (sxR6 hb) rfl ?_
      refine gq_icmp_geF (tgt := 28) hX dX2_slotOf_7 rfl rfl (cF hno (by omega) (by omega)) ?_
      refine gq_aload_n hX dX2_slotOf_10 rfl rfl rfl ?_
      refine gq_getf hX dX2_slotOf_11 rfl fX2_18 (sxR6 hb) rfl ?_
      refine gq_iload_n hX dX2_slotOf_14 rfl rfl rfl ?_
      refine gq_ialdN hX dX2_slotOf_15 rfl (sxR7 hb) rfl (by omega) (Nat.le_of_ble_eq_true rfl) ?_
      refine gq_iload_n hX dX2_slotOf_16 rfl rfl rfl ?_
      refine gq_icmp_ne (tgt := 22) hX dX2_slotOf_17 rfl rfl (fun c9 => ?_) (fun c9 => ?_)
      · refine gq_iinc hX dX2_slotOf_22 rfl rfl (inc1 _) (Nat.le_of_ble_eq_true rfl) rfl ?_
        refine gq_goto (tgt := 2) hX dX2_slotOf_25 rfl ?_
        have hf2 : firstI (fun j => decide (S.2 7 j = id)) n (j + 1) = slotO S no id := by
          rw [← hf, firstI, if_neg (by simpa using c9)]
        exact ih (j + 1) (by omega) hf2
      · refine gq_iload_n hX dX2_slotOf_20 rfl rfl rfl ?_
        have hf2 : slotO S no id = some j := by
          rw [← hf, firstI, if_pos (by simpa using c9)]
        exact gq_iret hX hQ dX2_slotOf_21 rfl ⟨by rw [hf2]; rfl, rfl⟩
  exact loop no 0 (by omega) rfl

set_option maxRecDepth 100000 in
set_option maxHeartbeats 4000000 in
theorem ct_areFull {E : Ev} {b : Nat → Nat} {S : St} {M : Hp} (hb : Lay E 13 b)  : Ct E mX2_areFull [.ref (b 6)] (StP E b S M) (eqR (some (.int (fulF S))) (StP E b S M)) 0 0 := by
  refine Ct.of gmX2_areFull (ls := [.ref (b 6)]) rfl rfl (Nat.le_of_ble_eq_true rfl) ?_
  intro X hX Q hQ
  refine gq_aload_n hX dX2_areFull_0 rfl rfl rfl ?_
  refine gq_getf hX dX2_areFull_1 rfl fX2_9 (sxR6 hb) rfl ?_
  refine gq_bipush (v := nI 8) hX dX2_areFull_4 rfl (by decide) ?_
  refine gq_icmp_lt (tgt := 13) hX dX2_areFull_6 rfl rfl (fun c6 => ?_) (fun c6 => ?_)
  · refine gq_iconst (v := nI 0) hX dX2_areFull_13 rfl (by decide) ?_
    exact gq_zret hX hQ dX2_areFull_14 rfl rfl ⟨congrArg (fun z => some (Value.int z)) (by simp [fulF, *]), rfl⟩
  · refine gq_iconst (v := nI 1) hX dX2_areFull_9 rfl (by decide) ?_
    refine gq_goto (tgt := 14) hX dX2_areFull_10 rfl ?_
    exact gq_zret hX hQ dX2_areFull_14 rfl rfl ⟨congrArg (fun z => some (Value.int z)) (by simp [fulF, *]), rfl⟩

set_option maxRecDepth 100000 in
set_option maxHeartbeats 4000000 in
theorem ct_countSeconded {E : Ev} {b : Nat → Nat} {S : St} {M : Hp} (hb : Lay E 13 b) {nc nt no : Nat} (hwf : Wf S nc nt no) : Ct E mX2_countSeconded [.ref (b 6)] (StP E b S M) (eqR (some (.int (cntSec S no))) (StP E b S M)) 0 0 := by
  refine Ct.of gmX2_countSeconded (ls := [.ref (b 6), hole, hole]) rfl rfl (Nat.le_of_ble_eq_true rfl) ?_
  intro X hX Q hQ
  have hwf2 := hwf
  obtain ⟨hnc, hncl, hnt, hntl, hno, hnol⟩ := hwf2
  refine gq_iconst (v := nI 0) hX dX2_countSeconded_0 rfl (by decide) ?_
  refine gq_istore_n hX dX2_countSeconded_1 rfl rfl (Nat.le_of_ble_eq_true rfl) rfl ?_
  refine gq_iconst (v := nI 0) hX dX2_countSeconded_2 rfl (by decide) ?_
  refine gq_istore_n hX dX2_countSeconded_3 rfl rfl (Nat.le_of_ble_eq_true rfl) rfl ?_
  have loop : ∀ n j : Nat, j + n = no → Gq E X mX2_countSeconded Q 4 [.ref (b 6), .int (it (fun j s => if S.2 11 j = -1 then s else s + nI 1) (nI 0) j), .int (nI j)] [] (StP E b S M) 0 0 := by
    intro n
    induction n with
    | zero =>
      intro j hj
      refine gq_iload_n hX dX2_countSeconded_4 rfl rfl rfl ?_
      refine gq_aload_n hX dX2_countSeconded_5 rfl rfl rfl ?_
      refine gq_getf hX dX2_countSeconded_6 rfl fX2_9 (sxR6 hb) rfl ?_
      refine gq_icmp_geT (tgt := 31) hX dX2_countSeconded_9 rfl (cT hno (by omega) (by omega)) ?_
      have ej : no = j := by omega
      subst ej
      refine gq_iload_n hX dX2_countSeconded_31 rfl rfl rfl ?_
      exact gq_iret hX hQ dX2_countSeconded_32 rfl ⟨rfl, rfl⟩
    | succ n ih =>
      intro j hj
      refine gq_iload_n hX dX2_countSeconded_4 rfl rfl rfl ?_
      refine gq_aload_n hX dX2_countSeconded_5 rfl rfl rfl ?_
      refine gq_getf hX dX2_countSeconded_6 rfl fX2_9 (sxR6 hb) rfl ?_
      refine gq_icmp_geF (tgt := 31) hX dX2_countSeconded_9 rfl rfl (cF hno (by omega) (by omega)) ?_
      refine gq_aload_n hX dX2_countSeconded_12 rfl rfl rfl ?_
      refine gq_getf hX dX2_countSeconded_13 rfl fX2_32 (sxR6 hb) rfl ?_
      refine gq_iload_n hX dX2_countSeconded_16 rfl rfl rfl ?_
      refine gq_ialdN hX dX2_countSeconded_17 rfl (sxR11 hb) rfl (by omega) (Nat.le_of_ble_eq_true rfl) ?_
      refine gq_iconst (v := -1) hX dX2_countSeconded_18 rfl (by decide) ?_
      refine gq_icmp_eq (tgt := 25) hX dX2_countSeconded_19 rfl rfl (fun c9 => ?_) (fun c9 => ?_)
      · refine gq_iinc hX dX2_countSeconded_25 rfl rfl (inc1 _) (Nat.le_of_ble_eq_true rfl) rfl ?_
        refine gq_goto (tgt := 4) hX dX2_countSeconded_28 rfl ?_
        exact gq_ls (by simp only [it, if_pos c9]; rfl) rfl rfl (ih (j + 1) (by omega))
      · refine gq_iinc hX dX2_countSeconded_22 rfl rfl (incA _) (Nat.le_of_ble_eq_true rfl) rfl ?_
        refine gq_iinc hX dX2_countSeconded_25 rfl rfl (inc1 _) (Nat.le_of_ble_eq_true rfl) rfl ?_
        refine gq_goto (tgt := 4) hX dX2_countSeconded_28 rfl ?_
        exact gq_ls (by simp only [it, if_neg c9]; rfl) rfl rfl (ih (j + 1) (by omega))
  exact loop no 0 (by omega)

set_option maxRecDepth 100000 in
set_option maxHeartbeats 4000000 in
theorem ct_tailMotionFault {E : Ev} {b : Nat → Nat} {S : St} {M : Hp} (hb : Lay E 13 b) {nc nt no : Nat} (hwf : Wf S nc nt no) (c t : Int32) : Ct E mX3_tailMotionFault [.ref (b 0), .int c, .int t] (StP E b S M) (eqR (some (.int (tmoF S nc nt c t))) (StP E b S M)) 0 0 := by
  refine Ct.of gmX3_tailMotionFault (ls := [.ref (b 0), .int c, .int t]) rfl rfl (Nat.le_of_ble_eq_true rfl) ?_
  intro X hX Q hQ
  have hwf2 := hwf
  obtain ⟨hnc, hncl, hnt, hntl, hno, hnol⟩ := hwf2
  refine gq_aload_n hX dX3_tailMotionFault_0 rfl rfl rfl ?_
  refine gq_iload_n hX dX3_tailMotionFault_1 rfl rfl rfl ?_
  refine gq_callVe hX dX3_tailMotionFault_2 rfl vX3_61 (ct_hasCommittee hb hwf _) rfl (sxR0 hb) rfl rfl (Nat.le_of_ble_eq_true rfl) ⟨(Nat.le_of_ble_eq_true rfl), (Nat.le_of_ble_eq_true rfl)⟩ (Nat.zero_add _) (Nat.zero_add _) ?_
  refine gq_if_eq (tgt := 16) hX dX3_tailMotionFault_5 rfl rfl (fun c5 => ?_) (fun c5 => ?_)
  · refine gq_iconst (v := nI 1) hX dX3_tailMotionFault_16 rfl (by decide) ?_
    exact gq_iret hX hQ dX3_tailMotionFault_17 rfl ⟨congrArg (fun z => some (Value.int z)) (by simp [tmoF, *]), rfl⟩
  · refine gq_aload_n hX dX3_tailMotionFault_8 rfl rfl rfl ?_
    refine gq_iload_n hX dX3_tailMotionFault_9 rfl rfl rfl ?_
    refine gq_callVe hX dX3_tailMotionFault_10 rfl vX3_76 (ct_hasTail hb hwf _) rfl (sxR0 hb) rfl rfl (Nat.le_of_ble_eq_true rfl) ⟨(Nat.le_of_ble_eq_true rfl), (Nat.le_of_ble_eq_true rfl)⟩ (Nat.zero_add _) (Nat.zero_add _) ?_
    refine gq_if_ne (tgt := 18) hX dX3_tailMotionFault_13 rfl rfl (fun c13 => ?_) (fun c13 => ?_)
    · refine gq_aload_n hX dX3_tailMotionFault_18 rfl rfl rfl ?_
      refine gq_getf hX dX3_tailMotionFault_19 rfl fX3_38 (sxR0 hb) rfl ?_
      refine gq_callVe hX dX3_tailMotionFault_22 rfl vX3_79 (ct_areFull hb) rfl (sxR6 hb) rfl rfl (Nat.le_of_ble_eq_true rfl) ⟨(Nat.le_of_ble_eq_true rfl), (Nat.le_of_ble_eq_true rfl)⟩ (Nat.zero_add _) (Nat.zero_add _) ?_
      refine gq_if_eq (tgt := 32) hX dX3_tailMotionFault_25 rfl rfl (fun c25 => ?_) (fun c25 => ?_)
      · refine gq_iconst (v := nI 0) hX dX3_tailMotionFault_32 rfl (by decide) ?_
        exact gq_iret hX hQ dX3_tailMotionFault_33 rfl ⟨congrArg (fun z => some (Value.int z)) (by simp [tmoF, *]), rfl⟩
      · refine gq_iconst (v := nI 2) hX dX3_tailMotionFault_28 rfl (by decide) ?_
        refine gq_goto (tgt := 33) hX dX3_tailMotionFault_29 rfl ?_
        exact gq_iret hX hQ dX3_tailMotionFault_33 rfl ⟨congrArg (fun z => some (Value.int z)) (by simp [tmoF, *]), rfl⟩
    · refine gq_iconst (v := nI 1) hX dX3_tailMotionFault_16 rfl (by decide) ?_
      exact gq_iret hX hQ dX3_tailMotionFault_17 rfl ⟨congrArg (fun z => some (Value.int z)) (by simp [tmoF, *]), rfl⟩

set_option maxRecDepth 100000 in
set_option maxHeartbeats 4000000 in
theorem ct_groundMotionFault {E : Ev} {b : Nat → Nat} {S : St} {M : Hp} (hb : Lay E 13 b) {nc nt no : Nat} (hwf : Wf S nc nt no) (c t : Int32) : Ct E mX3_groundMotionFault [.ref (b 0), .int c, .int t] (StP E b S M) (eqR (some (.int (gmoF S nc c t))) (StP E b S M)) 0 0 := by
  refine Ct.of gmX3_groundMotionFault (ls := [.ref (b 0), .int c, .int t]) rfl rfl (Nat.le_of_ble_eq_true rfl) ?_
  intro X hX Q hQ
  have hwf2 := hwf
  obtain ⟨hnc, hncl, hnt, hntl, hno, hnol⟩ := hwf2
  refine gq_aload_n hX dX3_groundMotionFault_0 rfl rfl rfl ?_
  refine gq_iload_n hX dX3_groundMotionFault_1 rfl rfl rfl ?_
  refine gq_callVe hX dX3_groundMotionFault_2 rfl vX3_61 (ct_hasCommittee hb hwf _) rfl (sxR0 hb) rfl rfl (Nat.le_of_ble_eq_true rfl) ⟨(Nat.le_of_ble_eq_true rfl), (Nat.le_of_ble_eq_true rfl)⟩ (Nat.zero_add _) (Nat.zero_add _) ?_
  refine gq_if_eq (tgt := 16) hX dX3_groundMotionFault_5 rfl rfl (fun c5 => ?_) (fun c5 => ?_)
  · refine gq_iconst (v := nI 1) hX dX3_groundMotionFault_16 rfl (by decide) ?_
    exact gq_iret hX hQ dX3_groundMotionFault_17 rfl ⟨congrArg (fun z => some (Value.int z)) (by simp [gmoF, *]), rfl⟩
  · refine gq_aload_n hX dX3_groundMotionFault_8 rfl rfl rfl ?_
    refine gq_iload_n hX dX3_groundMotionFault_9 rfl rfl rfl ?_
    refine gq_callVe hX dX3_groundMotionFault_10 rfl vX3_61 (ct_hasCommittee hb hwf _) rfl (sxR0 hb) rfl rfl (Nat.le_of_ble_eq_true rfl) ⟨(Nat.le_of_ble_eq_true rfl), (Nat.le_of_ble_eq_true rfl)⟩ (Nat.zero_add _) (Nat.zero_add _) ?_
    refine gq_if_ne (tgt := 18) hX dX3_groundMotionFault_13 rfl rfl (fun c13 => ?_) (fun c13 => ?_)
    · refine gq_aload_n hX dX3_groundMotionFault_18 rfl rfl rfl ?_
      refine gq_getf hX dX3_groundMotionFault_19 rfl fX3_38 (sxR0 hb) rfl ?_
      refine gq_callVe hX dX3_groundMotionFault_22 rfl vX3_79 (ct_areFull hb) rfl (sxR6 hb) rfl rfl (Nat.le_of_ble_eq_true rfl) ⟨(Nat.le_of_ble_eq_true rfl), (Nat.le_of_ble_eq_true rfl)⟩ (Nat.zero_add _) (Nat.zero_add _) ?_
      refine gq_if_eq (tgt := 32) hX dX3_groundMotionFault_25 rfl rfl (fun c25 => ?_) (fun c25 => ?_)
      · refine gq_iconst (v := nI 0) hX dX3_groundMotionFault_32 rfl (by decide) ?_
        exact gq_iret hX hQ dX3_groundMotionFault_33 rfl ⟨congrArg (fun z => some (Value.int z)) (by simp [gmoF, *]), rfl⟩
      · refine gq_iconst (v := nI 2) hX dX3_groundMotionFault_28 rfl (by decide) ?_
        refine gq_goto (tgt := 33) hX dX3_groundMotionFault_29 rfl ?_
        exact gq_iret hX hQ dX3_groundMotionFault_33 rfl ⟨congrArg (fun z => some (Value.int z)) (by simp [gmoF, *]), rfl⟩
    · refine gq_iconst (v := nI 1) hX dX3_groundMotionFault_16 rfl (by decide) ?_
      exact gq_iret hX hQ dX3_groundMotionFault_17 rfl ⟨congrArg (fun z => some (Value.int z)) (by simp [gmoF, *]), rfl⟩

theorem nI_m1 {k : Nat} (h : k < 100000) : ¬ nI k = -1 := by
  intro e
  have h2 := congrArg Int32.toInt e
  rw [nI_toInt (by omega)] at h2
  have h3 : (-1 : Int32).toInt = -1 := by decide
  omega

set_option maxRecDepth 100000 in
set_option maxHeartbeats 4000000 in
theorem ct_secondFault {E : Ev} {b : Nat → Nat} {S : St} {M : Hp} (hb : Lay E 13 b) {nc nt no : Nat} (hwf : Wf S nc nt no) (c id : Int32) : Ct E mX3_secondFault [.ref (b 0), .int c, .int id] (StP E b S M) (eqR (some (.int (secF S nc no c id))) (StP E b S M)) 0 0 := by
  refine Ct.of gmX3_secondFault (ls := [.ref (b 0), .int c, .int id, hole]) rfl rfl (Nat.le_of_ble_eq_true rfl) ?_
  intro X hX Q hQ
  have hwf2 := hwf
  obtain ⟨hnc, hncl, hnt, hntl, hno, hnol⟩ := hwf2
  rcases ho : slotO S no id with _ | k
  · have hct := ct_slotOf (M := M) hb hwf id
    rw [ho] at hct
    refine gq_aload_n hX dX3_secondFault_0 rfl rfl rfl ?_
    refine gq_iload_n hX dX3_secondFault_1 rfl rfl rfl ?_
    refine gq_callVe hX dX3_secondFault_2 rfl vX3_61 (ct_hasCommittee hb hwf _) rfl (sxR0 hb) rfl rfl (Nat.le_of_ble_eq_true rfl) ⟨(Nat.le_of_ble_eq_true rfl), (Nat.le_of_ble_eq_true rfl)⟩ (Nat.zero_add _) (Nat.zero_add _) ?_
    refine gq_if_ne (tgt := 10) hX dX3_secondFault_5 rfl rfl (fun c5 => ?_) (fun c5 => ?_)
    · refine gq_aload_n hX dX3_secondFault_10 rfl rfl rfl ?_
      refine gq_getf hX dX3_secondFault_11 rfl fX3_38 (sxR0 hb) rfl ?_
      refine gq_iload_n hX dX3_secondFault_14 rfl rfl rfl ?_
      refine gq_callVe hX dX3_secondFault_15 rfl vX3_87 (hct) rfl (sxR6 hb) rfl rfl (Nat.le_of_ble_eq_true rfl) ⟨(Nat.le_of_ble_eq_true rfl), (Nat.le_of_ble_eq_true rfl)⟩ (Nat.zero_add _) (Nat.zero_add _) ?_
      refine gq_istore_n hX dX3_secondFault_18 rfl rfl (Nat.le_of_ble_eq_true rfl) rfl ?_
      refine gq_iload_n hX dX3_secondFault_19 rfl rfl rfl ?_
      refine gq_iconst (v := -1) hX dX3_secondFault_20 rfl (by decide) ?_
      refine gq_icmp_neF (tgt := 26) hX dX3_secondFault_21 rfl rfl rfl ?_
      refine gq_iconst (v := nI 2) hX dX3_secondFault_24 rfl (by decide) ?_
      exact gq_iret hX hQ dX3_secondFault_25 rfl ⟨congrArg (fun z => some (Value.int z)) (by simp [secF, *]), rfl⟩
    · refine gq_iconst (v := nI 1) hX dX3_secondFault_8 rfl (by decide) ?_
      exact gq_iret hX hQ dX3_secondFault_9 rfl ⟨congrArg (fun z => some (Value.int z)) (by simp [secF, *]), rfl⟩
  · have hct := ct_slotOf (M := M) hb hwf id
    rw [ho] at hct
    obtain ⟨hk, hid⟩ := slotO_lt ho
    have hm1 : ¬ nI k = -1 := nI_m1 (by omega)
    refine gq_aload_n hX dX3_secondFault_0 rfl rfl rfl ?_
    refine gq_iload_n hX dX3_secondFault_1 rfl rfl rfl ?_
    refine gq_callVe hX dX3_secondFault_2 rfl vX3_61 (ct_hasCommittee hb hwf _) rfl (sxR0 hb) rfl rfl (Nat.le_of_ble_eq_true rfl) ⟨(Nat.le_of_ble_eq_true rfl), (Nat.le_of_ble_eq_true rfl)⟩ (Nat.zero_add _) (Nat.zero_add _) ?_
    refine gq_if_ne (tgt := 10) hX dX3_secondFault_5 rfl rfl (fun c5 => ?_) (fun c5 => ?_)
    · refine gq_aload_n hX dX3_secondFault_10 rfl rfl rfl ?_
      refine gq_getf hX dX3_secondFault_11 rfl fX3_38 (sxR0 hb) rfl ?_
      refine gq_iload_n hX dX3_secondFault_14 rfl rfl rfl ?_
      refine gq_callVe hX dX3_secondFault_15 rfl vX3_87 (hct) rfl (sxR6 hb) rfl rfl (Nat.le_of_ble_eq_true rfl) ⟨(Nat.le_of_ble_eq_true rfl), (Nat.le_of_ble_eq_true rfl)⟩ (Nat.zero_add _) (Nat.zero_add _) ?_
      refine gq_istore_n hX dX3_secondFault_18 rfl rfl (Nat.le_of_ble_eq_true rfl) rfl ?_
      refine gq_iload_n hX dX3_secondFault_19 rfl rfl rfl ?_
      refine gq_iconst (v := -1) hX dX3_secondFault_20 rfl (by decide) ?_
      refine gq_icmp_neT (tgt := 26) hX dX3_secondFault_21 rfl hm1 ?_
      refine gq_aload_n hX dX3_secondFault_26 rfl rfl rfl ?_
      refine gq_getf hX dX3_secondFault_27 rfl fX3_38 (sxR0 hb) rfl ?_
      refine gq_getf hX dX3_secondFault_30 rfl fX3_90 (sxR6 hb) rfl ?_
      refine gq_iload_n hX dX3_secondFault_33 rfl rfl rfl ?_
      refine gq_ialdN hX dX3_secondFault_34 rfl (sxR9 hb) rfl (by omega) (Nat.le_of_ble_eq_true rfl) ?_
      refine gq_iload_n hX dX3_secondFault_35 rfl rfl rfl ?_
      refine gq_icmp_ne (tgt := 41) hX dX3_secondFault_36 rfl rfl (fun c36 => ?_) (fun c36 => ?_)
      · refine gq_aload_n hX dX3_secondFault_41 rfl rfl rfl ?_
        refine gq_getf hX dX3_secondFault_42 rfl fX3_38 (sxR0 hb) rfl ?_
        refine gq_getf hX dX3_secondFault_45 rfl fX3_93 (sxR6 hb) rfl ?_
        refine gq_iload_n hX dX3_secondFault_48 rfl rfl rfl ?_
        refine gq_ialdN hX dX3_secondFault_49 rfl (sxR11 hb) rfl (by omega) (Nat.le_of_ble_eq_true rfl) ?_
        refine gq_iconst (v := -1) hX dX3_secondFault_50 rfl (by decide) ?_
        refine gq_icmp_eq (tgt := 58) hX dX3_secondFault_51 rfl rfl (fun c51 => ?_) (fun c51 => ?_)
        · refine gq_iconst (v := nI 0) hX dX3_secondFault_58 rfl (by decide) ?_
          exact gq_iret hX hQ dX3_secondFault_59 rfl ⟨congrArg (fun z => some (Value.int z)) (by simp [secF, *]), rfl⟩
        · refine gq_iconst (v := nI 4) hX dX3_secondFault_54 rfl (by decide) ?_
          refine gq_goto (tgt := 59) hX dX3_secondFault_55 rfl ?_
          exact gq_iret hX hQ dX3_secondFault_59 rfl ⟨congrArg (fun z => some (Value.int z)) (by simp [secF, *]), rfl⟩
      · refine gq_iconst (v := nI 3) hX dX3_secondFault_39 rfl (by decide) ?_
        exact gq_iret hX hQ dX3_secondFault_40 rfl ⟨congrArg (fun z => some (Value.int z)) (by simp [secF, *]), rfl⟩
    · refine gq_iconst (v := nI 1) hX dX3_secondFault_8 rfl (by decide) ?_
      exact gq_iret hX hQ dX3_secondFault_9 rfl ⟨congrArg (fun z => some (Value.int z)) (by simp [secF, *]), rfl⟩

set_option maxRecDepth 100000 in
set_option maxHeartbeats 4000000 in
theorem ct_untableFault {E : Ev} {b : Nat → Nat} {S : St} {M : Hp} (hb : Lay E 13 b) {nc nt no : Nat} (hwf : Wf S nc nt no) (id : Int32) : Ct E mX3_untableFault [.ref (b 0), .int id] (StP E b S M) (eqR (some (.int (untF S no id))) (StP E b S M)) 0 0 := by
  refine Ct.of gmX3_untableFault (ls := [.ref (b 0), .int id, hole]) rfl rfl (Nat.le_of_ble_eq_true rfl) ?_
  intro X hX Q hQ
  have hwf2 := hwf
  obtain ⟨hnc, hncl, hnt, hntl, hno, hnol⟩ := hwf2
  rcases ho : slotO S no id with _ | k
  · have hct := ct_slotOf (M := M) hb hwf id
    rw [ho] at hct
    refine gq_aload_n hX dX3_untableFault_0 rfl rfl rfl ?_
    refine gq_getf hX dX3_untableFault_1 rfl fX3_38 (sxR0 hb) rfl ?_
    refine gq_iload_n hX dX3_untableFault_4 rfl rfl rfl ?_
    refine gq_callVe hX dX3_untableFault_5 rfl vX3_87 (hct) rfl (sxR6 hb) rfl rfl (Nat.le_of_ble_eq_true rfl) ⟨(Nat.le_of_ble_eq_true rfl), (Nat.le_of_ble_eq_true rfl)⟩ (Nat.zero_add _) (Nat.zero_add _) ?_
    refine gq_istore_n hX dX3_untableFault_8 rfl rfl (Nat.le_of_ble_eq_true rfl) rfl ?_
    refine gq_iload_n hX dX3_untableFault_9 rfl rfl rfl ?_
    refine gq_iconst (v := -1) hX dX3_untableFault_10 rfl (by decide) ?_
    refine gq_icmp_neF (tgt := 16) hX dX3_untableFault_11 rfl rfl rfl ?_
    refine gq_iconst (v := nI 1) hX dX3_untableFault_14 rfl (by decide) ?_
    exact gq_iret hX hQ dX3_untableFault_15 rfl ⟨congrArg (fun z => some (Value.int z)) (by simp [untF, *]), rfl⟩
  · have hct := ct_slotOf (M := M) hb hwf id
    rw [ho] at hct
    obtain ⟨hk, hid⟩ := slotO_lt ho
    have hm1 : ¬ nI k = -1 := nI_m1 (by omega)
    refine gq_aload_n hX dX3_untableFault_0 rfl rfl rfl ?_
    refine gq_getf hX dX3_untableFault_1 rfl fX3_38 (sxR0 hb) rfl ?_
    refine gq_iload_n hX dX3_untableFault_4 rfl rfl rfl ?_
    refine gq_callVe hX dX3_untableFault_5 rfl vX3_87 (hct) rfl (sxR6 hb) rfl rfl (Nat.le_of_ble_eq_true rfl) ⟨(Nat.le_of_ble_eq_true rfl), (Nat.le_of_ble_eq_true rfl)⟩ (Nat.zero_add _) (Nat.zero_add _) ?_
    refine gq_istore_n hX dX3_untableFault_8 rfl rfl (Nat.le_of_ble_eq_true rfl) rfl ?_
    refine gq_iload_n hX dX3_untableFault_9 rfl rfl rfl ?_
    refine gq_iconst (v := -1) hX dX3_untableFault_10 rfl (by decide) ?_
    refine gq_icmp_neT (tgt := 16) hX dX3_untableFault_11 rfl hm1 ?_
    refine gq_aload_n hX dX3_untableFault_16 rfl rfl rfl ?_
    refine gq_getf hX dX3_untableFault_17 rfl fX3_38 (sxR0 hb) rfl ?_
    refine gq_getf hX dX3_untableFault_20 rfl fX3_100 (sxR6 hb) rfl ?_
    refine gq_iload_n hX dX3_untableFault_23 rfl rfl rfl ?_
    refine gq_zaldN hX dX3_untableFault_24 rfl (sxR12 hb) rfl (by omega) (Nat.le_of_ble_eq_true rfl) ?_
    refine gq_if_eq (tgt := 32) hX dX3_untableFault_25 rfl rfl (fun c25 => ?_) (fun c25 => ?_)
    · refine gq_iconst (v := nI 2) hX dX3_untableFault_32 rfl (by decide) ?_
      exact gq_iret hX hQ dX3_untableFault_33 rfl ⟨congrArg (fun z => some (Value.int z)) (by simp [untF, *]), rfl⟩
    · refine gq_iconst (v := nI 0) hX dX3_untableFault_28 rfl (by decide) ?_
      refine gq_goto (tgt := 33) hX dX3_untableFault_29 rfl ?_
      exact gq_iret hX hQ dX3_untableFault_33 rfl ⟨congrArg (fun z => some (Value.int z)) (by simp [untF, *]), rfl⟩

set_option maxRecDepth 100000 in
set_option maxHeartbeats 4000000 in
theorem ct_withdrawFault {E : Ev} {b : Nat → Nat} {S : St} {M : Hp} (hb : Lay E 13 b) {nc nt no : Nat} (hwf : Wf S nc nt no) (id : Int32) : Ct E mX3_withdrawFault [.ref (b 0), .int id] (StP E b S M) (eqR (some (.int (witF S no id))) (StP E b S M)) 0 0 := by
  refine Ct.of gmX3_withdrawFault (ls := [.ref (b 0), .int id]) rfl rfl (Nat.le_of_ble_eq_true rfl) ?_
  intro X hX Q hQ
  have hwf2 := hwf
  obtain ⟨hnc, hncl, hnt, hntl, hno, hnol⟩ := hwf2
  rcases ho : slotO S no id with _ | k
  · have hct := ct_slotOf (M := M) hb hwf id
    rw [ho] at hct
    refine gq_aload_n hX dX3_withdrawFault_0 rfl rfl rfl ?_
    refine gq_getf hX dX3_withdrawFault_1 rfl fX3_38 (sxR0 hb) rfl ?_
    refine gq_iload_n hX dX3_withdrawFault_4 rfl rfl rfl ?_
    refine gq_callVe hX dX3_withdrawFault_5 rfl vX3_87 (hct) rfl (sxR6 hb) rfl rfl (Nat.le_of_ble_eq_true rfl) ⟨(Nat.le_of_ble_eq_true rfl), (Nat.le_of_ble_eq_true rfl)⟩ (Nat.zero_add _) (Nat.zero_add _) ?_
    refine gq_iconst (v := -1) hX dX3_withdrawFault_8 rfl (by decide) ?_
    refine gq_icmp_neF (tgt := 16) hX dX3_withdrawFault_9 rfl rfl rfl ?_
    refine gq_iconst (v := nI 1) hX dX3_withdrawFault_12 rfl (by decide) ?_
    refine gq_goto (tgt := 17) hX dX3_withdrawFault_13 rfl ?_
    exact gq_iret hX hQ dX3_withdrawFault_17 rfl ⟨congrArg (fun z => some (Value.int z)) (by simp [witF, *]), rfl⟩
  · have hct := ct_slotOf (M := M) hb hwf id
    rw [ho] at hct
    obtain ⟨hk, hid⟩ := slotO_lt ho
    have hm1 : ¬ nI k = -1 := nI_m1 (by omega)
    refine gq_aload_n hX dX3_withdrawFault_0 rfl rfl rfl ?_
    refine gq_getf hX dX3_withdrawFault_1 rfl fX3_38 (sxR0 hb) rfl ?_
    refine gq_iload_n hX dX3_withdrawFault_4 rfl rfl rfl ?_
    refine gq_callVe hX dX3_withdrawFault_5 rfl vX3_87 (hct) rfl (sxR6 hb) rfl rfl (Nat.le_of_ble_eq_true rfl) ⟨(Nat.le_of_ble_eq_true rfl), (Nat.le_of_ble_eq_true rfl)⟩ (Nat.zero_add _) (Nat.zero_add _) ?_
    refine gq_iconst (v := -1) hX dX3_withdrawFault_8 rfl (by decide) ?_
    refine gq_icmp_neT (tgt := 16) hX dX3_withdrawFault_9 rfl hm1 ?_
    refine gq_iconst (v := nI 0) hX dX3_withdrawFault_16 rfl (by decide) ?_
    exact gq_iret hX hQ dX3_withdrawFault_17 rfl ⟨congrArg (fun z => some (Value.int z)) (by simp [witF, *]), rfl⟩

set_option maxRecDepth 100000 in
set_option maxHeartbeats 4000000 in
theorem ct_voteFault {E : Ev} {b : Nat → Nat} {S : St} {M : Hp} (hb : Lay E 13 b) {nc nt no : Nat} (hwf : Wf S nc nt no) (id : Int32) : Ct E mX3_voteFault [.ref (b 0), .int id] (StP E b S M) (eqR (some (.int (votF S no id))) (StP E b S M)) 0 0 := by
  refine Ct.of gmX3_voteFault (ls := [.ref (b 0), .int id, hole]) rfl rfl (Nat.le_of_ble_eq_true rfl) ?_
  intro X hX Q hQ
  have hwf2 := hwf
  obtain ⟨hnc, hncl, hnt, hntl, hno, hnol⟩ := hwf2
  rcases ho : slotO S no id with _ | k
  · have hct := ct_slotOf (M := M) hb hwf id
    rw [ho] at hct
    refine gq_aload_n hX dX3_voteFault_0 rfl rfl rfl ?_
    refine gq_getf hX dX3_voteFault_1 rfl fX3_38 (sxR0 hb) rfl ?_
    refine gq_iload_n hX dX3_voteFault_4 rfl rfl rfl ?_
    refine gq_callVe hX dX3_voteFault_5 rfl vX3_87 (hct) rfl (sxR6 hb) rfl rfl (Nat.le_of_ble_eq_true rfl) ⟨(Nat.le_of_ble_eq_true rfl), (Nat.le_of_ble_eq_true rfl)⟩ (Nat.zero_add _) (Nat.zero_add _) ?_
    refine gq_istore_n hX dX3_voteFault_8 rfl rfl (Nat.le_of_ble_eq_true rfl) rfl ?_
    refine gq_iload_n hX dX3_voteFault_9 rfl rfl rfl ?_
    refine gq_iconst (v := -1) hX dX3_voteFault_10 rfl (by decide) ?_
    refine gq_icmp_neF (tgt := 16) hX dX3_voteFault_11 rfl rfl rfl ?_
    refine gq_iconst (v := nI 1) hX dX3_voteFault_14 rfl (by decide) ?_
    exact gq_iret hX hQ dX3_voteFault_15 rfl ⟨congrArg (fun z => some (Value.int z)) (by simp [votF, *]), rfl⟩
  · have hct := ct_slotOf (M := M) hb hwf id
    rw [ho] at hct
    obtain ⟨hk, hid⟩ := slotO_lt ho
    have hm1 : ¬ nI k = -1 := nI_m1 (by omega)
    refine gq_aload_n hX dX3_voteFault_0 rfl rfl rfl ?_
    refine gq_getf hX dX3_voteFault_1 rfl fX3_38 (sxR0 hb) rfl ?_
    refine gq_iload_n hX dX3_voteFault_4 rfl rfl rfl ?_
    refine gq_callVe hX dX3_voteFault_5 rfl vX3_87 (hct) rfl (sxR6 hb) rfl rfl (Nat.le_of_ble_eq_true rfl) ⟨(Nat.le_of_ble_eq_true rfl), (Nat.le_of_ble_eq_true rfl)⟩ (Nat.zero_add _) (Nat.zero_add _) ?_
    refine gq_istore_n hX dX3_voteFault_8 rfl rfl (Nat.le_of_ble_eq_true rfl) rfl ?_
    refine gq_iload_n hX dX3_voteFault_9 rfl rfl rfl ?_
    refine gq_iconst (v := -1) hX dX3_voteFault_10 rfl (by decide) ?_
    refine gq_icmp_neT (tgt := 16) hX dX3_voteFault_11 rfl hm1 ?_
    refine gq_aload_n hX dX3_voteFault_16 rfl rfl rfl ?_
    refine gq_getf hX dX3_voteFault_17 rfl fX3_38 (sxR0 hb) rfl ?_
    refine gq_getf hX dX3_voteFault_20 rfl fX3_93 (sxR6 hb) rfl ?_
    refine gq_iload_n hX dX3_voteFault_23 rfl rfl rfl ?_
    refine gq_ialdN hX dX3_voteFault_24 rfl (sxR11 hb) rfl (by omega) (Nat.le_of_ble_eq_true rfl) ?_
    refine gq_iconst (v := -1) hX dX3_voteFault_25 rfl (by decide) ?_
    refine gq_icmp_eq (tgt := 41) hX dX3_voteFault_26 rfl rfl (fun c26 => ?_) (fun c26 => ?_)
    · refine gq_iconst (v := nI 2) hX dX3_voteFault_41 rfl (by decide) ?_
      refine gq_goto (tgt := 46) hX dX3_voteFault_42 rfl ?_
      exact gq_iret hX hQ dX3_voteFault_46 rfl ⟨congrArg (fun z => some (Value.int z)) (by simp [votF, *]), rfl⟩
    · refine gq_aload_n hX dX3_voteFault_29 rfl rfl rfl ?_
      refine gq_getf hX dX3_voteFault_30 rfl fX3_38 (sxR0 hb) rfl ?_
      refine gq_getf hX dX3_voteFault_33 rfl fX3_100 (sxR6 hb) rfl ?_
      refine gq_iload_n hX dX3_voteFault_36 rfl rfl rfl ?_
      refine gq_zaldN hX dX3_voteFault_37 rfl (sxR12 hb) rfl (by omega) (Nat.le_of_ble_eq_true rfl) ?_
      refine gq_if_eq (tgt := 45) hX dX3_voteFault_38 rfl rfl (fun c38 => ?_) (fun c38 => ?_)
      · refine gq_iconst (v := nI 0) hX dX3_voteFault_45 rfl (by decide) ?_
        exact gq_iret hX hQ dX3_voteFault_46 rfl ⟨congrArg (fun z => some (Value.int z)) (by simp [votF, *]), rfl⟩
      · refine gq_iconst (v := nI 2) hX dX3_voteFault_41 rfl (by decide) ?_
        refine gq_goto (tgt := 46) hX dX3_voteFault_42 rfl ?_
        exact gq_iret hX hQ dX3_voteFault_46 rfl ⟨congrArg (fun z => some (Value.int z)) (by simp [votF, *]), rfl⟩

set_option maxRecDepth 100000 in
set_option maxHeartbeats 4000000 in
theorem ct_isAhead {E : Ev} {b : Nat → Nat} {S : St} {M : Hp} (hb : Lay E 13 b) {nc nt no : Nat} (hwf : Wf S nc nt no) {x y : Nat} (hx : x < nc) (hy : y < nc) : Ct E mX3_isAhead [.ref (b 0), .int (nI x), .int (nI y)] (StP E b S M) (eqR (some (.int (aheadI S x y))) (StP E b S M)) 0 0 := by
  refine Ct.of gmX3_isAhead (ls := [.ref (b 0), .int (nI x), .int (nI y)]) rfl rfl (Nat.le_of_ble_eq_true rfl) ?_
  intro X hX Q hQ
  have hwf2 := hwf
  obtain ⟨hnc, hncl, hnt, hntl, hno, hnol⟩ := hwf2
  refine gq_aload_n hX dX3_isAhead_0 rfl rfl rfl ?_
  refine gq_getf hX dX3_isAhead_1 rfl fX3_19 (sxR0 hb) rfl ?_
  refine gq_iload_n hX dX3_isAhead_4 rfl rfl rfl ?_
  refine gq_ialdN hX dX3_isAhead_5 rfl (sxR2 hb) rfl (by omega) (Nat.le_of_ble_eq_true rfl) ?_
  refine gq_aload_n hX dX3_isAhead_6 rfl rfl rfl ?_
  refine gq_getf hX dX3_isAhead_7 rfl fX3_19 (sxR0 hb) rfl ?_
  refine gq_iload_n hX dX3_isAhead_10 rfl rfl rfl ?_
  refine gq_ialdN hX dX3_isAhead_11 rfl (sxR2 hb) rfl (by omega) (Nat.le_of_ble_eq_true rfl) ?_
  refine gq_icmp_eq (tgt := 36) hX dX3_isAhead_12 rfl rfl (fun c12 => ?_) (fun c12 => ?_)
  · refine gq_aload_n hX dX3_isAhead_36 rfl rfl rfl ?_
    refine gq_getf hX dX3_isAhead_37 rfl fX3_15 (sxR0 hb) rfl ?_
    refine gq_iload_n hX dX3_isAhead_40 rfl rfl rfl ?_
    refine gq_ialdN hX dX3_isAhead_41 rfl (sxR1 hb) rfl (by omega) (Nat.le_of_ble_eq_true rfl) ?_
    refine gq_aload_n hX dX3_isAhead_42 rfl rfl rfl ?_
    refine gq_getf hX dX3_isAhead_43 rfl fX3_15 (sxR0 hb) rfl ?_
    refine gq_iload_n hX dX3_isAhead_46 rfl rfl rfl ?_
    refine gq_ialdN hX dX3_isAhead_47 rfl (sxR1 hb) rfl (by omega) (Nat.le_of_ble_eq_true rfl) ?_
    refine gq_icmp_eq (tgt := 72) hX dX3_isAhead_48 rfl rfl (fun c48 => ?_) (fun c48 => ?_)
    · refine gq_iload_n hX dX3_isAhead_72 rfl rfl rfl ?_
      refine gq_iload_n hX dX3_isAhead_73 rfl rfl rfl ?_
      refine gq_icmp_ge (tgt := 81) hX dX3_isAhead_74 rfl rfl (fun c74 => ?_) (fun c74 => ?_)
      · refine gq_iconst (v := nI 0) hX dX3_isAhead_81 rfl (by decide) ?_
        exact gq_zret hX hQ dX3_isAhead_82 rfl rfl ⟨congrArg (fun z => some (Value.int z)) (by simp [aheadI, *]), rfl⟩
      · refine gq_iconst (v := nI 1) hX dX3_isAhead_77 rfl (by decide) ?_
        refine gq_goto (tgt := 82) hX dX3_isAhead_78 rfl ?_
        exact gq_zret hX hQ dX3_isAhead_82 rfl rfl ⟨congrArg (fun z => some (Value.int z)) (by simp [aheadI, *]), rfl⟩
    · refine gq_aload_n hX dX3_isAhead_51 rfl rfl rfl ?_
      refine gq_getf hX dX3_isAhead_52 rfl fX3_15 (sxR0 hb) rfl ?_
      refine gq_iload_n hX dX3_isAhead_55 rfl rfl rfl ?_
      refine gq_ialdN hX dX3_isAhead_56 rfl (sxR1 hb) rfl (by omega) (Nat.le_of_ble_eq_true rfl) ?_
      refine gq_aload_n hX dX3_isAhead_57 rfl rfl rfl ?_
      refine gq_getf hX dX3_isAhead_58 rfl fX3_15 (sxR0 hb) rfl ?_
      refine gq_iload_n hX dX3_isAhead_61 rfl rfl rfl ?_
      refine gq_ialdN hX dX3_isAhead_62 rfl (sxR1 hb) rfl (by omega) (Nat.le_of_ble_eq_true rfl) ?_
      refine gq_icmp_le (tgt := 70) hX dX3_isAhead_63 rfl rfl (fun c63 => ?_) (fun c63 => ?_)
      · refine gq_iconst (v := nI 0) hX dX3_isAhead_70 rfl (by decide) ?_
        exact gq_zret hX hQ dX3_isAhead_71 rfl rfl ⟨congrArg (fun z => some (Value.int z)) (by simp [aheadI, *]), rfl⟩
      · refine gq_iconst (v := nI 1) hX dX3_isAhead_66 rfl (by decide) ?_
        refine gq_goto (tgt := 71) hX dX3_isAhead_67 rfl ?_
        exact gq_zret hX hQ dX3_isAhead_71 rfl rfl ⟨congrArg (fun z => some (Value.int z)) (by simp [aheadI, *]), rfl⟩
  · refine gq_aload_n hX dX3_isAhead_15 rfl rfl rfl ?_
    refine gq_getf hX dX3_isAhead_16 rfl fX3_19 (sxR0 hb) rfl ?_
    refine gq_iload_n hX dX3_isAhead_19 rfl rfl rfl ?_
    refine gq_ialdN hX dX3_isAhead_20 rfl (sxR2 hb) rfl (by omega) (Nat.le_of_ble_eq_true rfl) ?_
    refine gq_aload_n hX dX3_isAhead_21 rfl rfl rfl ?_
    refine gq_getf hX dX3_isAhead_22 rfl fX3_19 (sxR0 hb) rfl ?_
    refine gq_iload_n hX dX3_isAhead_25 rfl rfl rfl ?_
    refine gq_ialdN hX dX3_isAhead_26 rfl (sxR2 hb) rfl (by omega) (Nat.le_of_ble_eq_true rfl) ?_
    refine gq_icmp_le (tgt := 34) hX dX3_isAhead_27 rfl rfl (fun c27 => ?_) (fun c27 => ?_)
    · refine gq_iconst (v := nI 0) hX dX3_isAhead_34 rfl (by decide) ?_
      exact gq_zret hX hQ dX3_isAhead_35 rfl rfl ⟨congrArg (fun z => some (Value.int z)) (by simp [aheadI, *]), rfl⟩
    · refine gq_iconst (v := nI 1) hX dX3_isAhead_30 rfl (by decide) ?_
      refine gq_goto (tgt := 35) hX dX3_isAhead_31 rfl ?_
      exact gq_zret hX hQ dX3_isAhead_35 rfl rfl ⟨congrArg (fun z => some (Value.int z)) (by simp [aheadI, *]), rfl⟩

set_option maxRecDepth 100000 in
set_option maxHeartbeats 4000000 in
theorem ct_rankOf {E : Ev} {b : Nat → Nat} {S : St} {M : Hp} (hb : Lay E 13 b) {nc nt no : Nat} (hwf : Wf S nc nt no) {x : Nat} (hx : x < nc) : Ct E mX3_rankOf [.ref (b 0), .int (nI x)] (StP E b S M) (eqR (some (.int (rankI S nc x))) (StP E b S M)) 0 0 := by
  refine Ct.of gmX3_rankOf (ls := [.ref (b 0), .int (nI x), hole, hole]) rfl rfl (Nat.le_of_ble_eq_true rfl) ?_
  intro X hX Q hQ
  have hwf2 := hwf
  obtain ⟨hnc, hncl, hnt, hntl, hno, hnol⟩ := hwf2
  refine gq_iconst (v := nI 0) hX dX3_rankOf_0 rfl (by decide) ?_
  refine gq_istore_n hX dX3_rankOf_1 rfl rfl (Nat.le_of_ble_eq_true rfl) rfl ?_
  refine gq_iconst (v := nI 0) hX dX3_rankOf_2 rfl (by decide) ?_
  refine gq_istore_n hX dX3_rankOf_3 rfl rfl (Nat.le_of_ble_eq_true rfl) rfl ?_
  have loop : ∀ n j : Nat, j + n = nc → Gq E X mX3_rankOf Q 4 [.ref (b 0), .int (nI x), .int (it (fun j s => if aheadI S j x = 0 then s else s + nI 1) (nI 0) j), .int (nI j)] [] (StP E b S M) 0 0 := by
    intro n
    induction n with
    | zero =>
      intro j hj
      refine gq_iload_n hX dX3_rankOf_4 rfl rfl rfl ?_
      refine gq_aload_n hX dX3_rankOf_5 rfl rfl rfl ?_
      refine gq_getf hX dX3_rankOf_6 rfl fX3_9 (sxR0 hb) rfl ?_
      refine gq_icmp_geT (tgt := 30) hX dX3_rankOf_9 rfl (cT hnc (by omega) (by omega)) ?_
      have ej : nc = j := by omega
      subst ej
      refine gq_iload_n hX dX3_rankOf_30 rfl rfl rfl ?_
      exact gq_iret hX hQ dX3_rankOf_31 rfl ⟨rfl, rfl⟩
    | succ n ih =>
      intro j hj
      refine gq_iload_n hX dX3_rankOf_4 rfl rfl rfl ?_
      refine gq_aload_n hX dX3_rankOf_5 rfl rfl rfl ?_
      refine gq_getf hX dX3_rankOf_6 rfl fX3_9 (sxR0 hb) rfl ?_
      refine gq_icmp_geF (tgt := 30) hX dX3_rankOf_9 rfl rfl (cF hnc (by omega) (by omega)) ?_
      refine gq_aload_n hX dX3_rankOf_12 rfl rfl rfl ?_
      refine gq_iload_n hX dX3_rankOf_13 rfl rfl rfl ?_
      refine gq_iload_n hX dX3_rankOf_14 rfl rfl rfl ?_
      refine gq_callVe hX dX3_rankOf_15 rfl vX3_69 (ct_isAhead hb hwf (by omega) (by omega)) rfl (sxR0 hb) rfl rfl (Nat.le_of_ble_eq_true rfl) ⟨(Nat.le_of_ble_eq_true rfl), (Nat.le_of_ble_eq_true rfl)⟩ (Nat.zero_add _) (Nat.zero_add _) ?_
      refine gq_if_eq (tgt := 24) hX dX3_rankOf_18 rfl rfl (fun c9 => ?_) (fun c9 => ?_)
      · refine gq_iinc hX dX3_rankOf_24 rfl rfl (inc1 _) (Nat.le_of_ble_eq_true rfl) rfl ?_
        refine gq_goto (tgt := 4) hX dX3_rankOf_27 rfl ?_
        exact gq_ls (by simp only [it, if_pos c9]; rfl) rfl rfl (ih (j + 1) (by omega))
      · refine gq_iinc hX dX3_rankOf_21 rfl rfl (incA _) (Nat.le_of_ble_eq_true rfl) rfl ?_
        refine gq_iinc hX dX3_rankOf_24 rfl rfl (inc1 _) (Nat.le_of_ble_eq_true rfl) rfl ?_
        refine gq_goto (tgt := 4) hX dX3_rankOf_27 rfl ?_
        exact gq_ls (by simp only [it, if_neg c9]; rfl) rfl rfl (ih (j + 1) (by omega))
  exact loop nc 0 (by omega)

set_option maxRecDepth 100000 in
set_option maxHeartbeats 4000000 in
theorem ct_committeeRanked {E : Ev} {b : Nat → Nat} {S : St} {M : Hp} (hb : Lay E 13 b) {nc nt no : Nat} (hwf : Wf S nc nt no) (r : Int32) : Ct E mX3_committeeRanked [.ref (b 0), .int r] (StP E b S M) (eqR (some (.int (slO (rankO S nc r)))) (StP E b S M)) 0 0 := by
  refine Ct.of gmX3_committeeRanked (ls := [.ref (b 0), .int r, hole]) rfl rfl (Nat.le_of_ble_eq_true rfl) ?_
  intro X hX Q hQ
  have hwf2 := hwf
  obtain ⟨hnc, hncl, hnt, hntl, hno, hnol⟩ := hwf2
  refine gq_iconst (v := nI 0) hX dX3_committeeRanked_0 rfl (by decide) ?_
  refine gq_istore_n hX dX3_committeeRanked_1 rfl rfl (Nat.le_of_ble_eq_true rfl) rfl ?_
  have loop : ∀ n j : Nat, j + n = nc →  firstI (fun j => decide (rankI S nc j = r)) n j = rankO S nc r → Gq E X mX3_committeeRanked Q 2 [.ref (b 0), .int r, .int (nI j)] [] (StP E b S M) 0 0 := by
    intro n
    induction n with
    | zero =>
      intro j hj  hf
      refine gq_iload_n hX dX3_committeeRanked_2 rfl rfl rfl ?_
      refine gq_aload_n hX dX3_committeeRanked_3 rfl rfl rfl ?_
      refine gq_getf hX dX3_committeeRanked_4 rfl fX3_9 (sxR0 hb) rfl ?_
      refine gq_icmp_geT (tgt := 27) hX dX3_committeeRanked_7 rfl (cT hnc (by omega) (by omega)) ?_
      have ej : nc = j := by omega
      subst ej
      refine gq_iconst (v := -1) hX dX3_committeeRanked_27 rfl (by decide) ?_
      have hf2 : rankO S nc r = none := by rw [← hf]; rfl
      exact gq_iret hX hQ dX3_committeeRanked_28 rfl ⟨by rw [hf2]; rfl, rfl⟩
    | succ n ih =>
      intro j hj  hf
      refine gq_iload_n hX dX3_committeeRanked_2 rfl rfl rfl ?_
      refine gq_aload_n hX dX3_committeeRanked_3 rfl rfl rfl ?_
      refine gq_getf hX dX3_committeeRanked_4 rfl fX3_9 (sxR0 hb) rfl ?_
      refine gq_icmp_geF (tgt := 27) hX dX3_committeeRanked_7 rfl rfl (cF hnc (by omega) (by omega)) ?_
      refine gq_aload_n hX dX3_committeeRanked_10 rfl rfl rfl ?_
      refine gq_iload_n hX dX3_committeeRanked_11 rfl rfl rfl ?_
      refine gq_callVe hX dX3_committeeRanked_12 rfl vX3_65 (ct_rankOf hb hwf (by omega)) rfl (sxR0 hb) rfl rfl (Nat.le_of_ble_eq_true rfl) ⟨(Nat.le_of_ble_eq_true rfl), (Nat.le_of_ble_eq_true rfl)⟩ (Nat.zero_add _) (Nat.zero_add _) ?_
      refine gq_iload_n hX dX3_committeeRanked_15 rfl rfl rfl ?_
      refine gq_icmp_ne (tgt := 21) hX dX3_committeeRanked_16 rfl rfl (fun c9 => ?_) (fun c9 => ?_)
      · refine gq_iinc hX dX3_committeeRanked_21 rfl rfl (inc1 _) (Nat.le_of_ble_eq_true rfl) rfl ?_
        refine gq_goto (tgt := 2) hX dX3_committeeRanked_24 rfl ?_
        have hf2 : firstI (fun j => decide (rankI S nc j = r)) n (j + 1) = rankO S nc r := by
          rw [← hf, firstI, if_neg (by simpa using c9)]
        exact ih (j + 1) (by omega) hf2
      · refine gq_iload_n hX dX3_committeeRanked_19 rfl rfl rfl ?_
        have hf2 : rankO S nc r = some j := by
          rw [← hf, firstI, if_pos (by simpa using c9)]
        exact gq_iret hX hQ dX3_committeeRanked_20 rfl ⟨by rw [hf2]; rfl, rfl⟩
  exact loop nc 0 (by omega) rfl

set_option maxRecDepth 100000 in
set_option maxHeartbeats 4000000 in
theorem ct_voiceOf {E : Ev} {b : Nat → Nat} {S : St} {M : Hp} (hb : Lay E 13 b) {nc nt no : Nat} (hwf : Wf S nc nt no) {k a : Nat} (hk : k < no) (hmv : S.2 9 k = nI a) (ha : a < nc) {j : Nat} (hj : j < nc) : Ct E mX3_voiceOf [.ref (b 0), .int (nI j), .int (nI k)] (StP E b S M) (eqR (some (.int (voiF S k a j))) (StP E b S M)) 0 0 := by
  refine Ct.of gmX3_voiceOf (ls := [.ref (b 0), .int (nI j), .int (nI k), hole]) rfl rfl (Nat.le_of_ble_eq_true rfl) ?_
  intro X hX Q hQ
  have hwf2 := hwf
  obtain ⟨hnc, hncl, hnt, hntl, hno, hnol⟩ := hwf2
  refine gq_aload_n hX dX3_voiceOf_0 rfl rfl rfl ?_
  refine gq_getf hX dX3_voiceOf_1 rfl fX3_38 (sxR0 hb) rfl ?_
  refine gq_getf hX dX3_voiceOf_4 rfl fX3_90 (sxR6 hb) rfl ?_
  refine gq_iload_n hX dX3_voiceOf_7 rfl rfl rfl ?_
  refine gq_ialdN hX dX3_voiceOf_8 rfl (sxR9 hb) rfl (by omega) (Nat.le_of_ble_eq_true rfl) ?_
  refine gq_istore_n hX dX3_voiceOf_9 rfl rfl (Nat.le_of_ble_eq_true rfl) rfl ?_
  refine gq_iload_n hX dX3_voiceOf_10 rfl rfl rfl ?_
  refine gq_iload_n hX dX3_voiceOf_11 rfl rfl rfl ?_
  refine gq_icmp_eq (tgt := 28) hX dX3_voiceOf_12 rfl rfl (fun c12 => ?_) (fun c12 => ?_)
  · refine gq_iconst (v := nI 1) hX dX3_voiceOf_28 rfl (by decide) ?_
    refine gq_iret hX hQ dX3_voiceOf_29 rfl ⟨congrArg (fun z => some (Value.int z)) ?_, rfl⟩
    rw [hmv] at *
    simp [voiF, *]
  · refine gq_iload_n hX dX3_voiceOf_15 rfl rfl rfl ?_
    refine gq_aload_n hX dX3_voiceOf_16 rfl rfl rfl ?_
    refine gq_getf hX dX3_voiceOf_17 rfl fX3_38 (sxR0 hb) rfl ?_
    refine gq_getf hX dX3_voiceOf_20 rfl fX3_93 (sxR6 hb) rfl ?_
    refine gq_iload_n hX dX3_voiceOf_23 rfl rfl rfl ?_
    refine gq_ialdN hX dX3_voiceOf_24 rfl (sxR11 hb) rfl (by omega) (Nat.le_of_ble_eq_true rfl) ?_
    refine gq_icmp_ne (tgt := 30) hX dX3_voiceOf_25 rfl rfl (fun c25 => ?_) (fun c25 => ?_)
    · refine gq_aload_n hX dX3_voiceOf_30 rfl rfl rfl ?_
      refine gq_getf hX dX3_voiceOf_31 rfl fX3_22 (sxR0 hb) rfl ?_
      refine gq_iload_n hX dX3_voiceOf_34 rfl rfl rfl ?_
      refine gq_zaldN hX dX3_voiceOf_35 rfl (sxR3 hb) rfl (by omega) (Nat.le_of_ble_eq_true rfl) ?_
      refine gq_if_ne (tgt := 41) hX dX3_voiceOf_36 rfl rfl (fun c36 => ?_) (fun c36 => ?_)
      · refine gq_aload_n hX dX3_voiceOf_41 rfl rfl rfl ?_
        refine gq_getf hX dX3_voiceOf_42 rfl fX3_19 (sxR0 hb) rfl ?_
        refine gq_iload_n hX dX3_voiceOf_45 rfl rfl rfl ?_
        refine gq_ialdN hX dX3_voiceOf_46 rfl (sxR2 hb) rfl (by omega) (Nat.le_of_ble_eq_true rfl) ?_
        refine gq_aload_n hX dX3_voiceOf_47 rfl rfl rfl ?_
        refine gq_getf hX dX3_voiceOf_48 rfl fX3_19 (sxR0 hb) rfl ?_
        refine gq_iload_n hX dX3_voiceOf_51 rfl rfl rfl ?_
        refine gq_ialdN hX dX3_voiceOf_52 rfl (sxR2 hb) hmv (by omega) (Nat.le_of_ble_eq_true rfl) ?_
        refine gq_icmp_gt (tgt := 60) hX dX3_voiceOf_53 rfl rfl (fun c53 => ?_) (fun c53 => ?_)
        · refine gq_iconst (v := -1) hX dX3_voiceOf_60 rfl (by decide) ?_
          refine gq_iret hX hQ dX3_voiceOf_61 rfl ⟨congrArg (fun z => some (Value.int z)) ?_, rfl⟩
          rw [hmv] at *
          simp [voiF, *]
        · refine gq_iconst (v := nI 1) hX dX3_voiceOf_56 rfl (by decide) ?_
          refine gq_goto (tgt := 61) hX dX3_voiceOf_57 rfl ?_
          refine gq_iret hX hQ dX3_voiceOf_61 rfl ⟨congrArg (fun z => some (Value.int z)) ?_, rfl⟩
          rw [hmv] at *
          simp [voiF, *]
      · refine gq_iconst (v := nI 0) hX dX3_voiceOf_39 rfl (by decide) ?_
        refine gq_iret hX hQ dX3_voiceOf_40 rfl ⟨congrArg (fun z => some (Value.int z)) ?_, rfl⟩
        rw [hmv] at *
        simp [voiF, *]
    · refine gq_iconst (v := nI 1) hX dX3_voiceOf_28 rfl (by decide) ?_
      refine gq_iret hX hQ dX3_voiceOf_29 rfl ⟨congrArg (fun z => some (Value.int z)) ?_, rfl⟩
      rw [hmv] at *
      simp [voiF, *]

set_option maxRecDepth 100000 in
set_option maxHeartbeats 4000000 in
theorem ct_sumOfVotes {E : Ev} {b : Nat → Nat} {S : St} {M : Hp} (hb : Lay E 13 b) {nc nt no : Nat} (hwf : Wf S nc nt no) {k a : Nat} (hk : k < no) (hmv : S.2 9 k = nI a) (ha : a < nc) (v : Int32) : Ct E mX3_sumOfVotes [.ref (b 0), .int (nI k), .int v] (StP E b S M) (eqR (some (.int (sumV S nc k a v))) (StP E b S M)) 0 0 := by
  refine Ct.of gmX3_sumOfVotes (ls := [.ref (b 0), .int (nI k), .int v, hole, hole]) rfl rfl (Nat.le_of_ble_eq_true rfl) ?_
  intro X hX Q hQ
  have hwf2 := hwf
  obtain ⟨hnc, hncl, hnt, hntl, hno, hnol⟩ := hwf2
  refine gq_iconst (v := nI 0) hX dX3_sumOfVotes_0 rfl (by decide) ?_
  refine gq_istore_n hX dX3_sumOfVotes_1 rfl rfl (Nat.le_of_ble_eq_true rfl) rfl ?_
  refine gq_iconst (v := nI 0) hX dX3_sumOfVotes_2 rfl (by decide) ?_
  refine gq_istore hX dX3_sumOfVotes_3 rfl (Nat.le_of_ble_eq_true rfl) rfl ?_
  have loop : ∀ n j : Nat, j + n = nc → Gq E X mX3_sumOfVotes Q 5 [.ref (b 0), .int (nI k), .int v, .int (it (fun j s => if voiF S k a j = v then s + S.2 1 j else s) (nI 0) j), .int (nI j)] [] (StP E b S M) 0 0 := by
    intro n
    induction n with
    | zero =>
      intro j hj
      refine gq_iload hX dX3_sumOfVotes_5 rfl rfl ?_
      refine gq_aload_n hX dX3_sumOfVotes_7 rfl rfl rfl ?_
      refine gq_getf hX dX3_sumOfVotes_8 rfl fX3_9 (sxR0 hb) rfl ?_
      refine gq_icmp_geT (tgt := 41) hX dX3_sumOfVotes_11 rfl (cT hnc (by omega) (by omega)) ?_
      have ej : nc = j := by omega
      subst ej
      refine gq_iload_n hX dX3_sumOfVotes_41 rfl rfl rfl ?_
      exact gq_iret hX hQ dX3_sumOfVotes_42 rfl ⟨rfl, rfl⟩
    | succ n ih =>
      intro j hj
      refine gq_iload hX dX3_sumOfVotes_5 rfl rfl ?_
      refine gq_aload_n hX dX3_sumOfVotes_7 rfl rfl rfl ?_
      refine gq_getf hX dX3_sumOfVotes_8 rfl fX3_9 (sxR0 hb) rfl ?_
      refine gq_icmp_geF (tgt := 41) hX dX3_sumOfVotes_11 rfl rfl (cF hnc (by omega) (by omega)) ?_
      refine gq_aload_n hX dX3_sumOfVotes_14 rfl rfl rfl ?_
      refine gq_iload hX dX3_sumOfVotes_15 rfl rfl ?_
      refine gq_iload_n hX dX3_sumOfVotes_17 rfl rfl rfl ?_
      refine gq_callVe hX dX3_sumOfVotes_18 rfl vX3_132 (ct_voiceOf hb hwf hk hmv ha (by omega)) rfl (sxR0 hb) rfl rfl (Nat.le_of_ble_eq_true rfl) ⟨(Nat.le_of_ble_eq_true rfl), (Nat.le_of_ble_eq_true rfl)⟩ (Nat.zero_add _) (Nat.zero_add _) ?_
      refine gq_iload_n hX dX3_sumOfVotes_21 rfl rfl rfl ?_
      refine gq_icmp_ne (tgt := 35) hX dX3_sumOfVotes_22 rfl rfl (fun c9 => ?_) (fun c9 => ?_)
      · refine gq_iinc hX dX3_sumOfVotes_35 rfl rfl (inc1 _) (Nat.le_of_ble_eq_true rfl) rfl ?_
        refine gq_goto (tgt := 5) hX dX3_sumOfVotes_38 rfl ?_
        exact gq_ls (by simp only [it, if_neg c9]; rfl) rfl rfl (ih (j + 1) (by omega))
      · refine gq_iload_n hX dX3_sumOfVotes_25 rfl rfl rfl ?_
        refine gq_aload_n hX dX3_sumOfVotes_26 rfl rfl rfl ?_
        refine gq_getf hX dX3_sumOfVotes_27 rfl fX3_15 (sxR0 hb) rfl ?_
        refine gq_iload hX dX3_sumOfVotes_30 rfl rfl ?_
        refine gq_ialdN hX dX3_sumOfVotes_32 rfl (sxR1 hb) rfl (by omega) (Nat.le_of_ble_eq_true rfl) ?_
        refine gq_iadd hX dX3_sumOfVotes_33 rfl ?_
        refine gq_istore_n hX dX3_sumOfVotes_34 rfl rfl (Nat.le_of_ble_eq_true rfl) rfl ?_
        refine gq_iinc hX dX3_sumOfVotes_35 rfl rfl (inc1 _) (Nat.le_of_ble_eq_true rfl) rfl ?_
        refine gq_goto (tgt := 5) hX dX3_sumOfVotes_38 rfl ?_
        exact gq_ls (by simp only [it, if_pos c9]; rfl) rfl rfl (ih (j + 1) (by omega))
  exact loop nc 0 (by omega)

set_option maxRecDepth 100000 in
set_option maxHeartbeats 4000000 in
theorem ct_sumFor {E : Ev} {b : Nat → Nat} {S : St} {M : Hp} (hb : Lay E 13 b) {nc nt no : Nat} (hwf : Wf S nc nt no) {k a : Nat} (hk : k < no) (hmv : S.2 9 k = nI a) (ha : a < nc) : Ct E mX3_sumFor [.ref (b 0), .int (nI k)] (StP E b S M) (eqR (some (.int (sumV S nc k a (nI 1)))) (StP E b S M)) 0 0 := by
  refine Ct.of gmX3_sumFor (ls := [.ref (b 0), .int (nI k)]) rfl rfl (Nat.le_of_ble_eq_true rfl) ?_
  intro X hX Q hQ
  refine gq_aload_n hX dX3_sumFor_0 rfl rfl rfl ?_
  refine gq_iload_n hX dX3_sumFor_1 rfl rfl rfl ?_
  refine gq_iconst (v := nI 1) hX dX3_sumFor_2 rfl (by decide) ?_
  refine gq_callVe hX dX3_sumFor_3 rfl vX3_136 (ct_sumOfVotes hb hwf hk hmv ha _) rfl (sxR0 hb) rfl rfl (Nat.le_of_ble_eq_true rfl) ⟨(Nat.le_of_ble_eq_true rfl), (Nat.le_of_ble_eq_true rfl)⟩ (Nat.zero_add _) (Nat.zero_add _) ?_
  exact gq_iret hX hQ dX3_sumFor_6 rfl ⟨rfl, rfl⟩

set_option maxRecDepth 100000 in
set_option maxHeartbeats 4000000 in
theorem ct_sumAgainst {E : Ev} {b : Nat → Nat} {S : St} {M : Hp} (hb : Lay E 13 b) {nc nt no : Nat} (hwf : Wf S nc nt no) {k a : Nat} (hk : k < no) (hmv : S.2 9 k = nI a) (ha : a < nc) : Ct E mX3_sumAgainst [.ref (b 0), .int (nI k)] (StP E b S M) (eqR (some (.int (sumV S nc k a (-1)))) (StP E b S M)) 0 0 := by
  refine Ct.of gmX3_sumAgainst (ls := [.ref (b 0), .int (nI k)]) rfl rfl (Nat.le_of_ble_eq_true rfl) ?_
  intro X hX Q hQ
  refine gq_aload_n hX dX3_sumAgainst_0 rfl rfl rfl ?_
  refine gq_iload_n hX dX3_sumAgainst_1 rfl rfl rfl ?_
  refine gq_iconst (v := -1) hX dX3_sumAgainst_2 rfl (by decide) ?_
  refine gq_callVe hX dX3_sumAgainst_3 rfl vX3_136 (ct_sumOfVotes hb hwf hk hmv ha _) rfl (sxR0 hb) rfl rfl (Nat.le_of_ble_eq_true rfl) ⟨(Nat.le_of_ble_eq_true rfl), (Nat.le_of_ble_eq_true rfl)⟩ (Nat.zero_add _) (Nat.zero_add _) ?_
  exact gq_iret hX hQ dX3_sumAgainst_6 rfl ⟨rfl, rfl⟩

