/-- the rows of booleans and letters hold what fits them -/
def Nar (S : St) : Prop := (∀ j, vp_nar .boolean (S.2 3 j) = S.2 3 j) ∧ (∀ j, vp_nar .char (S.2 8 j) = S.2 8 j) ∧ ∀ j, vp_nar .boolean (S.2 12 j) = S.2 12 j
theorem nar_upd {ty : FieldType} {f : Nat → Int32} (h : ∀ j, vp_nar ty (f j) = f j) {k : Nat} {x : Int32} (hx : vp_nar ty x = x) : ∀ j, vp_nar ty (upd f k x j) = upd f k x j := by
  intro j
  by_cases e : j = k
  · subst e
    rw [upd_s]
    exact hx
  · rw [upd_n x e]
    exact h j
def shO (S : St) (nt : Nat) : Option Nat := it (fun j o => if S.2 5 j = -1 then (match o with
  | none => some j
  | some t => if S.2 4 t ≤ S.2 4 j then some t else some j) else o) none nt
def comS (S : St) (nc : Nat) (m : Int32) : St := setS (setA (setA (setA S 1 (upd (S.2 1) nc m)) 2 (upd (S.2 2) nc (nI 0))) 3 (upd (S.2 3) nc (nI 1))) 0 (S.1 0 + nI 1)
def taiS (S : St) (nt : Nat) (x : Int32) : St := setS (setA (setA S 4 (upd (S.2 4) nt x)) 5 (upd (S.2 5) nt (-1))) 1 (S.1 1 + nI 1)
def payS (S : St) (j : Nat) (x : Int32) : St := setS (setA S 2 (upd (S.2 2) j (S.2 2 j - x))) 5 (S.1 5 + x)
def flyS (S : St) (j : Nat) : St := setA S 3 (upd (S.2 3) j (nI 1))
def groS1 (S : St) (j : Nat) : St := setA S 3 (upd (S.2 3) j (nI 0))
def groF (S : St) (j : Nat) (n : Nat) : Nat → Int32 := it (fun t f => if f t = nI j then upd f t (-1) else f) (S.2 5) n
def groS (S : St) (nt j : Nat) : St := setA (groS1 S j) 5 (groF S j nt)
def motS (S : St) (no : Nat) (kd mv ob : Int32) : St := setS (setS (setA (setA (setA (setA (setA (setA S 7 (upd (S.2 7) no (S.1 8))) 8 (upd (S.2 8) no kd)) 9 (upd (S.2 9) no mv)) 10 (upd (S.2 10) no ob)) 11 (upd (S.2 11) no (-1))) 12 (upd (S.2 12) no (nI 0))) 7 (S.1 7 + nI 1)) 8 (S.1 8 + nI 1)
/-- a slot of T2 copied into T's -/
def cpS (T T2 : St) (x y : Nat) : St := setA (setA (setA (setA (setA (setA T 7 (upd (T.2 7) y (T2.2 7 x))) 8 (upd (T.2 8) y (T2.2 8 x))) 9 (upd (T.2 9) y (T2.2 9 x))) 10 (upd (T.2 10) y (T2.2 10 x))) 11 (upd (T.2 11) y (T2.2 11 x))) 12 (upd (T.2 12) y (T2.2 12 x))
def cloS (S : St) (no k : Nat) : St := it (fun i T => cpS T T (k + i + 1) (k + i)) (setS S 7 (S.1 7 - nI 1)) (no - 1 - k)
def sedS (S : St) (k : Nat) (c : Int32) : St := setA S 11 (upd (S.2 11) k c)
def untS (S : St) (k a : Nat) : St := setS (setA (setA S 12 (upd (S.2 12) k (nI 0))) 2 (upd (S.2 2) a (S.2 2 a + nI 1))) 6 (S.1 6 + nI 1)
def chaS (S : St) (nt nc : Nat) : St := it (fun j T => setS (setA T 2 (upd (T.2 2) j (T.2 2 j + lenB S nt (nI j)))) 6 (T.1 6 + lenB S nt (nI j))) S nc
def debS (S : St) (nt nc : Nat) : St × Int32 := it (fun j s => if s.1.2 3 j = 0 then s else if s.1.2 2 j ≤ nI 30 then s else (groS s.1 nt j, s.2 + nI 1)) (S, nI 0) nc
def hourS (S : St) (nt nc : Nat) : St × Int32 := (setS (debS (chaS S nt nc) nt nc).1 2 ((debS (chaS S nt nc) nt nc).1.1 2 + nI 1), (debS (chaS S nt nc) nt nc).2)
def pasS (S : St) (nt nc : Nat) (h : Nat) : St × Int32 := it (fun _ s => ((hourS s.1 nt nc).1, s.2 + (hourS s.1 nt nc).2)) (S, nI 0) h
def gusS (S : St) (nt no : Nat) (str : Int32) : St × Int32 := it (fun k s => if s.1.2 12 k = 0 then (if s.1.2 3 (s.1.2 9 k).toNatClampNeg = 0 then s else if str ≤ lenB S nt (s.1.2 9 k) then s else (setA s.1 12 (upd (s.1.2 12) k (nI 1)), s.2 + nI 1)) else s) (S, nI 0) no
def ratI (S : St) (nt j : Nat) (h : Int32) : Int32 := if lenB S nt (nI j) = 0 then S.2 2 j else S.2 2 j + lenB S nt (nI j) * (if (if S.2 2 j ≤ nI 30 then (nI 30 - S.2 2 j) / lenB S nt (nI j) + nI 1 else nI 1) < h then (if S.2 2 j ≤ nI 30 then (nI 30 - S.2 2 j) / lenB S nt (nI j) + nI 1 else nI 1) else h)
theorem Wf.a {S : St} {nc nt no k : Nat} {f : Nat → Int32} (h : Wf S nc nt no) : Wf (setA S k f) nc nt no := h
theorem Wf.s {S : St} {nc nt no k : Nat} {v : Int32} (h : Wf S nc nt no) (h0 : k ≠ 0) (h1 : k ≠ 1) (h7 : k ≠ 7) : Wf (setS S k v) nc nt no := by
  unfold Wf setS
  dsimp only
  rw [if_neg (Ne.symm h0), if_neg (Ne.symm h1), if_neg (Ne.symm h7)]
  exact h
theorem it_inv {α : Type} {f : Nat → α → α} {a : α} {I : α → Prop} (h0 : I a) {n : Nat} (hs : ∀ j x, j < n → I x → I (f j x)) : I (it f a n) := by
  induction n with
  | zero => exact h0
  | succ n ih => exact hs n _ (by omega) (ih (fun j x hj => hs j x (by omega)))
theorem cpS_wf {T T2 : St} {x y nc nt no : Nat} (h : Wf T nc nt no) : Wf (cpS T T2 x y) nc nt no := h
theorem cpS_nar {T T2 : St} {x y : Nat} (h : Nar T) (h2 : Nar T2) : Nar (cpS T T2 x y) := ⟨h.1, nar_upd h.2.1 (h2.2.1 x), nar_upd h.2.2 (h2.2.2 x)⟩
theorem groS_wf {S : St} {j nc nt no : Nat} (h : Wf S nc nt no) : Wf (groS S nt j) nc nt no := h
theorem chaS_wf {S : St} {nc nt no n : Nat} (h : Wf S nc nt no) : Wf (chaS S nt n) nc nt no := it_inv (I := fun T => Wf T nc nt no) h (fun j T _ hT => Wf.s (k := 6) hT.a (by decide) (by decide) (by decide))
theorem debS_wf {S : St} {nc nt no n : Nat} (h : Wf S nc nt no) : Wf (debS S nt n).1 nc nt no := it_inv (I := fun s : St × Int32 => Wf s.1 nc nt no) h (fun j s _ hs => by
  split
  · exact hs
  · split
    · exact hs
    · exact groS_wf hs)
theorem hourS_wf {S : St} {nc nt no n : Nat} (h : Wf S nc nt no) : Wf (hourS S nt n).1 nc nt no := Wf.s (k := 2) (debS_wf (chaS_wf h)) (by decide) (by decide) (by decide)

set_option maxRecDepth 100000 in
set_option maxHeartbeats 4000000 in
theorem ct_sumForByMember {E : Ev} {b : Nat → Nat} {S : St} {M : Hp} (hb : Lay E 13 b) {nc nt no : Nat} (hwf : Wf S nc nt no) {k a : Nat} (hk : k < no) (hmv : S.2 9 k = nI a) (ha : a < nc) : Ct E mX3_sumForByMember [.ref (b 0), .int (nI k)] (StP E b S M) (eqR (some (.int (sumM S nc k a))) (StP E b S M)) 0 0 := by
  refine Ct.of gmX3_sumForByMember (ls := [.ref (b 0), .int (nI k), hole, hole, hole]) rfl rfl (Nat.le_of_ble_eq_true rfl) ?_
  intro X hX Q hQ
  have hwf2 := hwf
  obtain ⟨hnc, hncl, hnt, hntl, hno, hnol⟩ := hwf2
  refine gq_iconst (v := nI 0) hX dX3_sumForByMember_0 rfl (by decide) ?_
  refine gq_istore_n hX dX3_sumForByMember_1 rfl rfl (Nat.le_of_ble_eq_true rfl) rfl ?_
  refine gq_iconst (v := nI 1) hX dX3_sumForByMember_2 rfl (by decide) ?_
  refine gq_istore_n hX dX3_sumForByMember_3 rfl rfl (Nat.le_of_ble_eq_true rfl) rfl ?_
  have loop : ∀ n x : Nat, x + n = 9 → ∀ z : Value, Gq E X mX3_sumForByMember Q 4 [.ref (b 0), .int (nI k), .int (it (fun x s => sumM1 S nc k a x s) (nI 0) x), .int (nI (x + 1)), z] [] (StP E b S M) 0 0 := by
    intro n
    induction n with
    | zero =>
      intro x hj z
      have ej : 9 = x := by omega
      subst ej
      refine gq_iload_n hX dX3_sumForByMember_4 rfl rfl rfl ?_
      refine gq_bipush (v := nI 9) hX dX3_sumForByMember_5 rfl (by decide) ?_
      refine gq_icmp_gtT (tgt := 59) hX dX3_sumForByMember_7 rfl (nI_lt (by omega) (by omega)) ?_
      refine gq_iload_n hX dX3_sumForByMember_59 rfl rfl rfl ?_
      exact gq_iret hX hQ dX3_sumForByMember_60 rfl ⟨rfl, rfl⟩
    | succ n ih =>
      intro x hj z
      refine gq_iload_n hX dX3_sumForByMember_4 rfl rfl rfl ?_
      refine gq_bipush (v := nI 9) hX dX3_sumForByMember_5 rfl (by decide) ?_
      refine gq_icmp_gtF (tgt := 59) hX dX3_sumForByMember_7 rfl rfl (nI_nlt (by omega) (by omega)) ?_
      refine gq_iconst (v := nI 0) hX dX3_sumForByMember_10 rfl (by decide) ?_
      refine gq_istore hX dX3_sumForByMember_11 rfl (Nat.le_of_ble_eq_true rfl) rfl ?_
      obtain ⟨s0, hs0⟩ : ∃ s0, s0 = it (fun x s => sumM1 S nc k a x s) (nI 0) x := ⟨_, rfl⟩
      rw [← hs0]
      have loop2 : ∀ n2 j : Nat, j + n2 = nc → Gq E X mX3_sumForByMember Q 13 [.ref (b 0), .int (nI k), .int (it (fun j s => if S.2 1 j < nI (x + 1) then s else if voiF S k a j = nI 1 then s + nI 1 else s) s0 j), .int (nI (x + 1)), .int (nI j)] [] (StP E b S M) 0 0 := by
        intro n2
        induction n2 with
        | zero =>
          intro j hj2
          refine gq_iload hX dX3_sumForByMember_13 rfl rfl ?_
          refine gq_aload_n hX dX3_sumForByMember_15 rfl rfl rfl ?_
          refine gq_getf hX dX3_sumForByMember_16 rfl fX3_9 (sxR0 hb) rfl ?_
          refine gq_icmp_geT (tgt := 53) hX dX3_sumForByMember_19 rfl (cT hnc (by omega) (by omega)) ?_
          have ej : nc = j := by omega
          subst ej
          refine gq_iinc hX dX3_sumForByMember_53 rfl rfl (inc1 _) (Nat.le_of_ble_eq_true rfl) rfl ?_
          refine gq_goto (tgt := 4) hX dX3_sumForByMember_56 rfl ?_
          exact gq_ls (by simp only [it, ← hs0]; rfl) rfl rfl (ih (x + 1) (by omega) (.int (nI nc)))
        | succ n2 ih2 =>
          intro j hj2
          refine gq_iload hX dX3_sumForByMember_13 rfl rfl ?_
          refine gq_aload_n hX dX3_sumForByMember_15 rfl rfl rfl ?_
          refine gq_getf hX dX3_sumForByMember_16 rfl fX3_9 (sxR0 hb) rfl ?_
          refine gq_icmp_geF (tgt := 53) hX dX3_sumForByMember_19 rfl rfl (cF hnc (by omega) (by omega)) ?_
          refine gq_aload_n hX dX3_sumForByMember_22 rfl rfl rfl ?_
          refine gq_getf hX dX3_sumForByMember_23 rfl fX3_15 (sxR0 hb) rfl ?_
          refine gq_iload hX dX3_sumForByMember_26 rfl rfl ?_
          refine gq_ialdN hX dX3_sumForByMember_28 rfl (sxR1 hb) rfl (by omega) (Nat.le_of_ble_eq_true rfl) ?_
          refine gq_iload_n hX dX3_sumForByMember_29 rfl rfl rfl ?_
          refine gq_icmp_lt (tgt := 47) hX dX3_sumForByMember_30 rfl rfl (fun c8 => ?_) (fun c8 => ?_)
          · refine gq_iinc hX dX3_sumForByMember_47 rfl rfl (inc1 _) (Nat.le_of_ble_eq_true rfl) rfl ?_
            refine gq_goto (tgt := 13) hX dX3_sumForByMember_50 rfl ?_
            exact gq_ls (by simp only [it, if_pos c8]; rfl) rfl rfl (ih2 (j + 1) (by omega))
          · refine gq_aload_n hX dX3_sumForByMember_33 rfl rfl rfl ?_
            refine gq_iload hX dX3_sumForByMember_34 rfl rfl ?_
            refine gq_iload_n hX dX3_sumForByMember_36 rfl rfl rfl ?_
            refine gq_callVe hX dX3_sumForByMember_37 rfl vX3_132 (ct_voiceOf hb hwf hk hmv ha (by omega)) rfl (sxR0 hb) rfl rfl (Nat.le_of_ble_eq_true rfl) ⟨(Nat.le_of_ble_eq_true rfl), (Nat.le_of_ble_eq_true rfl)⟩ (Nat.zero_add _) (Nat.zero_add _) ?_
            refine gq_iconst (v := nI 1) hX dX3_sumForByMember_40 rfl (by decide) ?_
            refine gq_icmp_ne (tgt := 47) hX dX3_sumForByMember_41 rfl rfl (fun c9 => ?_) (fun c9 => ?_)
            · refine gq_iinc hX dX3_sumForByMember_47 rfl rfl (inc1 _) (Nat.le_of_ble_eq_true rfl) rfl ?_
              refine gq_goto (tgt := 13) hX dX3_sumForByMember_50 rfl ?_
              exact gq_ls (by simp only [it, if_neg c8, if_neg c9]; rfl) rfl rfl (ih2 (j + 1) (by omega))
            · refine gq_iinc hX dX3_sumForByMember_44 rfl rfl (incA _) (Nat.le_of_ble_eq_true rfl) rfl ?_
              refine gq_iinc hX dX3_sumForByMember_47 rfl rfl (inc1 _) (Nat.le_of_ble_eq_true rfl) rfl ?_
              refine gq_goto (tgt := 13) hX dX3_sumForByMember_50 rfl ?_
              exact gq_ls (by simp only [it, if_neg c8, if_pos c9]; rfl) rfl rfl (ih2 (j + 1) (by omega))
      exact loop2 nc 0 (by omega)
  exact loop 9 0 (by omega) _

set_option maxRecDepth 100000 in
set_option maxHeartbeats 4000000 in
theorem ct_sumsForAgree {E : Ev} {b : Nat → Nat} {S : St} {M : Hp} (hb : Lay E 13 b) {nc nt no : Nat} (hwf : Wf S nc nt no) (hmo : ∀ k, k < no → ∃ a, a < nc ∧ S.2 9 k = nI a ∧ sumV S nc k a (nI 1) = sumM S nc k a) : Ct E mX3_sumsForAgree [.ref (b 0)] (StP E b S M) (eqR (some (.int (nI 1))) (StP E b S M)) 0 0 := by
  refine Ct.of gmX3_sumsForAgree (ls := [.ref (b 0), hole]) rfl rfl (Nat.le_of_ble_eq_true rfl) ?_
  intro X hX Q hQ
  have hwf2 := hwf
  obtain ⟨hnc, hncl, hnt, hntl, hno, hnol⟩ := hwf2
  refine gq_iconst (v := nI 0) hX dX3_sumsForAgree_0 rfl (by decide) ?_
  refine gq_istore_n hX dX3_sumsForAgree_1 rfl rfl (Nat.le_of_ble_eq_true rfl) rfl ?_
  have loop : ∀ n j : Nat, j + n = no → Gq E X mX3_sumsForAgree Q 2 [.ref (b 0), .int (nI j)] [] (StP E b S M) 0 0 := by
    intro n
    induction n with
    | zero =>
      intro j hj
      refine gq_iload_n hX dX3_sumsForAgree_2 rfl rfl rfl ?_
      refine gq_aload_n hX dX3_sumsForAgree_3 rfl rfl rfl ?_
      refine gq_getf hX dX3_sumsForAgree_4 rfl fX3_38 (sxR0 hb) rfl ?_
      refine gq_getf hX dX3_sumsForAgree_7 rfl fX3_107 (sxR6 hb) rfl ?_
      refine gq_icmp_geT (tgt := 34) hX dX3_sumsForAgree_10 rfl (cT hno (by omega) (by omega)) ?_
      have ej : no = j := by omega
      subst ej
      refine gq_iconst (v := nI 1) hX dX3_sumsForAgree_34 rfl (by decide) ?_
      exact gq_zret hX hQ dX3_sumsForAgree_35 rfl rfl ⟨rfl, rfl⟩
    | succ n ih =>
      intro j hj
      refine gq_iload_n hX dX3_sumsForAgree_2 rfl rfl rfl ?_
      refine gq_aload_n hX dX3_sumsForAgree_3 rfl rfl rfl ?_
      refine gq_getf hX dX3_sumsForAgree_4 rfl fX3_38 (sxR0 hb) rfl ?_
      refine gq_getf hX dX3_sumsForAgree_7 rfl fX3_107 (sxR6 hb) rfl ?_
      refine gq_icmp_geF (tgt := 34) hX dX3_sumsForAgree_10 rfl rfl (cF hno (by omega) (by omega)) ?_
      obtain ⟨a, ha, hmv, he⟩ := hmo j (by omega)
      refine gq_aload_n hX dX3_sumsForAgree_13 rfl rfl rfl ?_
      refine gq_iload_n hX dX3_sumsForAgree_14 rfl rfl rfl ?_
      refine gq_callVe hX dX3_sumsForAgree_15 rfl vX3_110 (ct_sumFor hb hwf (by omega) hmv ha) rfl (sxR0 hb) rfl rfl (Nat.le_of_ble_eq_true rfl) ⟨(Nat.le_of_ble_eq_true rfl), (Nat.le_of_ble_eq_true rfl)⟩ (Nat.zero_add _) (Nat.zero_add _) ?_
      refine gq_aload_n hX dX3_sumsForAgree_18 rfl rfl rfl ?_
      refine gq_iload_n hX dX3_sumsForAgree_19 rfl rfl rfl ?_
      refine gq_callVe hX dX3_sumsForAgree_20 rfl vX3_139 (ct_sumForByMember hb hwf (by omega) hmv ha) rfl (sxR0 hb) rfl rfl (Nat.le_of_ble_eq_true rfl) ⟨(Nat.le_of_ble_eq_true rfl), (Nat.le_of_ble_eq_true rfl)⟩ (Nat.zero_add _) (Nat.zero_add _) ?_
      refine gq_icmp_eqT (tgt := 28) hX dX3_sumsForAgree_23 rfl he ?_
      refine gq_iinc hX dX3_sumsForAgree_28 rfl rfl (inc1 _) (Nat.le_of_ble_eq_true rfl) rfl ?_
      refine gq_goto (tgt := 2) hX dX3_sumsForAgree_31 rfl ?_
      exact ih (j + 1) (by omega)
  exact loop no 0 (by omega)

set_option maxRecDepth 100000 in
set_option maxHeartbeats 4000000 in
theorem ct_shortestFree {E : Ev} {b : Nat → Nat} {S : St} {M : Hp} (hb : Lay E 13 b) {nc nt no : Nat} (hwf : Wf S nc nt no) : Ct E mX3_shortestFree [.ref (b 0)] (StP E b S M) (eqR (some (.int (slO (shO S nt)))) (StP E b S M)) 0 0 := by
  refine Ct.of gmX3_shortestFree (ls := [.ref (b 0), hole, hole]) rfl rfl (Nat.le_of_ble_eq_true rfl) ?_
  intro X hX Q hQ
  have hwf2 := hwf
  obtain ⟨hnc, hncl, hnt, hntl, hno, hnol⟩ := hwf2
  refine gq_iconst (v := -1) hX dX3_shortestFree_0 rfl (by decide) ?_
  refine gq_istore_n hX dX3_shortestFree_1 rfl rfl (Nat.le_of_ble_eq_true rfl) rfl ?_
  refine gq_iconst (v := nI 0) hX dX3_shortestFree_2 rfl (by decide) ?_
  refine gq_istore_n hX dX3_shortestFree_3 rfl rfl (Nat.le_of_ble_eq_true rfl) rfl ?_
  have hlt : ∀ j t : Nat, j ≤ nt → shO S j = some t → t < j := by
    intro j
    induction j with
    | zero => intro t _ h; cases h
    | succ j ih =>
      intro t hj h
      have h2 : (if S.2 5 j = -1 then (match shO S j with
        | none => some j
        | some t => if S.2 4 t ≤ S.2 4 j then some t else some j) else shO S j) = some t := h
      cases ho : shO S j with
      | none =>
        rw [ho] at h2
        split at h2
        · cases h2
          omega
        · cases h2
      | some u =>
        have hu := ih u (by omega) ho
        rw [ho] at h2
        dsimp only at h2
        split at h2
        · split at h2
          · cases h2
            omega
          · cases h2
            omega
        · cases h2
          omega
  have loop : ∀ n j : Nat, j + n = nt → Gq E X mX3_shortestFree Q 4 [.ref (b 0), .int (slO (shO S j)), .int (nI j)] [] (StP E b S M) 0 0 := by
    intro n
    induction n with
    | zero =>
      intro j hj
      refine gq_iload_n hX dX3_shortestFree_4 rfl rfl rfl ?_
      refine gq_aload_n hX dX3_shortestFree_5 rfl rfl rfl ?_
      refine gq_getf hX dX3_shortestFree_6 rfl fX3_26 (sxR0 hb) rfl ?_
      refine gq_icmp_geT (tgt := 50) hX dX3_shortestFree_9 rfl (cT hnt (by omega) (by omega)) ?_
      have ej : nt = j := by omega
      subst ej
      refine gq_iload_n hX dX3_shortestFree_50 rfl rfl rfl ?_
      exact gq_iret hX hQ dX3_shortestFree_51 rfl ⟨rfl, rfl⟩
    | succ n ih =>
      intro j hj
      refine gq_iload_n hX dX3_shortestFree_4 rfl rfl rfl ?_
      refine gq_aload_n hX dX3_shortestFree_5 rfl rfl rfl ?_
      refine gq_getf hX dX3_shortestFree_6 rfl fX3_26 (sxR0 hb) rfl ?_
      refine gq_icmp_geF (tgt := 50) hX dX3_shortestFree_9 rfl rfl (cF hnt (by omega) (by omega)) ?_
      refine gq_aload_n hX dX3_shortestFree_12 rfl rfl rfl ?_
      refine gq_getf hX dX3_shortestFree_13 rfl fX3_32 (sxR0 hb) rfl ?_
      refine gq_iload_n hX dX3_shortestFree_16 rfl rfl rfl ?_
      refine gq_ialdN hX dX3_shortestFree_17 rfl (sxR5 hb) rfl (by omega) (Nat.le_of_ble_eq_true rfl) ?_
      refine gq_iconst (v := -1) hX dX3_shortestFree_18 rfl (by decide) ?_
      refine gq_icmp_ne (tgt := 44) hX dX3_shortestFree_19 rfl rfl (fun c9 => ?_) (fun c9 => ?_)
      · refine gq_iinc hX dX3_shortestFree_44 rfl rfl (inc1 _) (Nat.le_of_ble_eq_true rfl) rfl ?_
        refine gq_goto (tgt := 4) hX dX3_shortestFree_47 rfl ?_
        have h9 : shO S (j + 1) = shO S j := if_neg c9
        exact gq_ls (by rw [h9]; rfl) rfl rfl (ih (j + 1) (by omega))
      · cases ho : shO S j with
        | none =>
          refine gq_iload_n hX dX3_shortestFree_22 rfl rfl rfl ?_
          refine gq_iconst (v := -1) hX dX3_shortestFree_23 rfl (by decide) ?_
          refine gq_icmp_eqT (tgt := 42) hX dX3_shortestFree_24 rfl rfl ?_
          refine gq_iload_n hX dX3_shortestFree_42 rfl rfl rfl ?_
          refine gq_istore_n hX dX3_shortestFree_43 rfl rfl (Nat.le_of_ble_eq_true rfl) rfl ?_
          refine gq_iinc hX dX3_shortestFree_44 rfl rfl (inc1 _) (Nat.le_of_ble_eq_true rfl) rfl ?_
          refine gq_goto (tgt := 4) hX dX3_shortestFree_47 rfl ?_
          have h9 : shO S (j + 1) = some j := by
            show (if S.2 5 j = -1 then (match shO S j with
              | none => some j
              | some t => if S.2 4 t ≤ S.2 4 j then some t else some j) else shO S j) = some j
            rw [if_pos c9, ho]
          exact gq_ls (by rw [h9]; rfl) rfl rfl (ih (j + 1) (by omega))
        | some t =>
          have hts := hlt j t (by omega) ho
          dsimp only [slO]
          refine gq_iload_n hX dX3_shortestFree_22 rfl rfl rfl ?_
          refine gq_iconst (v := -1) hX dX3_shortestFree_23 rfl (by decide) ?_
          refine gq_icmp_eqF (tgt := 42) hX dX3_shortestFree_24 rfl rfl (nI_m1 (by omega)) ?_
          refine gq_aload_n hX dX3_shortestFree_27 rfl rfl rfl ?_
          refine gq_getf hX dX3_shortestFree_28 rfl fX3_29 (sxR0 hb) rfl ?_
          refine gq_iload_n hX dX3_shortestFree_31 rfl rfl rfl ?_
          refine gq_ialdN hX dX3_shortestFree_32 rfl (sxR4 hb) rfl (by omega) (Nat.le_of_ble_eq_true rfl) ?_
          refine gq_aload_n hX dX3_shortestFree_33 rfl rfl rfl ?_
          refine gq_getf hX dX3_shortestFree_34 rfl fX3_29 (sxR0 hb) rfl ?_
          refine gq_iload_n hX dX3_shortestFree_37 rfl rfl rfl ?_
          refine gq_ialdN hX dX3_shortestFree_38 rfl (sxR4 hb) rfl (by omega) (Nat.le_of_ble_eq_true rfl) ?_
          refine gq_icmp_ge (tgt := 44) hX dX3_shortestFree_39 rfl rfl (fun c8 => ?_) (fun c8 => ?_)
          · refine gq_iinc hX dX3_shortestFree_44 rfl rfl (inc1 _) (Nat.le_of_ble_eq_true rfl) rfl ?_
            refine gq_goto (tgt := 4) hX dX3_shortestFree_47 rfl ?_
            have h9 : shO S (j + 1) = some t := by
              show (if S.2 5 j = -1 then (match shO S j with
                | none => some j
                | some t => if S.2 4 t ≤ S.2 4 j then some t else some j) else shO S j) = some t
              rw [if_pos c9, ho]
              exact if_pos c8
            exact gq_ls (by rw [h9]; rfl) rfl rfl (ih (j + 1) (by omega))
          · refine gq_iload_n hX dX3_shortestFree_42 rfl rfl rfl ?_
            refine gq_istore_n hX dX3_shortestFree_43 rfl rfl (Nat.le_of_ble_eq_true rfl) rfl ?_
            refine gq_iinc hX dX3_shortestFree_44 rfl rfl (inc1 _) (Nat.le_of_ble_eq_true rfl) rfl ?_
            refine gq_goto (tgt := 4) hX dX3_shortestFree_47 rfl ?_
            have h9 : shO S (j + 1) = some j := by
              show (if S.2 5 j = -1 then (match shO S j with
                | none => some j
                | some t => if S.2 4 t ≤ S.2 4 j then some t else some j) else shO S j) = some j
              rw [if_pos c9, ho]
              exact if_neg c8
            exact gq_ls (by rw [h9]; rfl) rfl rfl (ih (j + 1) (by omega))
  exact loop nt 0 (by omega)

set_option maxRecDepth 100000 in
set_option maxHeartbeats 4000000 in
theorem ct_allRentersFly {E : Ev} {b : Nat → Nat} {S : St} {M : Hp} (hb : Lay E 13 b) {nc nt no : Nat} (hwf : Wf S nc nt no) (hro : ∀ t, t < nt → S.2 5 t = -1 ∨ ∃ a, a < nc ∧ S.2 5 t = nI a ∧ ¬ S.2 3 a = 0) : Ct E mX3_allRentersFly [.ref (b 0)] (StP E b S M) (eqR (some (.int (nI 1))) (StP E b S M)) 0 0 := by
  refine Ct.of gmX3_allRentersFly (ls := [.ref (b 0), hole, hole]) rfl rfl (Nat.le_of_ble_eq_true rfl) ?_
  intro X hX Q hQ
  have hwf2 := hwf
  obtain ⟨hnc, hncl, hnt, hntl, hno, hnol⟩ := hwf2
  refine gq_iconst (v := nI 0) hX dX3_allRentersFly_0 rfl (by decide) ?_
  refine gq_istore_n hX dX3_allRentersFly_1 rfl rfl (Nat.le_of_ble_eq_true rfl) rfl ?_
  have loop : ∀ n j : Nat, j + n = nt → ∀ z : Value, Gq E X mX3_allRentersFly Q 2 [.ref (b 0), .int (nI j), z] [] (StP E b S M) 0 0 := by
    intro n
    induction n with
    | zero =>
      intro j hj z
      refine gq_iload_n hX dX3_allRentersFly_2 rfl rfl rfl ?_
      refine gq_aload_n hX dX3_allRentersFly_3 rfl rfl rfl ?_
      refine gq_getf hX dX3_allRentersFly_4 rfl fX3_26 (sxR0 hb) rfl ?_
      refine gq_icmp_geT (tgt := 47) hX dX3_allRentersFly_7 rfl (cT hnt (by omega) (by omega)) ?_
      have ej : nt = j := by omega
      subst ej
      refine gq_iconst (v := nI 1) hX dX3_allRentersFly_47 rfl (by decide) ?_
      exact gq_zret hX hQ dX3_allRentersFly_48 rfl rfl ⟨rfl, rfl⟩
    | succ n ih =>
      intro j hj z
      refine gq_iload_n hX dX3_allRentersFly_2 rfl rfl rfl ?_
      refine gq_aload_n hX dX3_allRentersFly_3 rfl rfl rfl ?_
      refine gq_getf hX dX3_allRentersFly_4 rfl fX3_26 (sxR0 hb) rfl ?_
      refine gq_icmp_geF (tgt := 47) hX dX3_allRentersFly_7 rfl rfl (cF hnt (by omega) (by omega)) ?_
      refine gq_aload_n hX dX3_allRentersFly_10 rfl rfl rfl ?_
      refine gq_getf hX dX3_allRentersFly_11 rfl fX3_32 (sxR0 hb) rfl ?_
      refine gq_iload_n hX dX3_allRentersFly_14 rfl rfl rfl ?_
      refine gq_ialdN hX dX3_allRentersFly_15 rfl (sxR5 hb) rfl (by omega) (Nat.le_of_ble_eq_true rfl) ?_
      refine gq_istore_n hX dX3_allRentersFly_16 rfl rfl (Nat.le_of_ble_eq_true rfl) rfl ?_
      refine gq_iload_n hX dX3_allRentersFly_17 rfl rfl rfl ?_
      refine gq_iconst (v := -1) hX dX3_allRentersFly_18 rfl (by decide) ?_
      refine gq_icmp_eq (tgt := 41) hX dX3_allRentersFly_19 rfl rfl (fun c9 => ?_) (fun c9 => ?_)
      · refine gq_iinc hX dX3_allRentersFly_41 rfl rfl (inc1 _) (Nat.le_of_ble_eq_true rfl) rfl ?_
        refine gq_goto (tgt := 2) hX dX3_allRentersFly_44 rfl ?_
        exact ih (j + 1) (by omega) _
      · obtain h9 | ⟨a, ha2, h9, hf⟩ := hro j (by omega)
        · exact absurd h9 c9
        rw [h9]
        refine gq_aload_n hX dX3_allRentersFly_22 rfl rfl rfl ?_
        refine gq_iload_n hX dX3_allRentersFly_23 rfl rfl rfl ?_
        refine gq_callVe hX dX3_allRentersFly_24 rfl vX3_61 (ct_hasCommittee hb hwf _) rfl (sxR0 hb) rfl rfl (Nat.le_of_ble_eq_true rfl) ⟨(Nat.le_of_ble_eq_true rfl), (Nat.le_of_ble_eq_true rfl)⟩ (Nat.zero_add _) (Nat.zero_add _) ?_
        refine gq_if_eqF (tgt := 39) hX dX3_allRentersFly_27 rfl rfl (by rw [hasI_yes ha2 (by omega)]; decide) ?_
        refine gq_aload_n hX dX3_allRentersFly_30 rfl rfl rfl ?_
        refine gq_getf hX dX3_allRentersFly_31 rfl fX3_22 (sxR0 hb) rfl ?_
        refine gq_iload_n hX dX3_allRentersFly_34 rfl rfl rfl ?_
        refine gq_zaldN hX dX3_allRentersFly_35 rfl (sxR3 hb) rfl (by omega) (Nat.le_of_ble_eq_true rfl) ?_
        refine gq_if_neT (tgt := 41) hX dX3_allRentersFly_36 rfl hf ?_
        refine gq_iinc hX dX3_allRentersFly_41 rfl rfl (inc1 _) (Nat.le_of_ble_eq_true rfl) rfl ?_
        refine gq_goto (tgt := 2) hX dX3_allRentersFly_44 rfl ?_
        exact ih (j + 1) (by omega) _
  exact loop nt 0 (by omega) _

set_option maxRecDepth 100000 in
set_option maxHeartbeats 4000000 in
theorem ct_arrearsByRate {E : Ev} {b : Nat → Nat} {S : St} {M : Hp} (hb : Lay E 13 b) {nc nt no : Nat} (hwf : Wf S nc nt no) {j : Nat} (hj : j < nc) (h : Int32) : Ct E mX3_arrearsByRate [.ref (b 0), .int (nI j), .int h] (StP E b S M) (eqR (some (.int (ratI S nt j h))) (StP E b S M)) 0 0 := by
  refine Ct.of gmX3_arrearsByRate (ls := [.ref (b 0), .int (nI j), .int h, hole, hole, hole]) rfl rfl (Nat.le_of_ble_eq_true rfl) ?_
  intro X hX Q hQ
  have hwf2 := hwf
  obtain ⟨hnc, hncl, hnt, hntl, hno, hnol⟩ := hwf2
  refine gq_aload_n hX dX3_arrearsByRate_0 rfl rfl rfl ?_
  refine gq_getf hX dX3_arrearsByRate_1 rfl fX3_19 (sxR0 hb) rfl ?_
  refine gq_iload_n hX dX3_arrearsByRate_4 rfl rfl rfl ?_
  refine gq_ialdN hX dX3_arrearsByRate_5 rfl (sxR2 hb) rfl (by omega) (Nat.le_of_ble_eq_true rfl) ?_
  refine gq_istore_n hX dX3_arrearsByRate_6 rfl rfl (Nat.le_of_ble_eq_true rfl) rfl ?_
  refine gq_aload_n hX dX3_arrearsByRate_7 rfl rfl rfl ?_
  refine gq_iload_n hX dX3_arrearsByRate_8 rfl rfl rfl ?_
  refine gq_callVe hX dX3_arrearsByRate_9 rfl vX3_142 (ct_lengthBehind hb hwf _) rfl (sxR0 hb) rfl rfl (Nat.le_of_ble_eq_true rfl) ⟨(Nat.le_of_ble_eq_true rfl), (Nat.le_of_ble_eq_true rfl)⟩ (Nat.zero_add _) (Nat.zero_add _) ?_
  refine gq_istore hX dX3_arrearsByRate_12 rfl (Nat.le_of_ble_eq_true rfl) rfl ?_
  refine gq_iload hX dX3_arrearsByRate_14 rfl rfl ?_
  refine gq_if_ne (tgt := 21) hX dX3_arrearsByRate_16 rfl rfl (fun c16 => ?_) (fun c16 => ?_)
  · refine gq_iload_n hX dX3_arrearsByRate_21 rfl rfl rfl ?_
    refine gq_bipush (v := nI 30) hX dX3_arrearsByRate_22 rfl (by decide) ?_
    refine gq_icmp_le (tgt := 31) hX dX3_arrearsByRate_24 rfl rfl (fun c24 => ?_) (fun c24 => ?_)
    · refine gq_bipush (v := nI 30) hX dX3_arrearsByRate_31 rfl (by decide) ?_
      refine gq_iload_n hX dX3_arrearsByRate_33 rfl rfl rfl ?_
      refine gq_isub hX dX3_arrearsByRate_34 rfl ?_
      refine gq_iload hX dX3_arrearsByRate_35 rfl rfl ?_
      refine gq_idiv hX dX3_arrearsByRate_37 rfl c16 ?_
      refine gq_iconst (v := nI 1) hX dX3_arrearsByRate_38 rfl (by decide) ?_
      refine gq_iadd hX dX3_arrearsByRate_39 rfl ?_
      refine gq_istore hX dX3_arrearsByRate_40 rfl (Nat.le_of_ble_eq_true rfl) rfl ?_
      refine gq_iload_n hX dX3_arrearsByRate_42 rfl rfl rfl ?_
      refine gq_iload hX dX3_arrearsByRate_43 rfl rfl ?_
      refine gq_iload_n hX dX3_arrearsByRate_45 rfl rfl rfl ?_
      refine gq_iload hX dX3_arrearsByRate_46 rfl rfl ?_
      refine gq_mmin hX dX3_arrearsByRate_48 rfl nX3_151 (Nat.le_of_ble_eq_true rfl) (Nat.le_of_ble_eq_true rfl) ?_
      refine gq_imul hX dX3_arrearsByRate_51 rfl ?_
      refine gq_iadd hX dX3_arrearsByRate_52 rfl ?_
      exact gq_iret hX hQ dX3_arrearsByRate_53 rfl ⟨congrArg (fun z => some (Value.int z)) (by simp [ratI, *]), rfl⟩
    · refine gq_iconst (v := nI 1) hX dX3_arrearsByRate_27 rfl (by decide) ?_
      refine gq_goto (tgt := 40) hX dX3_arrearsByRate_28 rfl ?_
      refine gq_istore hX dX3_arrearsByRate_40 rfl (Nat.le_of_ble_eq_true rfl) rfl ?_
      refine gq_iload_n hX dX3_arrearsByRate_42 rfl rfl rfl ?_
      refine gq_iload hX dX3_arrearsByRate_43 rfl rfl ?_
      refine gq_iload_n hX dX3_arrearsByRate_45 rfl rfl rfl ?_
      refine gq_iload hX dX3_arrearsByRate_46 rfl rfl ?_
      refine gq_mmin hX dX3_arrearsByRate_48 rfl nX3_151 (Nat.le_of_ble_eq_true rfl) (Nat.le_of_ble_eq_true rfl) ?_
      refine gq_imul hX dX3_arrearsByRate_51 rfl ?_
      refine gq_iadd hX dX3_arrearsByRate_52 rfl ?_
      exact gq_iret hX hQ dX3_arrearsByRate_53 rfl ⟨congrArg (fun z => some (Value.int z)) (by simp [ratI, *]), rfl⟩
  · refine gq_iload_n hX dX3_arrearsByRate_19 rfl rfl rfl ?_
    exact gq_iret hX hQ dX3_arrearsByRate_20 rfl ⟨congrArg (fun z => some (Value.int z)) (by simp [ratI, *]), rfl⟩

set_option maxRecDepth 100000 in
set_option maxHeartbeats 4000000 in
theorem ct_enterCommittee {E : Ev} {b : Nat → Nat} {S : St} {M : Hp} (hb : Lay E 13 b) {nc nt no : Nat} (hwf : Wf S nc nt no) (hlt : nc < 6) (m : Int32) : Ct E mX3_enterCommittee [.ref (b 0), .int m] (StP E b S M) (eqR (some (.int (nI nc))) (StP E b (comS S nc m) M)) 0 0 := by
  refine Ct.of gmX3_enterCommittee (ls := [.ref (b 0), .int m]) rfl rfl (Nat.le_of_ble_eq_true rfl) ?_
  intro X hX Q hQ
  have hwf2 := hwf
  obtain ⟨hnc, hncl, hnt, hntl, hno, hnol⟩ := hwf2
  refine gq_aload_n hX dX3_enterCommittee_0 rfl rfl rfl ?_
  refine gq_getf hX dX3_enterCommittee_1 rfl fX3_15 (sxR0 hb) rfl ?_
  refine gq_aload_n hX dX3_enterCommittee_4 rfl rfl rfl ?_
  refine gq_getf hX dX3_enterCommittee_5 rfl fX3_9 (sxR0 hb) rfl ?_
  refine gq_iload_n hX dX3_enterCommittee_8 rfl rfl rfl ?_
  refine gq_iastN hX dX3_enterCommittee_9 rfl (sxR1 hb) hnc (by omega) (Nat.le_of_ble_eq_true rfl) (hb.2 1 (by decide)) (sxW1 hb) ?_
  refine gq_aload_n hX dX3_enterCommittee_10 rfl rfl rfl ?_
  refine gq_getf hX dX3_enterCommittee_11 rfl fX3_19 (sxR0 hb) rfl ?_
  refine gq_aload_n hX dX3_enterCommittee_14 rfl rfl rfl ?_
  refine gq_getf hX dX3_enterCommittee_15 rfl fX3_9 (sxR0 hb) rfl ?_
  refine gq_iconst (v := nI 0) hX dX3_enterCommittee_18 rfl (by decide) ?_
  refine gq_iastN hX dX3_enterCommittee_19 rfl (sxR2 hb) hnc (by omega) (Nat.le_of_ble_eq_true rfl) (hb.2 2 (by decide)) (sxW2 hb) ?_
  refine gq_aload_n hX dX3_enterCommittee_20 rfl rfl rfl ?_
  refine gq_getf hX dX3_enterCommittee_21 rfl fX3_22 (sxR0 hb) rfl ?_
  refine gq_aload_n hX dX3_enterCommittee_24 rfl rfl rfl ?_
  refine gq_getf hX dX3_enterCommittee_25 rfl fX3_9 (sxR0 hb) rfl ?_
  refine gq_iconst (v := nI 1) hX dX3_enterCommittee_28 rfl (by decide) ?_
  refine gq_zastN hX dX3_enterCommittee_29 rfl (sxR3 hb) hnc (by omega) (Nat.le_of_ble_eq_true rfl) (hb.2 3 (by decide)) (sxW3 hb) ?_
  rw [vz1]
  refine gq_aload_n hX dX3_enterCommittee_30 rfl rfl rfl ?_
  refine gq_dup hX dX3_enterCommittee_31 rfl rfl ?_
  refine gq_getf hX dX3_enterCommittee_32 rfl fX3_9 (sxR0 hb) rfl ?_
  refine gq_iconst (v := nI 1) hX dX3_enterCommittee_35 rfl (by decide) ?_
  refine gq_iadd hX dX3_enterCommittee_36 rfl ?_
  refine gq_putf hX dX3_enterCommittee_37 rfl fX3_9 rfl rfl rfl (sxR0 hb) (Nat.le_of_ble_eq_true rfl) (hb.2 0 (by decide)) (sxW0_0 hb) ?_
  refine gq_aload_n hX dX3_enterCommittee_40 rfl rfl rfl ?_
  refine gq_getf hX dX3_enterCommittee_41 rfl fX3_9 (sxR0 hb) rfl ?_
  refine gq_iconst (v := nI 1) hX dX3_enterCommittee_44 rfl (by decide) ?_
  refine gq_isub hX dX3_enterCommittee_45 rfl ?_
  exact gq_iret hX hQ dX3_enterCommittee_46 rfl ⟨by show some (Value.int (S.1 0 + nI 1 - nI 1)) = _; rw [hnc, inM, dcm], rfl⟩

set_option maxRecDepth 100000 in
set_option maxHeartbeats 4000000 in
theorem ct_enterTail {E : Ev} {b : Nat → Nat} {S : St} {M : Hp} (hb : Lay E 13 b) {nc nt no : Nat} (hwf : Wf S nc nt no) (hlt : nt < 8) (x : Int32) : Ct E mX3_enterTail [.ref (b 0), .int x] (StP E b S M) (eqR (some (.int (nI nt))) (StP E b (taiS S nt x) M)) 0 0 := by
  refine Ct.of gmX3_enterTail (ls := [.ref (b 0), .int x]) rfl rfl (Nat.le_of_ble_eq_true rfl) ?_
  intro X hX Q hQ
  have hwf2 := hwf
  obtain ⟨hnc, hncl, hnt, hntl, hno, hnol⟩ := hwf2
  refine gq_aload_n hX dX3_enterTail_0 rfl rfl rfl ?_
  refine gq_getf hX dX3_enterTail_1 rfl fX3_29 (sxR0 hb) rfl ?_
  refine gq_aload_n hX dX3_enterTail_4 rfl rfl rfl ?_
  refine gq_getf hX dX3_enterTail_5 rfl fX3_26 (sxR0 hb) rfl ?_
  refine gq_iload_n hX dX3_enterTail_8 rfl rfl rfl ?_
  refine gq_iastN hX dX3_enterTail_9 rfl (sxR4 hb) hnt (by omega) (Nat.le_of_ble_eq_true rfl) (hb.2 4 (by decide)) (sxW4 hb) ?_
  refine gq_aload_n hX dX3_enterTail_10 rfl rfl rfl ?_
  refine gq_getf hX dX3_enterTail_11 rfl fX3_32 (sxR0 hb) rfl ?_
  refine gq_aload_n hX dX3_enterTail_14 rfl rfl rfl ?_
  refine gq_getf hX dX3_enterTail_15 rfl fX3_26 (sxR0 hb) rfl ?_
  refine gq_iconst (v := -1) hX dX3_enterTail_18 rfl (by decide) ?_
  refine gq_iastN hX dX3_enterTail_19 rfl (sxR5 hb) hnt (by omega) (Nat.le_of_ble_eq_true rfl) (hb.2 5 (by decide)) (sxW5 hb) ?_
  refine gq_aload_n hX dX3_enterTail_20 rfl rfl rfl ?_
  refine gq_dup hX dX3_enterTail_21 rfl rfl ?_
  refine gq_getf hX dX3_enterTail_22 rfl fX3_26 (sxR0 hb) rfl ?_
  refine gq_iconst (v := nI 1) hX dX3_enterTail_25 rfl (by decide) ?_
  refine gq_iadd hX dX3_enterTail_26 rfl ?_
  refine gq_putf hX dX3_enterTail_27 rfl fX3_26 rfl rfl rfl (sxR0 hb) (Nat.le_of_ble_eq_true rfl) (hb.2 0 (by decide)) (sxW0_4 hb) ?_
  refine gq_aload_n hX dX3_enterTail_30 rfl rfl rfl ?_
  refine gq_getf hX dX3_enterTail_31 rfl fX3_26 (sxR0 hb) rfl ?_
  refine gq_iconst (v := nI 1) hX dX3_enterTail_34 rfl (by decide) ?_
  refine gq_isub hX dX3_enterTail_35 rfl ?_
  exact gq_iret hX hQ dX3_enterTail_36 rfl ⟨by show some (Value.int (S.1 1 + nI 1 - nI 1)) = _; rw [hnt, inM, dcm], rfl⟩

set_option maxRecDepth 100000 in
set_option maxHeartbeats 4000000 in
theorem ct_takeCoins {E : Ev} {b : Nat → Nat} {S : St} {M : Hp} (hb : Lay E 13 b) {nc nt no : Nat} (hwf : Wf S nc nt no) {j : Nat} (hj : j < nc) (x : Int32) : Ct E mX3_takeCoins [.ref (b 0), .int (nI j), .int x] (StP E b S M) (eqR (some (.int (S.2 2 j - x))) (StP E b (payS S j x) M)) 0 0 := by
  refine Ct.of gmX3_takeCoins (ls := [.ref (b 0), .int (nI j), .int x]) rfl rfl (Nat.le_of_ble_eq_true rfl) ?_
  intro X hX Q hQ
  have hwf2 := hwf
  obtain ⟨hnc, hncl, hnt, hntl, hno, hnol⟩ := hwf2
  refine gq_aload_n hX dX3_takeCoins_0 rfl rfl rfl ?_
  refine gq_getf hX dX3_takeCoins_1 rfl fX3_19 (sxR0 hb) rfl ?_
  refine gq_iload_n hX dX3_takeCoins_4 rfl rfl rfl ?_
  refine gq_dup2 hX dX3_takeCoins_5 rfl rfl rfl ?_
  refine gq_ialdN hX dX3_takeCoins_6 rfl (sxR2 hb) rfl (by omega) (Nat.le_of_ble_eq_true rfl) ?_
  refine gq_iload_n hX dX3_takeCoins_7 rfl rfl rfl ?_
  refine gq_isub hX dX3_takeCoins_8 rfl ?_
  refine gq_iastN hX dX3_takeCoins_9 rfl (sxR2 hb) rfl (by omega) (Nat.le_of_ble_eq_true rfl) (hb.2 2 (by decide)) (sxW2 hb) ?_
  refine gq_aload_n hX dX3_takeCoins_10 rfl rfl rfl ?_
  refine gq_dup hX dX3_takeCoins_11 rfl rfl ?_
  refine gq_getf hX dX3_takeCoins_12 rfl fX3_51 (sxR0 hb) rfl ?_
  refine gq_iload_n hX dX3_takeCoins_15 rfl rfl rfl ?_
  refine gq_iadd hX dX3_takeCoins_16 rfl ?_
  refine gq_putf hX dX3_takeCoins_17 rfl fX3_51 rfl rfl rfl (sxR0 hb) (Nat.le_of_ble_eq_true rfl) (hb.2 0 (by decide)) (sxW0_11 hb) ?_
  refine gq_aload_n hX dX3_takeCoins_20 rfl rfl rfl ?_
  refine gq_getf hX dX3_takeCoins_21 rfl fX3_19 (sxR0 hb) rfl ?_
  refine gq_iload_n hX dX3_takeCoins_24 rfl rfl rfl ?_
  refine gq_ialdN hX dX3_takeCoins_25 rfl (sxR2 hb) rfl (by omega) (Nat.le_of_ble_eq_true rfl) ?_
  exact gq_iret hX hQ dX3_takeCoins_26 rfl ⟨by show some (Value.int (upd (S.2 2) j (S.2 2 j - x) j)) = _; rw [upd_s], rfl⟩

set_option maxRecDepth 100000 in
set_option maxHeartbeats 4000000 in
theorem ct_letFly {E : Ev} {b : Nat → Nat} {S : St} {M : Hp} (hb : Lay E 13 b) {nc nt no : Nat} (hwf : Wf S nc nt no) {j : Nat} (hj : j < nc) : Ct E mX3_letFly [.ref (b 0), .int (nI j)] (StP E b S M) (eqR (some (.int (cntFly (flyS S j) nc))) (StP E b (flyS S j) M)) 0 0 := by
  refine Ct.of gmX3_letFly (ls := [.ref (b 0), .int (nI j), hole, hole]) rfl rfl (Nat.le_of_ble_eq_true rfl) ?_
  intro X hX Q hQ
  have hwf2 := hwf
  obtain ⟨hnc, hncl, hnt, hntl, hno, hnol⟩ := hwf2
  refine gq_aload_n hX dX3_letFly_0 rfl rfl rfl ?_
  refine gq_getf hX dX3_letFly_1 rfl fX3_22 (sxR0 hb) rfl ?_
  refine gq_iload_n hX dX3_letFly_4 rfl rfl rfl ?_
  refine gq_iconst (v := nI 1) hX dX3_letFly_5 rfl (by decide) ?_
  refine gq_zastN hX dX3_letFly_6 rfl (sxR3 hb) rfl (by omega) (Nat.le_of_ble_eq_true rfl) (hb.2 3 (by decide)) (sxW3 hb) ?_
  rw [vz1]
  refine gq_iconst (v := nI 0) hX dX3_letFly_7 rfl (by decide) ?_
  refine gq_istore_n hX dX3_letFly_8 rfl rfl (Nat.le_of_ble_eq_true rfl) rfl ?_
  refine gq_iconst (v := nI 0) hX dX3_letFly_9 rfl (by decide) ?_
  refine gq_istore_n hX dX3_letFly_10 rfl rfl (Nat.le_of_ble_eq_true rfl) rfl ?_
  obtain ⟨S1, hS1⟩ : ∃ z, z = flyS S j := ⟨_, rfl⟩
  have hwf1 : Wf S1 nc nt no := by rw [hS1]; exact hwf
  obtain ⟨hnc1, -, -, -, -, -⟩ := hwf1
  refine gq_ls (M' := StP E b S1 M) rfl rfl (by rw [hS1]; rfl) ?_
  rw [← hS1] at hQ
  have loop : ∀ n i : Nat, i + n = nc → Gq E X mX3_letFly Q 11 [.ref (b 0), .int (nI j), .int (it (fun j s => if S1.2 3 j = 0 then s else s + nI 1) (nI 0) i), .int (nI i)] [] (StP E b S1 M) 0 0 := by
    intro n
    induction n with
    | zero =>
      intro i hj
      refine gq_iload_n hX dX3_letFly_11 rfl rfl rfl ?_
      refine gq_aload_n hX dX3_letFly_12 rfl rfl rfl ?_
      refine gq_getf hX dX3_letFly_13 rfl fX3_9 (sxR0 hb) rfl ?_
      refine gq_icmp_geT (tgt := 37) hX dX3_letFly_16 rfl (cT hnc1 (by omega) (by omega)) ?_
      have ej : nc = i := by omega
      subst ej
      refine gq_iload_n hX dX3_letFly_37 rfl rfl rfl ?_
      exact gq_iret hX hQ dX3_letFly_38 rfl ⟨rfl, rfl⟩
    | succ n ih =>
      intro i hj
      refine gq_iload_n hX dX3_letFly_11 rfl rfl rfl ?_
      refine gq_aload_n hX dX3_letFly_12 rfl rfl rfl ?_
      refine gq_getf hX dX3_letFly_13 rfl fX3_9 (sxR0 hb) rfl ?_
      refine gq_icmp_geF (tgt := 37) hX dX3_letFly_16 rfl rfl (cF hnc1 (by omega) (by omega)) ?_
      refine gq_aload_n hX dX3_letFly_19 rfl rfl rfl ?_
      refine gq_getf hX dX3_letFly_20 rfl fX3_22 (sxR0 hb) rfl ?_
      refine gq_iload_n hX dX3_letFly_23 rfl rfl rfl ?_
      refine gq_zaldN hX dX3_letFly_24 rfl (sxR3 hb) rfl (by omega) (Nat.le_of_ble_eq_true rfl) ?_
      refine gq_if_eq (tgt := 31) hX dX3_letFly_25 rfl rfl (fun c9 => ?_) (fun c9 => ?_)
      · refine gq_iinc hX dX3_letFly_31 rfl rfl (inc1 _) (Nat.le_of_ble_eq_true rfl) rfl ?_
        refine gq_goto (tgt := 11) hX dX3_letFly_34 rfl ?_
        exact gq_ls (by simp only [it, if_pos c9]; rfl) rfl rfl (ih (i + 1) (by omega))
      · refine gq_iinc hX dX3_letFly_28 rfl rfl (incA _) (Nat.le_of_ble_eq_true rfl) rfl ?_
        refine gq_iinc hX dX3_letFly_31 rfl rfl (inc1 _) (Nat.le_of_ble_eq_true rfl) rfl ?_
        refine gq_goto (tgt := 11) hX dX3_letFly_34 rfl ?_
        exact gq_ls (by simp only [it, if_neg c9]; rfl) rfl rfl (ih (i + 1) (by omega))
  exact loop nc 0 (by omega)

set_option maxRecDepth 100000 in
set_option maxHeartbeats 4000000 in
theorem ct_groundKite {E : Ev} {b : Nat → Nat} {S : St} {M : Hp} (hb : Lay E 13 b) {nc nt no : Nat} (hwf : Wf S nc nt no) {j : Nat} (hj : j < nc) : Ct E mX3_groundKite [.ref (b 0), .int (nI j)] (StP E b S M) (eqR (none) (StP E b (groS S nt j) M)) 0 0 := by
  refine Ct.of gmX3_groundKite (ls := [.ref (b 0), .int (nI j), hole]) rfl rfl (Nat.le_of_ble_eq_true rfl) ?_
  intro X hX Q hQ
  have hwf2 := hwf
  obtain ⟨hnc, hncl, hnt, hntl, hno, hnol⟩ := hwf2
  refine gq_aload_n hX dX3_groundKite_0 rfl rfl rfl ?_
  refine gq_getf hX dX3_groundKite_1 rfl fX3_22 (sxR0 hb) rfl ?_
  refine gq_iload_n hX dX3_groundKite_4 rfl rfl rfl ?_
  refine gq_iconst (v := nI 0) hX dX3_groundKite_5 rfl (by decide) ?_
  refine gq_zastN hX dX3_groundKite_6 rfl (sxR3 hb) rfl (by omega) (Nat.le_of_ble_eq_true rfl) (hb.2 3 (by decide)) (sxW3 hb) ?_
  rw [vz0]
  refine gq_iconst (v := nI 0) hX dX3_groundKite_7 rfl (by decide) ?_
  refine gq_istore_n hX dX3_groundKite_8 rfl rfl (Nat.le_of_ble_eq_true rfl) rfl ?_
  have loop : ∀ n i : Nat, i + n = nt → Gq E X mX3_groundKite Q 9 [.ref (b 0), .int (nI j), .int (nI i)] [] (StP E b (setA (groS1 S j) 5 (groF S j i)) M) 0 0 := by
    intro n
    induction n with
    | zero =>
      intro i hj
      refine gq_iload_n hX dX3_groundKite_9 rfl rfl rfl ?_
      refine gq_aload_n hX dX3_groundKite_10 rfl rfl rfl ?_
      refine gq_getf hX dX3_groundKite_11 rfl fX3_26 (sxR0 hb) rfl ?_
      refine gq_icmp_geT (tgt := 40) hX dX3_groundKite_14 rfl (cT hnt (by omega) (by omega)) ?_
      have ej : nt = i := by omega
      subst ej
      exact gq_vret hX hQ dX3_groundKite_40 rfl ⟨rfl, rfl⟩
    | succ n ih =>
      intro i hj
      refine gq_iload_n hX dX3_groundKite_9 rfl rfl rfl ?_
      refine gq_aload_n hX dX3_groundKite_10 rfl rfl rfl ?_
      refine gq_getf hX dX3_groundKite_11 rfl fX3_26 (sxR0 hb) rfl ?_
      refine gq_icmp_geF (tgt := 40) hX dX3_groundKite_14 rfl rfl (cF hnt (by omega) (by omega)) ?_
      refine gq_aload_n hX dX3_groundKite_17 rfl rfl rfl ?_
      refine gq_getf hX dX3_groundKite_18 rfl fX3_32 (sxR0 hb) rfl ?_
      refine gq_iload_n hX dX3_groundKite_21 rfl rfl rfl ?_
      refine gq_ialdN hX dX3_groundKite_22 rfl (sxR5 hb) rfl (by omega) (Nat.le_of_ble_eq_true rfl) ?_
      refine gq_iload_n hX dX3_groundKite_23 rfl rfl rfl ?_
      refine gq_icmp_ne (tgt := 34) hX dX3_groundKite_24 rfl rfl (fun c9 => ?_) (fun c9 => ?_)
      · refine gq_iinc hX dX3_groundKite_34 rfl rfl (inc1 _) (Nat.le_of_ble_eq_true rfl) rfl ?_
        refine gq_goto (tgt := 9) hX dX3_groundKite_37 rfl ?_
        have h9 : groF S j (i + 1) = groF S j i := if_neg c9
        exact gq_ls rfl rfl (by rw [h9]) (ih (i + 1) (by omega))
      · refine gq_aload_n hX dX3_groundKite_27 rfl rfl rfl ?_
        refine gq_getf hX dX3_groundKite_28 rfl fX3_32 (sxR0 hb) rfl ?_
        refine gq_iload_n hX dX3_groundKite_31 rfl rfl rfl ?_
        refine gq_iconst (v := -1) hX dX3_groundKite_32 rfl (by decide) ?_
        refine gq_iastN hX dX3_groundKite_33 rfl (sxR5 hb) rfl (by omega) (Nat.le_of_ble_eq_true rfl) (hb.2 5 (by decide)) (sxW5 hb) ?_
        refine gq_iinc hX dX3_groundKite_34 rfl rfl (inc1 _) (Nat.le_of_ble_eq_true rfl) rfl ?_
        refine gq_goto (tgt := 9) hX dX3_groundKite_37 rfl ?_
        have h9 : groF S j (i + 1) = upd (groF S j i) i (-1) := if_pos c9
        exact gq_ls rfl rfl (by rw [h9]; rfl) (ih (i + 1) (by omega))
  have hg : setA (groS1 S j) 5 (S.2 5) = groS1 S j := by
    refine Prod.ext rfl ?_
    funext k
    show (if k = 5 then S.2 5 else (groS1 S j).2 k) = _
    by_cases e : k = 5
    · subst e
      rfl
    · rw [if_neg e]
  refine gq_ls rfl rfl ?_ (loop nt 0 (by omega))
  show StP E b (setA (groS1 S j) 5 (S.2 5)) M = _
  rw [hg]
  rfl

set_option maxRecDepth 100000 in
set_option maxHeartbeats 4000000 in
theorem ct_enter {E : Ev} {b : Nat → Nat} {S : St} {M : Hp} (hb : Lay E 13 b) {nc nt no : Nat} (hwf : Wf S nc nt no) (hlt : no < 8) {kd mv ob : Int32} (hkd : vp_nar .char kd = kd) : Ct E mX2_enter [.ref (b 6), .int kd, .int mv, .int ob] (StP E b S M) (eqR (some (.int (S.1 8))) (StP E b (motS S no kd mv ob) M)) 0 0 := by
  refine Ct.of gmX2_enter (ls := [.ref (b 6), .int kd, .int mv, .int ob]) rfl rfl (Nat.le_of_ble_eq_true rfl) ?_
  intro X hX Q hQ
  have hwf2 := hwf
  obtain ⟨hnc, hncl, hnt, hntl, hno, hnol⟩ := hwf2
  refine gq_aload_n hX dX2_enter_0 rfl rfl rfl ?_
  refine gq_getf hX dX2_enter_1 rfl fX2_18 (sxR6 hb) rfl ?_
  refine gq_aload_n hX dX2_enter_4 rfl rfl rfl ?_
  refine gq_getf hX dX2_enter_5 rfl fX2_9 (sxR6 hb) rfl ?_
  refine gq_aload_n hX dX2_enter_8 rfl rfl rfl ?_
  refine gq_getf hX dX2_enter_9 rfl fX2_15 (sxR6 hb) rfl ?_
  refine gq_iastN hX dX2_enter_12 rfl (sxR7 hb) hno (by omega) (Nat.le_of_ble_eq_true rfl) (hb.2 7 (by decide)) (sxW7 hb) ?_
  refine gq_aload_n hX dX2_enter_13 rfl rfl rfl ?_
  refine gq_getf hX dX2_enter_14 rfl fX2_22 (sxR6 hb) rfl ?_
  refine gq_aload_n hX dX2_enter_17 rfl rfl rfl ?_
  refine gq_getf hX dX2_enter_18 rfl fX2_9 (sxR6 hb) rfl ?_
  refine gq_iload_n hX dX2_enter_21 rfl rfl rfl ?_
  refine gq_castN hX dX2_enter_22 rfl (sxR8 hb) hno (by omega) (Nat.le_of_ble_eq_true rfl) (hb.2 8 (by decide)) (sxW8 hb) ?_
  rw [hkd]
  refine gq_aload_n hX dX2_enter_23 rfl rfl rfl ?_
  refine gq_getf hX dX2_enter_24 rfl fX2_26 (sxR6 hb) rfl ?_
  refine gq_aload_n hX dX2_enter_27 rfl rfl rfl ?_
  refine gq_getf hX dX2_enter_28 rfl fX2_9 (sxR6 hb) rfl ?_
  refine gq_iload_n hX dX2_enter_31 rfl rfl rfl ?_
  refine gq_iastN hX dX2_enter_32 rfl (sxR9 hb) hno (by omega) (Nat.le_of_ble_eq_true rfl) (hb.2 9 (by decide)) (sxW9 hb) ?_
  refine gq_aload_n hX dX2_enter_33 rfl rfl rfl ?_
  refine gq_getf hX dX2_enter_34 rfl fX2_29 (sxR6 hb) rfl ?_
  refine gq_aload_n hX dX2_enter_37 rfl rfl rfl ?_
  refine gq_getf hX dX2_enter_38 rfl fX2_9 (sxR6 hb) rfl ?_
  refine gq_iload_n hX dX2_enter_41 rfl rfl rfl ?_
  refine gq_iastN hX dX2_enter_42 rfl (sxR10 hb) hno (by omega) (Nat.le_of_ble_eq_true rfl) (hb.2 10 (by decide)) (sxW10 hb) ?_
  refine gq_aload_n hX dX2_enter_43 rfl rfl rfl ?_
  refine gq_getf hX dX2_enter_44 rfl fX2_32 (sxR6 hb) rfl ?_
  refine gq_aload_n hX dX2_enter_47 rfl rfl rfl ?_
  refine gq_getf hX dX2_enter_48 rfl fX2_9 (sxR6 hb) rfl ?_
  refine gq_iconst (v := -1) hX dX2_enter_51 rfl (by decide) ?_
  refine gq_iastN hX dX2_enter_52 rfl (sxR11 hb) hno (by omega) (Nat.le_of_ble_eq_true rfl) (hb.2 11 (by decide)) (sxW11 hb) ?_
  refine gq_aload_n hX dX2_enter_53 rfl rfl rfl ?_
  refine gq_getf hX dX2_enter_54 rfl fX2_35 (sxR6 hb) rfl ?_
  refine gq_aload_n hX dX2_enter_57 rfl rfl rfl ?_
  refine gq_getf hX dX2_enter_58 rfl fX2_9 (sxR6 hb) rfl ?_
  refine gq_iconst (v := nI 0) hX dX2_enter_61 rfl (by decide) ?_
  refine gq_zastN hX dX2_enter_62 rfl (sxR12 hb) hno (by omega) (Nat.le_of_ble_eq_true rfl) (hb.2 12 (by decide)) (sxW12 hb) ?_
  rw [vz0]
  refine gq_aload_n hX dX2_enter_63 rfl rfl rfl ?_
  refine gq_dup hX dX2_enter_64 rfl rfl ?_
  refine gq_getf hX dX2_enter_65 rfl fX2_9 (sxR6 hb) rfl ?_
  refine gq_iconst (v := nI 1) hX dX2_enter_68 rfl (by decide) ?_
  refine gq_iadd hX dX2_enter_69 rfl ?_
  refine gq_putf hX dX2_enter_70 rfl fX2_9 rfl rfl rfl (sxR6 hb) (Nat.le_of_ble_eq_true rfl) (hb.2 6 (by decide)) (sxW6_0 hb) ?_
  refine gq_aload_n hX dX2_enter_73 rfl rfl rfl ?_
  refine gq_dup hX dX2_enter_74 rfl rfl ?_
  refine gq_getf hX dX2_enter_75 rfl fX2_15 (sxR6 hb) rfl ?_
  refine gq_iconst (v := nI 1) hX dX2_enter_78 rfl (by decide) ?_
  refine gq_iadd hX dX2_enter_79 rfl ?_
  refine gq_putf hX dX2_enter_80 rfl fX2_15 rfl rfl rfl (sxR6 hb) (Nat.le_of_ble_eq_true rfl) (hb.2 6 (by decide)) (sxW6_1 hb) ?_
  refine gq_aload_n hX dX2_enter_83 rfl rfl rfl ?_
  refine gq_getf hX dX2_enter_84 rfl fX2_15 (sxR6 hb) rfl ?_
  refine gq_iconst (v := nI 1) hX dX2_enter_87 rfl (by decide) ?_
  refine gq_isub hX dX2_enter_88 rfl ?_
  exact gq_iret hX hQ dX2_enter_89 rfl ⟨by show some (Value.int (S.1 8 + nI 1 - nI 1)) = _; rw [Int32.add_sub_cancel], rfl⟩

set_option maxRecDepth 100000 in
set_option maxHeartbeats 4000000 in
theorem ct_enterMotion {E : Ev} {b : Nat → Nat} {S : St} {M : Hp} (hb : Lay E 13 b) {nc nt no : Nat} (hwf : Wf S nc nt no) (hlt : no < 8) {kd mv ob : Int32} (hkd : vp_nar .char kd = kd) : Ct E mX3_enterMotion [.ref (b 0), .int kd, .int mv, .int ob] (StP E b S M) (eqR (some (.int (S.1 8))) (StP E b (motS S no kd mv ob) M)) 0 0 := by
  refine Ct.of gmX3_enterMotion (ls := [.ref (b 0), .int kd, .int mv, .int ob]) rfl rfl (Nat.le_of_ble_eq_true rfl) ?_
  intro X hX Q hQ
  have hwf2 := hwf
  obtain ⟨hnc, hncl, hnt, hntl, hno, hnol⟩ := hwf2
  refine gq_aload_n hX dX3_enterMotion_0 rfl rfl rfl ?_
  refine gq_getf hX dX3_enterMotion_1 rfl fX3_38 (sxR0 hb) rfl ?_
  refine gq_iload_n hX dX3_enterMotion_4 rfl rfl rfl ?_
  refine gq_iload_n hX dX3_enterMotion_5 rfl rfl rfl ?_
  refine gq_iload_n hX dX3_enterMotion_6 rfl rfl rfl ?_
  refine gq_callVe hX dX3_enterMotion_7 rfl vX3_83 (ct_enter hb hwf hlt hkd) rfl (sxR6 hb) rfl rfl (Nat.le_of_ble_eq_true rfl) ⟨(Nat.le_of_ble_eq_true rfl), (Nat.le_of_ble_eq_true rfl)⟩ (Nat.zero_add _) (Nat.zero_add _) ?_
  exact gq_iret hX hQ dX3_enterMotion_10 rfl ⟨rfl, rfl⟩

set_option maxRecDepth 100000 in
set_option maxHeartbeats 4000000 in
theorem ct_copySlotS {E : Ev} {b : Nat → Nat} {S : St} {M : Hp} (hb : Lay E 13 b) (hn : Nar S) {x y : Nat} (hx : x < 8) (hy : y < 8) : Ct E mX2_copySlot [.ref (b 6), .ref (b 6), .int (nI x), .int (nI y)] (StP E b S M) (eqR (none) (StP E b (cpS S S x y) M)) 0 0 := by
  refine Ct.of gmX2_copySlot (ls := [.ref (b 6), .ref (b 6), .int (nI x), .int (nI y)]) rfl rfl (Nat.le_of_ble_eq_true rfl) ?_
  intro X hX Q hQ
  refine gq_aload_n hX dX2_copySlot_0 rfl rfl rfl ?_
  refine gq_getf hX dX2_copySlot_1 rfl fX2_18 (sxR6 hb) rfl ?_
  refine gq_iload_n hX dX2_copySlot_4 rfl rfl rfl ?_
  refine gq_aload_n hX dX2_copySlot_5 rfl rfl rfl ?_
  refine gq_getf hX dX2_copySlot_6 rfl fX2_18 (sxR6 hb) rfl ?_
  refine gq_iload_n hX dX2_copySlot_9 rfl rfl rfl ?_
  refine gq_ialdN hX dX2_copySlot_10 rfl (sxR7 hb) rfl (by omega) (Nat.le_of_ble_eq_true rfl) ?_
  refine gq_iastN hX dX2_copySlot_11 rfl (sxR7 hb) rfl (by omega) (Nat.le_of_ble_eq_true rfl) (hb.2 7 (by decide)) (sxW7 hb) ?_
  refine gq_aload_n hX dX2_copySlot_12 rfl rfl rfl ?_
  refine gq_getf hX dX2_copySlot_13 rfl fX2_22 (sxR6 hb) rfl ?_
  refine gq_iload_n hX dX2_copySlot_16 rfl rfl rfl ?_
  refine gq_aload_n hX dX2_copySlot_17 rfl rfl rfl ?_
  refine gq_getf hX dX2_copySlot_18 rfl fX2_22 (sxR6 hb) rfl ?_
  refine gq_iload_n hX dX2_copySlot_21 rfl rfl rfl ?_
  refine gq_caldN hX dX2_copySlot_22 rfl (sxR8 hb) rfl (by omega) (Nat.le_of_ble_eq_true rfl) ?_
  refine gq_castN hX dX2_copySlot_23 rfl (sxR8 hb) rfl (by omega) (Nat.le_of_ble_eq_true rfl) (hb.2 8 (by decide)) (sxW8 hb) ?_
  refine gq_ls (M' := StP E b (setA (setA S 7 (upd (S.2 7) y (S.2 7 x))) 8 (upd (S.2 8) y (S.2 8 x))) M) rfl rfl (congrArg (fun v => StP E b (setA (setA S 7 (upd (S.2 7) y (S.2 7 x))) 8 (upd (S.2 8) y v)) M) (hn.2.1 x).symm) ?_
  refine gq_aload_n hX dX2_copySlot_24 rfl rfl rfl ?_
  refine gq_getf hX dX2_copySlot_25 rfl fX2_26 (sxR6 hb) rfl ?_
  refine gq_iload_n hX dX2_copySlot_28 rfl rfl rfl ?_
  refine gq_aload_n hX dX2_copySlot_29 rfl rfl rfl ?_
  refine gq_getf hX dX2_copySlot_30 rfl fX2_26 (sxR6 hb) rfl ?_
  refine gq_iload_n hX dX2_copySlot_33 rfl rfl rfl ?_
  refine gq_ialdN hX dX2_copySlot_34 rfl (sxR9 hb) rfl (by omega) (Nat.le_of_ble_eq_true rfl) ?_
  refine gq_iastN hX dX2_copySlot_35 rfl (sxR9 hb) rfl (by omega) (Nat.le_of_ble_eq_true rfl) (hb.2 9 (by decide)) (sxW9 hb) ?_
  refine gq_aload_n hX dX2_copySlot_36 rfl rfl rfl ?_
  refine gq_getf hX dX2_copySlot_37 rfl fX2_29 (sxR6 hb) rfl ?_
  refine gq_iload_n hX dX2_copySlot_40 rfl rfl rfl ?_
  refine gq_aload_n hX dX2_copySlot_41 rfl rfl rfl ?_
  refine gq_getf hX dX2_copySlot_42 rfl fX2_29 (sxR6 hb) rfl ?_
  refine gq_iload_n hX dX2_copySlot_45 rfl rfl rfl ?_
  refine gq_ialdN hX dX2_copySlot_46 rfl (sxR10 hb) rfl (by omega) (Nat.le_of_ble_eq_true rfl) ?_
  refine gq_iastN hX dX2_copySlot_47 rfl (sxR10 hb) rfl (by omega) (Nat.le_of_ble_eq_true rfl) (hb.2 10 (by decide)) (sxW10 hb) ?_
  refine gq_aload_n hX dX2_copySlot_48 rfl rfl rfl ?_
  refine gq_getf hX dX2_copySlot_49 rfl fX2_32 (sxR6 hb) rfl ?_
  refine gq_iload_n hX dX2_copySlot_52 rfl rfl rfl ?_
  refine gq_aload_n hX dX2_copySlot_53 rfl rfl rfl ?_
  refine gq_getf hX dX2_copySlot_54 rfl fX2_32 (sxR6 hb) rfl ?_
  refine gq_iload_n hX dX2_copySlot_57 rfl rfl rfl ?_
  refine gq_ialdN hX dX2_copySlot_58 rfl (sxR11 hb) rfl (by omega) (Nat.le_of_ble_eq_true rfl) ?_
  refine gq_iastN hX dX2_copySlot_59 rfl (sxR11 hb) rfl (by omega) (Nat.le_of_ble_eq_true rfl) (hb.2 11 (by decide)) (sxW11 hb) ?_
  refine gq_aload_n hX dX2_copySlot_60 rfl rfl rfl ?_
  refine gq_getf hX dX2_copySlot_61 rfl fX2_35 (sxR6 hb) rfl ?_
  refine gq_iload_n hX dX2_copySlot_64 rfl rfl rfl ?_
  refine gq_aload_n hX dX2_copySlot_65 rfl rfl rfl ?_
  refine gq_getf hX dX2_copySlot_66 rfl fX2_35 (sxR6 hb) rfl ?_
  refine gq_iload_n hX dX2_copySlot_69 rfl rfl rfl ?_
  refine gq_zaldN hX dX2_copySlot_70 rfl (sxR12 hb) rfl (by omega) (Nat.le_of_ble_eq_true rfl) ?_
  refine gq_zastN hX dX2_copySlot_71 rfl (sxR12 hb) rfl (by omega) (Nat.le_of_ble_eq_true rfl) (hb.2 12 (by decide)) (sxW12 hb) ?_
  refine gq_ls (M' := StP E b (cpS S S x y) M) rfl rfl (congrArg (fun v => StP E b (setA (setA (setA (setA (setA (setA S 7 (upd (S.2 7) y (S.2 7 x))) 8 (upd (S.2 8) y (S.2 8 x))) 9 (upd (S.2 9) y (S.2 9 x))) 10 (upd (S.2 10) y (S.2 10 x))) 11 (upd (S.2 11) y (S.2 11 x))) 12 (upd (S.2 12) y v)) M) (hn.2.2 x).symm) ?_
  exact gq_vret hX hQ dX2_copySlot_72 rfl ⟨rfl, rfl⟩

set_option maxRecDepth 100000 in
set_option maxHeartbeats 4000000 in
theorem ct_close {E : Ev} {b : Nat → Nat} {S : St} {M : Hp} (hb : Lay E 13 b) {nc nt no : Nat} (hwf : Wf S nc nt no) (hn : Nar S) {k : Nat} (hk : k < no) : Ct E mX2_close [.ref (b 6), .int (nI k)] (StP E b S M) (eqR (none) (StP E b (cloS S no k) M)) 0 0 := by
  refine Ct.of gmX2_close (ls := [.ref (b 6), .int (nI k), hole]) rfl rfl (Nat.le_of_ble_eq_true rfl) ?_
  intro X hX Q hQ
  have hwf2 := hwf
  obtain ⟨hnc, hncl, hnt, hntl, hno, hnol⟩ := hwf2
  refine gq_aload_n hX dX2_close_0 rfl rfl rfl ?_
  refine gq_dup hX dX2_close_1 rfl rfl ?_
  refine gq_getf hX dX2_close_2 rfl fX2_9 (sxR6 hb) rfl ?_
  refine gq_iconst (v := nI 1) hX dX2_close_5 rfl (by decide) ?_
  refine gq_isub hX dX2_close_6 rfl ?_
  refine gq_putf hX dX2_close_7 rfl fX2_9 rfl rfl rfl (sxR6 hb) (Nat.le_of_ble_eq_true rfl) (hb.2 6 (by decide)) (sxW6_0 hb) ?_
  refine gq_iload_n hX dX2_close_10 rfl rfl rfl ?_
  refine gq_istore_n hX dX2_close_11 rfl rfl (Nat.le_of_ble_eq_true rfl) rfl ?_
  obtain ⟨T, hT⟩ : ∃ T : Nat → St, T = fun i => it (fun i T => cpS T T (k + i + 1) (k + i)) (setS S 7 (S.1 7 - nI 1)) i := ⟨_, rfl⟩
  have hT0 : ∀ i, T i = it (fun i T => cpS T T (k + i + 1) (k + i)) (setS S 7 (S.1 7 - nI 1)) i := fun i => by rw [hT]
  have hTo : ∀ i, (T i).1 7 = nI (no - 1) := by
    intro i
    induction i with
    | zero =>
      rw [hT0]
      show S.1 7 - nI 1 = _
      rw [hno]
      exact pk_sub (by omega)
    | succ i ih =>
      rw [hT0] at ih ⊢
      exact ih
  have hTn : ∀ i, Nar (T i) := by
    intro i
    induction i with
    | zero =>
      rw [hT0]
      exact hn
    | succ i ih =>
      rw [hT0] at ih ⊢
      exact cpS_nar ih ih
  have loop : ∀ n i : Nat, k + i + n = no - 1 → Gq E X mX2_close Q 12 [.ref (b 6), .int (nI k), .int (nI (k + i))] [] (StP E b (T i) M) 0 0 := by
    intro n
    induction n with
    | zero =>
      intro i hj
      refine gq_iload_n hX dX2_close_12 rfl rfl rfl ?_
      refine gq_aload_n hX dX2_close_13 rfl rfl rfl ?_
      refine gq_getf hX dX2_close_14 rfl fX2_9 (sxR6 hb) rfl ?_
      refine gq_icmp_geT (tgt := 35) hX dX2_close_17 rfl (cT (hTo i) (by omega) (by omega)) ?_
      have ei : i = no - 1 - k := by omega
      subst ei
      exact gq_vret hX hQ dX2_close_35 rfl ⟨rfl, by rw [hT0]; rfl⟩
    | succ n ih =>
      intro i hj
      refine gq_iload_n hX dX2_close_12 rfl rfl rfl ?_
      refine gq_aload_n hX dX2_close_13 rfl rfl rfl ?_
      refine gq_getf hX dX2_close_14 rfl fX2_9 (sxR6 hb) rfl ?_
      refine gq_icmp_geF (tgt := 35) hX dX2_close_17 rfl rfl (cF (hTo i) (by omega) (by omega)) ?_
      refine gq_aload_n hX dX2_close_20 rfl rfl rfl ?_
      refine gq_aload_n hX dX2_close_21 rfl rfl rfl ?_
      refine gq_iload_n hX dX2_close_22 rfl rfl rfl ?_
      refine gq_iconst (v := nI 1) hX dX2_close_23 rfl (by decide) ?_
      refine gq_iadd hX dX2_close_24 rfl ?_
      rw [inM]
      refine gq_iload_n hX dX2_close_25 rfl rfl rfl ?_
      refine gq_callVe hX dX2_close_26 rfl vX2_39 (ct_copySlotS (M := M) (x := k + i + 1) (y := k + i) hb (hTn i) (by omega) (by omega)) rfl (sxR6 hb) rfl rfl (Nat.le_of_ble_eq_true rfl) ⟨(Nat.le_of_ble_eq_true rfl), (Nat.le_of_ble_eq_true rfl)⟩ (Nat.zero_add _) (Nat.zero_add _) ?_
      refine gq_iinc hX dX2_close_29 rfl rfl (inc1 _) (Nat.le_of_ble_eq_true rfl) rfl ?_
      refine gq_goto (tgt := 12) hX dX2_close_32 rfl ?_
      have h9 : T (i + 1) = cpS (T i) (T i) (k + i + 1) (k + i) := by rw [hT0, hT0]; rfl
      exact gq_ls rfl rfl (by rw [h9]) (ih (i + 1) (by omega))
  exact gq_ls rfl rfl (by rw [hT0]; rfl) (loop (no - 1 - k) 0 (by omega))

set_option maxRecDepth 100000 in
set_option maxHeartbeats 4000000 in
theorem ct_setSeconder {E : Ev} {b : Nat → Nat} {S : St} {M : Hp} (hb : Lay E 13 b) {nc nt no : Nat} (hwf : Wf S nc nt no) {id : Int32} {k : Nat} (ho : slotO S no id = some k) (c : Int32) : Ct E mX3_setSeconder [.ref (b 0), .int c, .int id] (StP E b S M) (eqR (some (.int (cntSec (sedS S k c) no))) (StP E b (sedS S k c) M)) 0 0 := by
  refine Ct.of gmX3_setSeconder (ls := [.ref (b 0), .int c, .int id, hole]) rfl rfl (Nat.le_of_ble_eq_true rfl) ?_
  intro X hX Q hQ
  have hwf2 := hwf
  obtain ⟨hnc, hncl, hnt, hntl, hno, hnol⟩ := hwf2
  have hct := ct_slotOf (M := M) hb hwf id
  rw [ho] at hct
  obtain ⟨hk, hid⟩ := slotO_lt ho
  have hm1 : ¬ nI k = -1 := nI_m1 (by omega)
  refine gq_aload_n hX dX3_setSeconder_0 rfl rfl rfl ?_
  refine gq_getf hX dX3_setSeconder_1 rfl fX3_38 (sxR0 hb) rfl ?_
  refine gq_iload_n hX dX3_setSeconder_4 rfl rfl rfl ?_
  refine gq_callVe hX dX3_setSeconder_5 rfl vX3_87 (hct) rfl (sxR6 hb) rfl rfl (Nat.le_of_ble_eq_true rfl) ⟨(Nat.le_of_ble_eq_true rfl), (Nat.le_of_ble_eq_true rfl)⟩ (Nat.zero_add _) (Nat.zero_add _) ?_
  refine gq_istore_n hX dX3_setSeconder_8 rfl rfl (Nat.le_of_ble_eq_true rfl) rfl ?_
  refine gq_iload_n hX dX3_setSeconder_9 rfl rfl rfl ?_
  refine gq_iconst (v := -1) hX dX3_setSeconder_10 rfl (by decide) ?_
  refine gq_icmp_eqF (tgt := 24) hX dX3_setSeconder_11 rfl rfl hm1 ?_
  refine gq_aload_n hX dX3_setSeconder_14 rfl rfl rfl ?_
  refine gq_getf hX dX3_setSeconder_15 rfl fX3_38 (sxR0 hb) rfl ?_
  refine gq_getf hX dX3_setSeconder_18 rfl fX3_93 (sxR6 hb) rfl ?_
  refine gq_iload_n hX dX3_setSeconder_21 rfl rfl rfl ?_
  refine gq_iload_n hX dX3_setSeconder_22 rfl rfl rfl ?_
  refine gq_iastN hX dX3_setSeconder_23 rfl (sxR11 hb) rfl (by omega) (Nat.le_of_ble_eq_true rfl) (hb.2 11 (by decide)) (sxW11 hb) ?_
  refine gq_aload_n hX dX3_setSeconder_24 rfl rfl rfl ?_
  refine gq_getf hX dX3_setSeconder_25 rfl fX3_38 (sxR0 hb) rfl ?_
  refine gq_callVe hX dX3_setSeconder_28 rfl vX3_96 (ct_countSeconded (S := sedS S k c) hb hwf) rfl (sxR6 hb) rfl rfl (Nat.le_of_ble_eq_true rfl) ⟨(Nat.le_of_ble_eq_true rfl), (Nat.le_of_ble_eq_true rfl)⟩ (Nat.zero_add _) (Nat.zero_add _) ?_
  exact gq_iret hX hQ dX3_setSeconder_31 rfl ⟨rfl, rfl⟩

set_option maxRecDepth 100000 in
set_option maxHeartbeats 4000000 in
theorem ct_takeFromTable {E : Ev} {b : Nat → Nat} {S : St} {M : Hp} (hb : Lay E 13 b) {nc nt no : Nat} (hwf : Wf S nc nt no) {id : Int32} {k : Nat} (ho : slotO S no id = some k) {a : Nat} (hmv : S.2 9 k = nI a) (ha : a < nc) : Ct E mX3_takeFromTable [.ref (b 0), .int id] (StP E b S M) (eqR (some (.int (S.2 2 a + nI 1))) (StP E b (untS S k a) M)) 0 0 := by
  refine Ct.of gmX3_takeFromTable (ls := [.ref (b 0), .int id, hole, hole]) rfl rfl (Nat.le_of_ble_eq_true rfl) ?_
  intro X hX Q hQ
  have hwf2 := hwf
  obtain ⟨hnc, hncl, hnt, hntl, hno, hnol⟩ := hwf2
  have hct := ct_slotOf (M := M) hb hwf id
  rw [ho] at hct
  obtain ⟨hk, hid⟩ := slotO_lt ho
  have hm1 : ¬ nI k = -1 := nI_m1 (by omega)
  refine gq_aload_n hX dX3_takeFromTable_0 rfl rfl rfl ?_
  refine gq_getf hX dX3_takeFromTable_1 rfl fX3_38 (sxR0 hb) rfl ?_
  refine gq_iload_n hX dX3_takeFromTable_4 rfl rfl rfl ?_
  refine gq_callVe hX dX3_takeFromTable_5 rfl vX3_87 (hct) rfl (sxR6 hb) rfl rfl (Nat.le_of_ble_eq_true rfl) ⟨(Nat.le_of_ble_eq_true rfl), (Nat.le_of_ble_eq_true rfl)⟩ (Nat.zero_add _) (Nat.zero_add _) ?_
  refine gq_istore_n hX dX3_takeFromTable_8 rfl rfl (Nat.le_of_ble_eq_true rfl) rfl ?_
  refine gq_iload_n hX dX3_takeFromTable_9 rfl rfl rfl ?_
  refine gq_iconst (v := -1) hX dX3_takeFromTable_10 rfl (by decide) ?_
  refine gq_icmp_neT (tgt := 16) hX dX3_takeFromTable_11 rfl hm1 ?_
  refine gq_aload_n hX dX3_takeFromTable_16 rfl rfl rfl ?_
  refine gq_getf hX dX3_takeFromTable_17 rfl fX3_38 (sxR0 hb) rfl ?_
  refine gq_getf hX dX3_takeFromTable_20 rfl fX3_90 (sxR6 hb) rfl ?_
  refine gq_iload_n hX dX3_takeFromTable_23 rfl rfl rfl ?_
  refine gq_ialdN hX dX3_takeFromTable_24 rfl (sxR9 hb) rfl (by omega) (Nat.le_of_ble_eq_true rfl) ?_
  refine gq_istore_n hX dX3_takeFromTable_25 rfl rfl (Nat.le_of_ble_eq_true rfl) rfl ?_
  refine gq_aload_n hX dX3_takeFromTable_26 rfl rfl rfl ?_
  refine gq_getf hX dX3_takeFromTable_27 rfl fX3_38 (sxR0 hb) rfl ?_
  refine gq_getf hX dX3_takeFromTable_30 rfl fX3_100 (sxR6 hb) rfl ?_
  refine gq_iload_n hX dX3_takeFromTable_33 rfl rfl rfl ?_
  refine gq_iconst (v := nI 0) hX dX3_takeFromTable_34 rfl (by decide) ?_
  refine gq_zastN hX dX3_takeFromTable_35 rfl (sxR12 hb) rfl (by omega) (Nat.le_of_ble_eq_true rfl) (hb.2 12 (by decide)) (sxW12 hb) ?_
  rw [vz0, hmv]
  refine gq_aload_n hX dX3_takeFromTable_36 rfl rfl rfl ?_
  refine gq_getf hX dX3_takeFromTable_37 rfl fX3_19 (sxR0 hb) rfl ?_
  refine gq_iload_n hX dX3_takeFromTable_40 rfl rfl rfl ?_
  refine gq_dup2 hX dX3_takeFromTable_41 rfl rfl rfl ?_
  refine gq_ialdN hX dX3_takeFromTable_42 rfl (sxR2 hb) rfl (by omega) (Nat.le_of_ble_eq_true rfl) ?_
  refine gq_iconst (v := nI 1) hX dX3_takeFromTable_43 rfl (by decide) ?_
  refine gq_iadd hX dX3_takeFromTable_44 rfl ?_
  refine gq_iastN hX dX3_takeFromTable_45 rfl (sxR2 hb) rfl (by omega) (Nat.le_of_ble_eq_true rfl) (hb.2 2 (by decide)) (sxW2 hb) ?_
  refine gq_aload_n hX dX3_takeFromTable_46 rfl rfl rfl ?_
  refine gq_dup hX dX3_takeFromTable_47 rfl rfl ?_
  refine gq_getf hX dX3_takeFromTable_48 rfl fX3_54 (sxR0 hb) rfl ?_
  refine gq_iconst (v := nI 1) hX dX3_takeFromTable_51 rfl (by decide) ?_
  refine gq_iadd hX dX3_takeFromTable_52 rfl ?_
  refine gq_putf hX dX3_takeFromTable_53 rfl fX3_54 rfl rfl rfl (sxR0 hb) (Nat.le_of_ble_eq_true rfl) (hb.2 0 (by decide)) (sxW0_12 hb) ?_
  refine gq_aload_n hX dX3_takeFromTable_56 rfl rfl rfl ?_
  refine gq_getf hX dX3_takeFromTable_57 rfl fX3_19 (sxR0 hb) rfl ?_
  refine gq_iload_n hX dX3_takeFromTable_60 rfl rfl rfl ?_
  refine gq_ialdN hX dX3_takeFromTable_61 rfl (sxR2 hb) rfl (by omega) (Nat.le_of_ble_eq_true rfl) ?_
  exact gq_iret hX hQ dX3_takeFromTable_62 rfl ⟨by show some (Value.int (upd (S.2 2) a (S.2 2 a + nI 1) a)) = _; rw [upd_s], rfl⟩

set_option maxRecDepth 100000 in
set_option maxHeartbeats 4000000 in
theorem ct_dropMotion {E : Ev} {b : Nat → Nat} {S : St} {M : Hp} (hb : Lay E 13 b) {nc nt no : Nat} (hwf : Wf S nc nt no) {id : Int32} {k : Nat} (ho : slotO S no id = some k) (hn : Nar S) : Ct E mX3_dropMotion [.ref (b 0), .int id] (StP E b S M) (eqR (some (.int ((cloS S no k).1 7))) (StP E b (cloS S no k) M)) 0 0 := by
  refine Ct.of gmX3_dropMotion (ls := [.ref (b 0), .int id, hole]) rfl rfl (Nat.le_of_ble_eq_true rfl) ?_
  intro X hX Q hQ
  have hwf2 := hwf
  obtain ⟨hnc, hncl, hnt, hntl, hno, hnol⟩ := hwf2
  have hct := ct_slotOf (M := M) hb hwf id
  rw [ho] at hct
  obtain ⟨hk, hid⟩ := slotO_lt ho
  have hm1 : ¬ nI k = -1 := nI_m1 (by omega)
  refine gq_aload_n hX dX3_dropMotion_0 rfl rfl rfl ?_
  refine gq_getf hX dX3_dropMotion_1 rfl fX3_38 (sxR0 hb) rfl ?_
  refine gq_iload_n hX dX3_dropMotion_4 rfl rfl rfl ?_
  refine gq_callVe hX dX3_dropMotion_5 rfl vX3_87 (hct) rfl (sxR6 hb) rfl rfl (Nat.le_of_ble_eq_true rfl) ⟨(Nat.le_of_ble_eq_true rfl), (Nat.le_of_ble_eq_true rfl)⟩ (Nat.zero_add _) (Nat.zero_add _) ?_
  refine gq_istore_n hX dX3_dropMotion_8 rfl rfl (Nat.le_of_ble_eq_true rfl) rfl ?_
  refine gq_iload_n hX dX3_dropMotion_9 rfl rfl rfl ?_
  refine gq_iconst (v := -1) hX dX3_dropMotion_10 rfl (by decide) ?_
  refine gq_icmp_eqF (tgt := 22) hX dX3_dropMotion_11 rfl rfl hm1 ?_
  refine gq_aload_n hX dX3_dropMotion_14 rfl rfl rfl ?_
  refine gq_getf hX dX3_dropMotion_15 rfl fX3_38 (sxR0 hb) rfl ?_
  refine gq_iload_n hX dX3_dropMotion_18 rfl rfl rfl ?_
  refine gq_callVe hX dX3_dropMotion_19 rfl vX3_103 (ct_close hb hwf hn (by omega)) rfl (sxR6 hb) rfl rfl (Nat.le_of_ble_eq_true rfl) ⟨(Nat.le_of_ble_eq_true rfl), (Nat.le_of_ble_eq_true rfl)⟩ (Nat.zero_add _) (Nat.zero_add _) ?_
  refine gq_aload_n hX dX3_dropMotion_22 rfl rfl rfl ?_
  refine gq_getf hX dX3_dropMotion_23 rfl fX3_38 (sxR0 hb) rfl ?_
  refine gq_getf hX dX3_dropMotion_26 rfl fX3_107 (sxR6 hb) rfl ?_
  exact gq_iret hX hQ dX3_dropMotion_29 rfl ⟨rfl, rfl⟩

set_option maxRecDepth 100000 in
set_option maxHeartbeats 4000000 in
theorem ct_chargeForTails {E : Ev} {b : Nat → Nat} {S : St} {M : Hp} (hb : Lay E 13 b) {nc nt no : Nat} (hwf : Wf S nc nt no) : Ct E mX3_chargeForTails [.ref (b 0)] (StP E b S M) (eqR (none) (StP E b (chaS S nt nc) M)) 0 0 := by
  refine Ct.of gmX3_chargeForTails (ls := [.ref (b 0), hole, hole]) rfl rfl (Nat.le_of_ble_eq_true rfl) ?_
  intro X hX Q hQ
  have hwf2 := hwf
  obtain ⟨hnc, hncl, hnt, hntl, hno, hnol⟩ := hwf2
  refine gq_iconst (v := nI 0) hX dX3_chargeForTails_0 rfl (by decide) ?_
  refine gq_istore_n hX dX3_chargeForTails_1 rfl rfl (Nat.le_of_ble_eq_true rfl) rfl ?_
  have hTw : ∀ i, Wf (chaS S nt i) nc nt no := fun i => chaS_wf hwf
  have hTl : ∀ i j, lenB (chaS S nt i) nt (nI j) = lenB S nt (nI j) := by
    intro i j
    have h5 : (chaS S nt i).2 5 = S.2 5 ∧ (chaS S nt i).2 4 = S.2 4 := it_inv (I := fun T : St => T.2 5 = S.2 5 ∧ T.2 4 = S.2 4) ⟨rfl, rfl⟩ (fun _ _ _ h => h)
    unfold lenB
    rw [h5.1, h5.2]
  have loop : ∀ n j : Nat, j + n = nc → ∀ z : Value, Gq E X mX3_chargeForTails Q 2 [.ref (b 0), .int (nI j), z] [] (StP E b (chaS S nt j) M) 0 0 := by
    intro n
    induction n with
    | zero =>
      intro j hj z
      refine gq_iload_n hX dX3_chargeForTails_2 rfl rfl rfl ?_
      refine gq_aload_n hX dX3_chargeForTails_3 rfl rfl rfl ?_
      refine gq_getf hX dX3_chargeForTails_4 rfl fX3_9 (sxR0 hb) rfl ?_
      refine gq_icmp_geT (tgt := 42) hX dX3_chargeForTails_7 rfl (cT (hTw j).1 (by omega) (by omega)) ?_
      have ej : nc = j := by omega
      subst ej
      exact gq_vret hX hQ dX3_chargeForTails_42 rfl ⟨rfl, rfl⟩
    | succ n ih =>
      intro j hj z
      refine gq_iload_n hX dX3_chargeForTails_2 rfl rfl rfl ?_
      refine gq_aload_n hX dX3_chargeForTails_3 rfl rfl rfl ?_
      refine gq_getf hX dX3_chargeForTails_4 rfl fX3_9 (sxR0 hb) rfl ?_
      refine gq_icmp_geF (tgt := 42) hX dX3_chargeForTails_7 rfl rfl (cF (hTw j).1 (by omega) (by omega)) ?_
      refine gq_aload_n hX dX3_chargeForTails_10 rfl rfl rfl ?_
      refine gq_iload_n hX dX3_chargeForTails_11 rfl rfl rfl ?_
      refine gq_callVe hX dX3_chargeForTails_12 rfl vX3_142 (ct_lengthBehind hb (hTw j) _) rfl (sxR0 hb) rfl rfl (Nat.le_of_ble_eq_true rfl) ⟨(Nat.le_of_ble_eq_true rfl), (Nat.le_of_ble_eq_true rfl)⟩ (Nat.zero_add _) (Nat.zero_add _) ?_
      rw [hTl]
      refine gq_istore_n hX dX3_chargeForTails_15 rfl rfl (Nat.le_of_ble_eq_true rfl) rfl ?_
      refine gq_aload_n hX dX3_chargeForTails_16 rfl rfl rfl ?_
      refine gq_getf hX dX3_chargeForTails_17 rfl fX3_19 (sxR0 hb) rfl ?_
      refine gq_iload_n hX dX3_chargeForTails_20 rfl rfl rfl ?_
      refine gq_dup2 hX dX3_chargeForTails_21 rfl rfl rfl ?_
      refine gq_ialdN hX dX3_chargeForTails_22 rfl (sxR2 hb) rfl (by omega) (Nat.le_of_ble_eq_true rfl) ?_
      refine gq_iload_n hX dX3_chargeForTails_23 rfl rfl rfl ?_
      refine gq_iadd hX dX3_chargeForTails_24 rfl ?_
      refine gq_iastN hX dX3_chargeForTails_25 rfl (sxR2 hb) rfl (by omega) (Nat.le_of_ble_eq_true rfl) (hb.2 2 (by decide)) (sxW2 hb) ?_
      refine gq_aload_n hX dX3_chargeForTails_26 rfl rfl rfl ?_
      refine gq_dup hX dX3_chargeForTails_27 rfl rfl ?_
      refine gq_getf hX dX3_chargeForTails_28 rfl fX3_54 (sxR0 hb) rfl ?_
      refine gq_iload_n hX dX3_chargeForTails_31 rfl rfl rfl ?_
      refine gq_iadd hX dX3_chargeForTails_32 rfl ?_
      refine gq_putf hX dX3_chargeForTails_33 rfl fX3_54 rfl rfl rfl (sxR0 hb) (Nat.le_of_ble_eq_true rfl) (hb.2 0 (by decide)) (sxW0_12 hb) ?_
      refine gq_iinc hX dX3_chargeForTails_36 rfl rfl (inc1 _) (Nat.le_of_ble_eq_true rfl) rfl ?_
      refine gq_goto (tgt := 2) hX dX3_chargeForTails_39 rfl ?_
      exact gq_ls rfl rfl rfl (ih (j + 1) (by omega) _)
  exact loop nc 0 (by omega) _

set_option maxRecDepth 100000 in
set_option maxHeartbeats 4000000 in
theorem ct_groundDebtors {E : Ev} {b : Nat → Nat} {S : St} {M : Hp} (hb : Lay E 13 b) {nc nt no : Nat} (hwf : Wf S nc nt no) : Ct E mX3_groundDebtors [.ref (b 0)] (StP E b S M) (eqR (some (.int (debS S nt nc).2)) (StP E b (debS S nt nc).1 M)) 0 0 := by
  refine Ct.of gmX3_groundDebtors (ls := [.ref (b 0), hole, hole]) rfl rfl (Nat.le_of_ble_eq_true rfl) ?_
  intro X hX Q hQ
  have hwf2 := hwf
  obtain ⟨hnc, hncl, hnt, hntl, hno, hnol⟩ := hwf2
  refine gq_iconst (v := nI 0) hX dX3_groundDebtors_0 rfl (by decide) ?_
  refine gq_istore_n hX dX3_groundDebtors_1 rfl rfl (Nat.le_of_ble_eq_true rfl) rfl ?_
  refine gq_iconst (v := nI 0) hX dX3_groundDebtors_2 rfl (by decide) ?_
  refine gq_istore_n hX dX3_groundDebtors_3 rfl rfl (Nat.le_of_ble_eq_true rfl) rfl ?_
  have hTw : ∀ i, Wf (debS S nt i).1 nc nt no := fun i => debS_wf hwf
  have loop : ∀ n j : Nat, j + n = nc → Gq E X mX3_groundDebtors Q 4 [.ref (b 0), .int (debS S nt j).2, .int (nI j)] [] (StP E b (debS S nt j).1 M) 0 0 := by
    intro n
    induction n with
    | zero =>
      intro j hj
      refine gq_iload_n hX dX3_groundDebtors_4 rfl rfl rfl ?_
      refine gq_aload_n hX dX3_groundDebtors_5 rfl rfl rfl ?_
      refine gq_getf hX dX3_groundDebtors_6 rfl fX3_9 (sxR0 hb) rfl ?_
      refine gq_icmp_geT (tgt := 46) hX dX3_groundDebtors_9 rfl (cT (hTw j).1 (by omega) (by omega)) ?_
      have ej : nc = j := by omega
      subst ej
      refine gq_iload_n hX dX3_groundDebtors_46 rfl rfl rfl ?_
      exact gq_iret hX hQ dX3_groundDebtors_47 rfl ⟨rfl, rfl⟩
    | succ n ih =>
      intro j hj
      refine gq_iload_n hX dX3_groundDebtors_4 rfl rfl rfl ?_
      refine gq_aload_n hX dX3_groundDebtors_5 rfl rfl rfl ?_
      refine gq_getf hX dX3_groundDebtors_6 rfl fX3_9 (sxR0 hb) rfl ?_
      refine gq_icmp_geF (tgt := 46) hX dX3_groundDebtors_9 rfl rfl (cF (hTw j).1 (by omega) (by omega)) ?_
      refine gq_aload_n hX dX3_groundDebtors_12 rfl rfl rfl ?_
      refine gq_getf hX dX3_groundDebtors_13 rfl fX3_22 (sxR0 hb) rfl ?_
      refine gq_iload_n hX dX3_groundDebtors_16 rfl rfl rfl ?_
      refine gq_zaldN hX dX3_groundDebtors_17 rfl (sxR3 hb) rfl (by omega) (Nat.le_of_ble_eq_true rfl) ?_
      refine gq_if_eq (tgt := 40) hX dX3_groundDebtors_18 rfl rfl (fun c8 => ?_) (fun c8 => ?_)
      · refine gq_iinc hX dX3_groundDebtors_40 rfl rfl (inc1 _) (Nat.le_of_ble_eq_true rfl) rfl ?_
        refine gq_goto (tgt := 4) hX dX3_groundDebtors_43 rfl ?_
        have h9 : debS S nt (j + 1) = debS S nt j := if_pos c8
        exact gq_ls (by rw [h9]; rfl) rfl (by rw [h9]) (ih (j + 1) (by omega))
      · refine gq_aload_n hX dX3_groundDebtors_21 rfl rfl rfl ?_
        refine gq_getf hX dX3_groundDebtors_22 rfl fX3_19 (sxR0 hb) rfl ?_
        refine gq_iload_n hX dX3_groundDebtors_25 rfl rfl rfl ?_
        refine gq_ialdN hX dX3_groundDebtors_26 rfl (sxR2 hb) rfl (by omega) (Nat.le_of_ble_eq_true rfl) ?_
        refine gq_bipush (v := nI 30) hX dX3_groundDebtors_27 rfl (by decide) ?_
        refine gq_icmp_le (tgt := 40) hX dX3_groundDebtors_29 rfl rfl (fun c9 => ?_) (fun c9 => ?_)
        · refine gq_iinc hX dX3_groundDebtors_40 rfl rfl (inc1 _) (Nat.le_of_ble_eq_true rfl) rfl ?_
          refine gq_goto (tgt := 4) hX dX3_groundDebtors_43 rfl ?_
          have h9 : debS S nt (j + 1) = debS S nt j := (if_neg c8).trans (if_pos c9)
          exact gq_ls (by rw [h9]; rfl) rfl (by rw [h9]) (ih (j + 1) (by omega))
        · refine gq_aload_n hX dX3_groundDebtors_32 rfl rfl rfl ?_
          refine gq_iload_n hX dX3_groundDebtors_33 rfl rfl rfl ?_
          refine gq_callVe hX dX3_groundDebtors_34 rfl vX3_129 (ct_groundKite hb (hTw j) (by omega)) rfl (sxR0 hb) rfl rfl (Nat.le_of_ble_eq_true rfl) ⟨(Nat.le_of_ble_eq_true rfl), (Nat.le_of_ble_eq_true rfl)⟩ (Nat.zero_add _) (Nat.zero_add _) ?_
          refine gq_iinc hX dX3_groundDebtors_37 rfl rfl (incA _) (Nat.le_of_ble_eq_true rfl) rfl ?_
          refine gq_iinc hX dX3_groundDebtors_40 rfl rfl (inc1 _) (Nat.le_of_ble_eq_true rfl) rfl ?_
          refine gq_goto (tgt := 4) hX dX3_groundDebtors_43 rfl ?_
          have h9 : debS S nt (j + 1) = (groS (debS S nt j).1 nt j, (debS S nt j).2 + nI 1) := (if_neg c8).trans (if_neg c9)
          exact gq_ls (by rw [h9]; rfl) rfl (by rw [h9]) (ih (j + 1) (by omega))
  exact loop nc 0 (by omega)

set_option maxRecDepth 100000 in
set_option maxHeartbeats 4000000 in
theorem ct_passHours {E : Ev} {b : Nat → Nat} {S : St} {M : Hp} (hb : Lay E 13 b) {nc nt no : Nat} (hwf : Wf S nc nt no) {h : Nat} (hh : h < 1000) : Ct E mX3_passHours [.ref (b 0), .int (nI h)] (StP E b S M) (eqR (some (.int (pasS S nt nc h).2)) (StP E b (pasS S nt nc h).1 M)) 0 0 := by
  refine Ct.of gmX3_passHours (ls := [.ref (b 0), .int (nI h), hole, hole]) rfl rfl (Nat.le_of_ble_eq_true rfl) ?_
  intro X hX Q hQ
  have hwf2 := hwf
  obtain ⟨hnc, hncl, hnt, hntl, hno, hnol⟩ := hwf2
  refine gq_iconst (v := nI 0) hX dX3_passHours_0 rfl (by decide) ?_
  refine gq_istore_n hX dX3_passHours_1 rfl rfl (Nat.le_of_ble_eq_true rfl) rfl ?_
  refine gq_iconst (v := nI 0) hX dX3_passHours_2 rfl (by decide) ?_
  refine gq_istore_n hX dX3_passHours_3 rfl rfl (Nat.le_of_ble_eq_true rfl) rfl ?_
  have hTw : ∀ i, Wf (pasS S nt nc i).1 nc nt no := fun i => it_inv (I := fun s : St × Int32 => Wf s.1 nc nt no) hwf (fun _ _ _ hs => hourS_wf hs)
  have loop : ∀ n j : Nat, j + n = h → Gq E X mX3_passHours Q 4 [.ref (b 0), .int (nI h), .int (pasS S nt nc j).2, .int (nI j)] [] (StP E b (pasS S nt nc j).1 M) 0 0 := by
    intro n
    induction n with
    | zero =>
      intro j hj
      refine gq_iload_n hX dX3_passHours_4 rfl rfl rfl ?_
      refine gq_iload_n hX dX3_passHours_5 rfl rfl rfl ?_
      refine gq_icmp_geT (tgt := 36) hX dX3_passHours_6 rfl (cT (rfl : nI h = nI h) (by omega) (by omega)) ?_
      have ej : h = j := by omega
      subst ej
      refine gq_iload_n hX dX3_passHours_36 rfl rfl rfl ?_
      exact gq_iret hX hQ dX3_passHours_37 rfl ⟨rfl, rfl⟩
    | succ n ih =>
      intro j hj
      refine gq_iload_n hX dX3_passHours_4 rfl rfl rfl ?_
      refine gq_iload_n hX dX3_passHours_5 rfl rfl rfl ?_
      refine gq_icmp_geF (tgt := 36) hX dX3_passHours_6 rfl rfl (cF (rfl : nI h = nI h) (by omega) (by omega)) ?_
      refine gq_aload_n hX dX3_passHours_9 rfl rfl rfl ?_
      refine gq_callVe hX dX3_passHours_10 rfl vX3_145 (ct_chargeForTails hb (hTw j)) rfl (sxR0 hb) rfl rfl (Nat.le_of_ble_eq_true rfl) ⟨(Nat.le_of_ble_eq_true rfl), (Nat.le_of_ble_eq_true rfl)⟩ (Nat.zero_add _) (Nat.zero_add _) ?_
      refine gq_iload_n hX dX3_passHours_13 rfl rfl rfl ?_
      refine gq_aload_n hX dX3_passHours_14 rfl rfl rfl ?_
      refine gq_callVe hX dX3_passHours_15 rfl vX3_148 (ct_groundDebtors hb (chaS_wf (hTw j))) rfl (sxR0 hb) rfl rfl (Nat.le_of_ble_eq_true rfl) ⟨(Nat.le_of_ble_eq_true rfl), (Nat.le_of_ble_eq_true rfl)⟩ (Nat.zero_add _) (Nat.zero_add _) ?_
      refine gq_iadd hX dX3_passHours_18 rfl ?_
      refine gq_istore_n hX dX3_passHours_19 rfl rfl (Nat.le_of_ble_eq_true rfl) rfl ?_
      refine gq_aload_n hX dX3_passHours_20 rfl rfl rfl ?_
      refine gq_dup hX dX3_passHours_21 rfl rfl ?_
      refine gq_getf hX dX3_passHours_22 rfl fX3_42 (sxR0 hb) rfl ?_
      refine gq_iconst (v := nI 1) hX dX3_passHours_25 rfl (by decide) ?_
      refine gq_iadd hX dX3_passHours_26 rfl ?_
      refine gq_putf hX dX3_passHours_27 rfl fX3_42 rfl rfl rfl (sxR0 hb) (Nat.le_of_ble_eq_true rfl) (hb.2 0 (by decide)) (sxW0_8 hb) ?_
      refine gq_iinc hX dX3_passHours_30 rfl rfl (inc1 _) (Nat.le_of_ble_eq_true rfl) rfl ?_
      refine gq_goto (tgt := 4) hX dX3_passHours_33 rfl ?_
      exact gq_ls rfl rfl rfl (ih (j + 1) (by omega))
  exact loop h 0 (by omega)

set_option maxRecDepth 100000 in
set_option maxHeartbeats 4000000 in
theorem ct_blowGust {E : Ev} {b : Nat → Nat} {S : St} {M : Hp} (hb : Lay E 13 b) {nc nt no : Nat} (hwf : Wf S nc nt no) (hmo : ∀ k, k < no → ∃ a, a < nc ∧ S.2 9 k = nI a) (str : Int32) : Ct E mX3_blowGust [.ref (b 0), .int str] (StP E b S M) (eqR (some (.int (gusS S nt no str).2)) (StP E b (gusS S nt no str).1 M)) 0 0 := by
  refine Ct.of gmX3_blowGust (ls := [.ref (b 0), .int str, hole, hole, hole]) rfl rfl (Nat.le_of_ble_eq_true rfl) ?_
  intro X hX Q hQ
  have hwf2 := hwf
  obtain ⟨hnc, hncl, hnt, hntl, hno, hnol⟩ := hwf2
  refine gq_iconst (v := nI 0) hX dX3_blowGust_0 rfl (by decide) ?_
  refine gq_istore_n hX dX3_blowGust_1 rfl rfl (Nat.le_of_ble_eq_true rfl) rfl ?_
  refine gq_iconst (v := nI 0) hX dX3_blowGust_2 rfl (by decide) ?_
  refine gq_istore_n hX dX3_blowGust_3 rfl rfl (Nat.le_of_ble_eq_true rfl) rfl ?_
  have hTw : ∀ i, (gusS S nt i str).1.1 = S.1 ∧ (gusS S nt i str).1.2 9 = S.2 9 ∧ (gusS S nt i str).1.2 3 = S.2 3 ∧ (gusS S nt i str).1.2 5 = S.2 5 ∧ (gusS S nt i str).1.2 4 = S.2 4 := fun i => it_inv (I := fun s : St × Int32 => s.1.1 = S.1 ∧ s.1.2 9 = S.2 9 ∧ s.1.2 3 = S.2 3 ∧ s.1.2 5 = S.2 5 ∧ s.1.2 4 = S.2 4) ⟨rfl, rfl, rfl, rfl, rfl⟩ (fun j s _ h => by
    split
    · split
      · exact h
      · split
        · exact h
        · exact h
    · exact h)
  have hwT : ∀ i, Wf (gusS S nt i str).1 nc nt no := fun i => by unfold Wf; rw [(hTw i).1]; exact hwf
  have hlT : ∀ i c, lenB (gusS S nt i str).1 nt c = lenB S nt c := fun i c => by unfold lenB; rw [(hTw i).2.2.2.1, (hTw i).2.2.2.2]
  have loop : ∀ n j : Nat, j + n = no → ∀ z : Value, Gq E X mX3_blowGust Q 4 [.ref (b 0), .int str, .int (gusS S nt j str).2, .int (nI j), z] [] (StP E b (gusS S nt j str).1 M) 0 0 := by
    intro n
    induction n with
    | zero =>
      intro j hj z
      refine gq_iload_n hX dX3_blowGust_4 rfl rfl rfl ?_
      refine gq_aload_n hX dX3_blowGust_5 rfl rfl rfl ?_
      refine gq_getf hX dX3_blowGust_6 rfl fX3_38 (sxR0 hb) rfl ?_
      refine gq_getf hX dX3_blowGust_9 rfl fX3_107 (sxR6 hb) rfl ?_
      refine gq_icmp_geT (tgt := 77) hX dX3_blowGust_12 rfl (cT (hwT j).2.2.2.2.1 (by omega) (by omega)) ?_
      have ej : no = j := by omega
      subst ej
      refine gq_iload_n hX dX3_blowGust_77 rfl rfl rfl ?_
      exact gq_iret hX hQ dX3_blowGust_78 rfl ⟨rfl, rfl⟩
    | succ n ih =>
      intro j hj z
      refine gq_iload_n hX dX3_blowGust_4 rfl rfl rfl ?_
      refine gq_aload_n hX dX3_blowGust_5 rfl rfl rfl ?_
      refine gq_getf hX dX3_blowGust_6 rfl fX3_38 (sxR0 hb) rfl ?_
      refine gq_getf hX dX3_blowGust_9 rfl fX3_107 (sxR6 hb) rfl ?_
      refine gq_icmp_geF (tgt := 77) hX dX3_blowGust_12 rfl rfl (cF (hwT j).2.2.2.2.1 (by omega) (by omega)) ?_
      obtain ⟨a, ha, hma⟩ := hmo j (by omega)
      have hmj : (gusS S nt j str).1.2 9 j = nI a := by rw [(hTw j).2.1]; exact hma
      have hcl : ((gusS S nt j str).1.2 9 j).toNatClampNeg = a := by rw [hmj]; exact nI_clamp (by omega)
      refine gq_aload_n hX dX3_blowGust_15 rfl rfl rfl ?_
      refine gq_getf hX dX3_blowGust_16 rfl fX3_38 (sxR0 hb) rfl ?_
      refine gq_getf hX dX3_blowGust_19 rfl fX3_90 (sxR6 hb) rfl ?_
      refine gq_iload_n hX dX3_blowGust_22 rfl rfl rfl ?_
      refine gq_ialdN hX dX3_blowGust_23 rfl (sxR9 hb) rfl (by omega) (Nat.le_of_ble_eq_true rfl) ?_
      refine gq_istore hX dX3_blowGust_24 rfl (Nat.le_of_ble_eq_true rfl) rfl ?_
      refine gq_aload_n hX dX3_blowGust_26 rfl rfl rfl ?_
      refine gq_getf hX dX3_blowGust_27 rfl fX3_38 (sxR0 hb) rfl ?_
      refine gq_getf hX dX3_blowGust_30 rfl fX3_100 (sxR6 hb) rfl ?_
      refine gq_iload_n hX dX3_blowGust_33 rfl rfl rfl ?_
      refine gq_zaldN hX dX3_blowGust_34 rfl (sxR12 hb) rfl (by omega) (Nat.le_of_ble_eq_true rfl) ?_
      refine gq_if_ne (tgt := 71) hX dX3_blowGust_35 rfl rfl (fun c7 => ?_) (fun c7 => ?_)
      · refine gq_iinc hX dX3_blowGust_71 rfl rfl (inc1 _) (Nat.le_of_ble_eq_true rfl) rfl ?_
        refine gq_goto (tgt := 4) hX dX3_blowGust_74 rfl ?_
        have h9 : gusS S nt (j + 1) str = gusS S nt j str := if_neg c7
        exact gq_ls (by rw [h9]; rfl) rfl (by rw [h9]) (ih (j + 1) (by omega) _)
      · refine gq_aload_n hX dX3_blowGust_38 rfl rfl rfl ?_
        refine gq_getf hX dX3_blowGust_39 rfl fX3_22 (sxR0 hb) rfl ?_
        refine gq_iload hX dX3_blowGust_42 rfl rfl ?_
        refine gq_zaldN hX dX3_blowGust_44 rfl (sxR3 hb) hmj (by omega) (Nat.le_of_ble_eq_true rfl) ?_
        refine gq_if_eq (tgt := 71) hX dX3_blowGust_45 rfl rfl (fun c8 => ?_) (fun c8 => ?_)
        · refine gq_iinc hX dX3_blowGust_71 rfl rfl (inc1 _) (Nat.le_of_ble_eq_true rfl) rfl ?_
          refine gq_goto (tgt := 4) hX dX3_blowGust_74 rfl ?_
          have c8p : (gusS S nt j str).1.2 3 ((gusS S nt j str).1.2 9 j).toNatClampNeg = 0 := by rw [hcl]; exact c8
          have h9 : gusS S nt (j + 1) str = gusS S nt j str := (if_pos c7).trans (if_pos c8p)
          exact gq_ls (by rw [h9]; rfl) rfl (by rw [h9]) (ih (j + 1) (by omega) _)
        · refine gq_aload_n hX dX3_blowGust_48 rfl rfl rfl ?_
          refine gq_iload hX dX3_blowGust_49 rfl rfl ?_
          refine gq_callVe hX dX3_blowGust_51 rfl vX3_142 (ct_lengthBehind hb (hwT j) _) rfl (sxR0 hb) rfl rfl (Nat.le_of_ble_eq_true rfl) ⟨(Nat.le_of_ble_eq_true rfl), (Nat.le_of_ble_eq_true rfl)⟩ (Nat.zero_add _) (Nat.zero_add _) ?_
          rw [hlT]
          refine gq_iload_n hX dX3_blowGust_54 rfl rfl rfl ?_
          refine gq_icmp_ge (tgt := 71) hX dX3_blowGust_55 rfl rfl (fun c9 => ?_) (fun c9 => ?_)
          · refine gq_iinc hX dX3_blowGust_71 rfl rfl (inc1 _) (Nat.le_of_ble_eq_true rfl) rfl ?_
            refine gq_goto (tgt := 4) hX dX3_blowGust_74 rfl ?_
            have c8p : ¬ (gusS S nt j str).1.2 3 ((gusS S nt j str).1.2 9 j).toNatClampNeg = 0 := by rw [hcl]; exact c8
            have h9 : gusS S nt (j + 1) str = gusS S nt j str := (if_pos c7).trans ((if_neg c8p).trans (if_pos c9))
            exact gq_ls (by rw [h9]; rfl) rfl (by rw [h9]) (ih (j + 1) (by omega) _)
          · refine gq_aload_n hX dX3_blowGust_58 rfl rfl rfl ?_
            refine gq_getf hX dX3_blowGust_59 rfl fX3_38 (sxR0 hb) rfl ?_
            refine gq_getf hX dX3_blowGust_62 rfl fX3_100 (sxR6 hb) rfl ?_
            refine gq_iload_n hX dX3_blowGust_65 rfl rfl rfl ?_
            refine gq_iconst (v := nI 1) hX dX3_blowGust_66 rfl (by decide) ?_
            refine gq_zastN hX dX3_blowGust_67 rfl (sxR12 hb) rfl (by omega) (Nat.le_of_ble_eq_true rfl) (hb.2 12 (by decide)) (sxW12 hb) ?_
            rw [vz1]
            refine gq_iinc hX dX3_blowGust_68 rfl rfl (incA _) (Nat.le_of_ble_eq_true rfl) rfl ?_
            refine gq_iinc hX dX3_blowGust_71 rfl rfl (inc1 _) (Nat.le_of_ble_eq_true rfl) rfl ?_
            refine gq_goto (tgt := 4) hX dX3_blowGust_74 rfl ?_
            have c8p : ¬ (gusS S nt j str).1.2 3 ((gusS S nt j str).1.2 9 j).toNatClampNeg = 0 := by rw [hcl]; exact c8
            have h9 : gusS S nt (j + 1) str = (setA (gusS S nt j str).1 12 (upd ((gusS S nt j str).1.2 12) j (nI 1)), (gusS S nt j str).2 + nI 1) := (if_pos c7).trans ((if_neg c8p).trans (if_neg c9))
            exact gq_ls (by rw [h9]; rfl) rfl (by rw [h9]) (ih (j + 1) (by omega) _)
  exact loop no 0 (by omega) _

