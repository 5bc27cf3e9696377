section LQ
variable {E : Ev} {X : Cx0} {μ : Mth} {Q : State → Prop} {pc q : Nat} {ls st : List Value} {M : Hp} {nc ns : Nat}
theorem gq_newq (hX : Cx E X μ) {idx N : Nat} {z : Int32} {nc1 ns1 : Nat} (d : decode μ.2.1 pc = .ok (.anewarray idx, 3)) (hq : pc + 3 = q) (hl : Cond.classLink μ.1.cls idx "KiteTailRental$State" ∈ goodT) (hn : ¬ z < 0) (hN : z.toNatClampNeg = N) (hbytes : N * 4 ≤ 536870912) (hnc : nc1 + 1 = nc) (hns : ns1 + N = ns)
    (kk : ∀ a : Nat, M a = none → E.2.2.1 ≤ a → Gq E X μ Q q ls (.ref a :: st) (hput M a (.inl (E.2.2.2.1 6, N, .inr (.inr (.inr (.inr (fun _ => none))))))) nc1 ns1) : Gq E X μ Q pc ls (.int z :: st) M nc ns := by
  subst hq
  subst hN
  intro H locs cells slots lsR hR hS hL h1 h2
  refine W.anew hX.1 hX.2.1 hX.own (hX.good _ hl) (va_AO.use hX.ge.2.2.2.2.2.2.2.2) rfl d rfl hn hbytes (by omega) (by omega) fun cA kA comp f1 f2 f3 f4 => ?_
  have hcA : cA = E.2.2.2.1 6 := by
    obtain ⟨k1, k2, g1, g2, g3, g4⟩ := (hX.know.2 6 (E.2.2.2.1 6, .object "KiteTailRental$State") rfl).2
    exact Option.some.inj (f1.symm.trans g4)
  subst hcA
  generalize hH1 : H.push ({ cls := E.2.2.2.1 6, slots := Array.replicate z.toNatClampNeg .null, vm := .none } : Cell) = H1
  have z1 : H1.size = H.size + 1 := by rw [← hH1, Array.size_push]
  have e1 : H1[H.size]? = some (arrV (E.2.2.2.1 6) z.toNatClampNeg (fun _ => .null)) := by rw [← hH1, Array.getElem?_push_size, ← arrV_new]
  have o1 : ∀ q : Nat, q < H.size → H1[q]? = H[q]? := fun q hq => by rw [← hH1, Array.getElem?_push, if_neg (Nat.ne_of_lt hq)]
  have hb : AE E H.size := hX.above hS
  refine kk H.size hR.new hb H1 locs (cells + 1) (slots + z.toNatClampNeg) lsR ?_ ⟨Nat.le_trans hS.1 (by omega), fun x g1 g2 => (o1 x (Nat.lt_of_lt_of_le g1 hS.1)).trans (hS.2.1 x g1 g2), hS.2.2⟩ hL (by omega) (by omega)
  intro b y hy
  by_cases hbb : b = H.size
  · subst hbb
    rw [hput_s] at hy
    cases hy
    show H1[H.size]? = some (vp_cell _ _)
    rw [vp_cell_q]
    exact e1
  · rw [hput_n hbb] at hy
    exact (hR b y hy).kept (o1 b (hR b y hy).lt)
end LQ
theorem sxC_cg {E : Ev} {b b2 : Nat → Nat} {S : St} {k : Nat} (h : ∀ q, q < 13 → b q = b2 q) : sxC E b S k = sxC E b2 S k := by
  unfold sxC
  rw [h 1 (by decide), h 2 (by decide), h 3 (by decide), h 4 (by decide), h 5 (by decide), h 6 (by decide), h 7 (by decide), h 8 (by decide), h 9 (by decide), h 10 (by decide), h 11 (by decide), h 12 (by decide)]
/-- History with j of its states -/
def ringF (b : Nat → Nat) (j : Nat) : Nat → Option Nat := fun i => if i < j then some (b (2 + 13 * i)) else none
def ringC (E : Ev) (b : Nat → Nat) (j : Nat) : Nat → va_E := fun k => if k = 0 then .inr (5, [.ref (b 1), .int 0, .int 0]) else if k = 1 then .inl (E.2.2.2.1 6, 8, .inr (.inr (.inr (.inr (ringF b j))))) else sxC E (fun q => b (2 + 13 * ((k - 2) / 13) + q)) S0 ((k - 2) % 13)
def ap {α : Type} (n : Nat) (f g : Nat → α) : Nat → α := fun k => if k < n then f k else g (k - n)
theorem ap_lo {α : Type} {n k : Nat} {f g : Nat → α} (h : k < n) : ap n f g k = f k := if_pos h
theorem ap_hi {α : Type} {n k : Nat} {f g : Nat → α} (h : ¬ k < n) : ap n f g k = g (k - n) := if_neg h
theorem ring_step {E : Ev} {b b2 : Nat → Nat} {j k : Nat} (hj : j < 8) (hk : k < 2 + 13 * j + 13) : ringC E (ap (2 + 13 * j) b b2) (j + 1) k = if k = 1 then .inl (E.2.2.2.1 6, 8, .inr (.inr (.inr (.inr (va_up (ringF b j) (nI j).toNatClampNeg (some (b2 0))))))) else if k < 2 + 13 * j then ringC E b j k else sxC E b2 S0 (k - (2 + 13 * j)) := by
  unfold ringC
  by_cases k0 : k = 0
  · subst k0
    rw [if_pos rfl, if_neg (by decide), if_pos (by omega), if_pos rfl, ap_lo (by omega)]
  · rw [if_neg k0]
    by_cases k1 : k = 1
    · subst k1
      rw [if_pos rfl, if_pos rfl]
      have e : ringF (ap (2 + 13 * j) b b2) (j + 1) = va_up (ringF b j) (nI j).toNatClampNeg (some (b2 0)) := by
        funext i
        rw [nI_clamp (by omega)]
        unfold ringF va_up
        by_cases e1 : i = j
        · subst e1
          rw [if_pos (by omega), if_pos rfl, ap_hi (by omega), show 2 + 13 * i - (2 + 13 * i) = 0 by omega]
        · rw [if_neg e1]
          by_cases e2 : i < j
          · show _ = if i < j then some (b (2 + 13 * i)) else none
            rw [if_pos (by omega), if_pos e2, ap_lo (by omega)]
          · show _ = if i < j then some (b (2 + 13 * i)) else none
            rw [if_neg (by omega), if_neg e2]
      rw [e]
    · rw [if_neg k1, if_neg k1]
      by_cases hl : k < 2 + 13 * j
      · rw [if_pos hl, if_neg k0, if_neg k1]
        exact sxC_cg (fun q hq => ap_lo (by omega))
      · rw [if_neg hl, show (k - 2) % 13 = k - (2 + 13 * j) by omega]
        exact sxC_cg (fun q hq => by rw [ap_hi (by omega), show 2 + 13 * ((k - 2) / 13) + q - (2 + 13 * j) = q by omega])
/-- a new StringBuilder and its bytes -/
theorem sb_bd {E : Ev} {M M1 : Hp} {a v : Nat} {x : va_E} {t : Nat → Nat} (h0 : M a = none) (hl : E.2.2.1 ≤ a) (hv : hput M a x v = none) (hs : SbP E a t 0 v 16 M1) (hf : ∀ q, q ≠ a → q ≠ v → M1 q = hput M a x q) : ∃ x1 x2, Bd E M M1 2 (fun k => if k < 1 then a else v) (fun k => if k < 1 then x1 else x2) := by
  obtain ⟨⟨z, h1⟩, ⟨f, h2, -⟩, -, -, hne, -, hlv⟩ := id hs
  have hva : v ≠ a := fun e => by rw [e, hput_s] at hv; cases hv
  refine ⟨.inr (1, [.ref v, .int 0, .int z, .int (nI 0)]), .inl (E.2.2.2.1 5, 16, .inl f), fun k hk => ?_, fun x y hx hy e => ?_, fun q hq => ?_⟩
  · match k, hk with
    | 0, _ => exact ⟨h0, hl, h1⟩
    | 1, _ => exact ⟨(hput_n hva).symm.trans hv, hlv, h2⟩
    | k + 2, h => exact absurd h (by omega)
  · match x, hx, y, hy with
    | 0, _, 0, _ => rfl
    | 1, _, 1, _ => rfl
    | 0, _, 1, _ => exact absurd e (Ne.symm hva)
    | 1, _, 0, _ => exact absurd e hva
    | k + 2, h, _, _ => exact absurd h (by omega)
    | 0, _, k + 2, h => exact absurd h (by omega)
    | 1, _, k + 2, h => exact absurd h (by omega)
  · have g0 : q ≠ a := fun e => hq 0 (by decide) e.symm
    have g1 : q ≠ v := fun e => hq 1 (by decide) e.symm
    rw [hf q g0 g1, hput_n g0]

set_option maxRecDepth 100000 in
set_option maxHeartbeats 4000000 in
theorem ci_X1_init {E : Ev} {M0 : Hp} {a : Nat} (h0 : M0 a = none) (hl : E.2.2.1 ≤ a) : Ct E mX1_init [.ref a] (hput M0 a (.inr (5, [.null, .int 0, .int 0]))) (fun r M1 => r = none ∧ ∃ b : Nat → Nat, b 0 = a ∧ Bd E M0 M1 106 b (ringC E b 8)) 105 832 := by
  refine Ct.of gmX1_init (ls := [.ref a, hole]) rfl rfl (Nat.le_of_ble_eq_true rfl) ?_
  intro X hX Q hQ
  have hB : Bd E M0 _ 1 _ _ := Bd.one (x := .inr (5, [.null, .int 0, .int 0])) h0 hl
  refine gq_aload_n hX dX1_init_0 rfl rfl rfl ?_
  refine gq_objI hX dX1_init_1 rfl (in1 149 rfl rfl) (in1 36 rfl rfl) (in1 37 rfl rfl) (Nat.le_of_ble_eq_true rfl) (Nat.le_of_ble_eq_true rfl) ?_
  refine gq_aload_n hX dX1_init_4 rfl rfl rfl ?_
  refine gq_bipush (v := nI 8) hX dX1_init_5 rfl (by decide) ?_
  refine gq_newq (N := 8) (nc1 := 104) (ns1 := 824) hX dX1_init_7 rfl (in1 150 rfl rfl) (by decide) (by decide) (by decide) rfl rfl ?_
  intro a1 hn1 hl1
  have hB1 := hB.app (Bd.one (x := .inl (E.2.2.2.1 6, 8, .inr (.inr (.inr (.inr (fun _ => none)))))) hn1 hl1)
  generalize hput _ a1 _ = M1 at hB1 ⊢
  refine gq_putFB hB1 (j := 0) hX (Nat.le_of_ble_eq_true rfl) rfl rfl dX1_init_10 rfl fX1_11 rfl rfl rfl rfl rfl (Nat.le_of_ble_eq_true rfl) ?_
  intro M2 hB2
  refine gq_aload_n hX dX1_init_13 rfl rfl rfl ?_
  refine gq_iconst (v := nI 0) hX dX1_init_14 rfl (by decide) ?_
  refine gq_putB hB2 (j := 0) hX (Nat.le_of_ble_eq_true rfl) rfl rfl dX1_init_15 rfl fX1_17 rfl rfl rfl (Nat.le_of_ble_eq_true rfl) ?_
  intro M3 hB3
  refine gq_aload_n hX dX1_init_18 rfl rfl rfl ?_
  refine gq_iconst (v := nI 0) hX dX1_init_19 rfl (by decide) ?_
  refine gq_putB hB3 (j := 0) hX (Nat.le_of_ble_eq_true rfl) rfl rfl dX1_init_20 rfl fX1_21 rfl rfl rfl (Nat.le_of_ble_eq_true rfl) ?_
  intro M4 hB4
  refine gq_iconst (v := nI 0) hX dX1_init_23 rfl (by decide) ?_
  refine gq_istore_n hX dX1_init_24 rfl rfl (Nat.le_of_ble_eq_true rfl) rfl ?_
  have lp : ∀ (r j : Nat) (b : Nat → Nat) (M : Hp), j + r = 8 → b 0 = a → Bd E M0 M (2 + 13 * j) b (ringC E b j) → Gq E X mX1_init Q 25 [.ref a, .int (nI j)] [] M (13 * r) (103 * r) := by
    intro r
    induction r with
    | zero =>
      intro j b M hj hb0 hB
      refine gq_iload_n hX dX1_init_25 rfl rfl rfl ?_
      refine gq_bipush (v := nI 8) hX dX1_init_26 rfl (by decide) ?_
      refine gq_icmp_geT (tgt := 50) hX dX1_init_28 rfl (nI_le (by omega) (by omega)) ?_
      have e8 : j = 8 := by omega
      subst e8
      exact gq_vret hX hQ dX1_init_50 rfl ⟨rfl, b, hb0, hB⟩
    | succ r ih =>
      intro j b M hj hb0 hB
      refine gq_iload_n hX dX1_init_25 rfl rfl rfl ?_
      refine gq_bipush (v := nI 8) hX dX1_init_26 rfl (by decide) ?_
      refine gq_icmp_geF (tgt := 50) hX dX1_init_28 rfl rfl (nI_ge (by omega) (by omega)) ?_
      refine gq_aload_n hX dX1_init_31 rfl rfl rfl ?_
      have h0a := (hB.1 0 (by omega)).2.2
      rw [hb0] at h0a
      refine gq_getf hX dX1_init_32 rfl fX1_11 h0a rfl ?_
      refine gq_iload_n hX dX1_init_35 rfl rfl rfl ?_
      refine gq_newc (fs := [.int 0, .null, .null, .null, .int 0, .null, .null, .null, .int 0, .int 0, .int 0, .int 0, .int 0]) (nc1 := 13 * r + 12) (ns1 := 103 * r + 90) hX dX1_init_36 rfl kX3 ⟨in1 150 rfl rfl, in1 39 rfl rfl, in1 2 rfl rfl⟩ (by decide) (by omega) (by omega) ?_
      intro a9 hn9 hl9
      refine gq_dup hX dX1_init_39 rfl rfl ?_
      refine gq_callN (mc := 12) (ms := 90) (nc1 := 13 * r) (ns1 := 103 * r) hX dX1_init_40 vX1_24 (ci_X3_init hn9 hl9) rfl rfl (Nat.le_of_ble_eq_true rfl) ⟨(Nat.le_of_ble_eq_true rfl), (Nat.le_of_ble_eq_true rfl)⟩ (by omega) (by omega) ?_
      rintro r9 M2 ⟨rfl, b2, rfl, hB2⟩
      have hB3 := hB.app hB2
      have h1a := hB3.1 1 (by omega)
      simp only [if_pos (show 1 < 2 + 13 * j by omega)] at h1a
      refine gq_qast hX dX1_init_43 rfl h1a.2.2 (hB2.1 0 (by decide)).2.2 (vp_in_nI (by omega) (by decide)) h1a.2.1 rfl ?_
      have hB4 := hB3.put (j := 1) (x := .inl (E.2.2.2.1 6, 8, .inr (.inr (.inr (.inr (va_up (ringF b j) (nI j).toNatClampNeg (some (b2 0)))))))) (by omega) (if_pos (by omega))
      refine gq_iinc hX dX1_init_44 rfl rfl (inc1 _) (Nat.le_of_ble_eq_true rfl) rfl ?_
      refine gq_goto (tgt := 25) hX dX1_init_47 rfl ?_
      refine ih (j + 1) (ap (2 + 13 * j) b b2) _ (by omega) ((ap_lo (by omega)).trans hb0) ?_
      rw [show 2 + 13 * (j + 1) = 2 + 13 * j + 13 by omega]
      exact hB4.cg (fun k hk => ⟨rfl, ring_step (by omega) hk⟩)
  refine lp 8 0 _ _ rfl ?_ (hB4.cg (b2 := fun k => if k < 1 then a else a1) (c2 := ringC E (fun k => if k < 1 then a else a1) 0) (fun k hk => ⟨rfl, ?_⟩))
  · rfl
  · match k, hk with
    | 0, _ => rfl
    | 1, _ => rfl
    | k + 2, h => exact absurd h (by omega)

