/-! WHAT ALWAYS HOLDS of a state -/
def okZ (S : St) (nc B : Nat) : Prop := ∀ c, c < nc → (∃ m, 1 ≤ m ∧ m ≤ 9 ∧ S.2 1 c = nI m) ∧ ∃ a, a ≤ B ∧ S.2 2 c = nI a
def okT (S : St) (nt : Nat) : Prop := ∀ t, t < nt → ∃ x, 1 ≤ x ∧ x ≤ 9 ∧ S.2 4 t = nI x
def okM (S : St) (nc nt no : Nat) : Prop := ∀ k, k < no → ∃ a o, a < nc ∧ S.2 9 k = nI a ∧ ObjOk S nc nt k o
def okI (S : St) (no B : Nat) : Prop := (∃ i, i ≤ B ∧ S.1 8 = nI i) ∧ ∀ k, k < no → ∃ i, i ≤ B ∧ S.2 7 k = nI i
def okB (S : St) (nc : Nat) : Prop := S.1 6 = S.1 5 + arrSum S nc
def Ok (S : St) (nc nt no B : Nat) : Prop := Wf S nc nt no ∧ Nar S ∧ okZ S nc B ∧ okT S nt ∧ RenOk S nc nt ∧ okM S nc nt no ∧ SecOk S nc no ∧ okI S no B ∧ okB S nc
section OK
variable {S : St} {nc nt no B : Nat}
theorem Ok.mono {B2 : Nat} (h : Ok S nc nt no B) (hB : B ≤ B2) : Ok S nc nt no B2 := by
  obtain ⟨h1, h2, h3, h4, h5, h6, h7, ⟨⟨i, h8, h9⟩, h10⟩, h11⟩ := h
  exact ⟨h1, h2, fun c hc => ⟨(h3 c hc).1, by obtain ⟨a, ha, e⟩ := (h3 c hc).2; exact ⟨a, by omega, e⟩⟩, h4, h5, h6, h7, ⟨⟨i, by omega, h9⟩, fun k hk => by obtain ⟨a, ha, e⟩ := h10 k hk; exact ⟨a, by omega, e⟩⟩, h11⟩
theorem Ok.sm (h : Ok S nc nt no B) (hB : B < 2 ^ 30) : SmC S nc := fun c hc => ⟨by obtain ⟨m, h1, h2, h3⟩ := (h.2.2.1 c hc).1; exact ⟨m, by omega, h3⟩, by obtain ⟨a, h1, h3⟩ := (h.2.2.1 c hc).2; exact ⟨a, by omega, h3⟩⟩
theorem Ok.hmo (h : Ok S nc nt no B) : ∀ k, k < no → ∃ a, a < nc ∧ S.2 9 k = nI a := fun k hk => by
  obtain ⟨a, o, h1, h2, -⟩ := h.2.2.2.2.2.1 k hk
  exact ⟨a, h1, h2⟩
theorem arr_cong {S S' : St} {n : Nat} (h : ∀ c, c < n → S'.2 2 c = S.2 2 c) : arrSum S' n = arrSum S n := it_cong (fun j x hj => by rw [h j hj])
theorem arr_upd {j : Nat} {d : Int32} {f : Nat → Int32} (hf : f j = S.2 2 j + d) (hf2 : ∀ c, c ≠ j → f c = S.2 2 c) : ∀ n, arrSum (setA S 2 f) n = if j < n then arrSum S n + d else arrSum S n
  | 0 => by rw [if_neg (Nat.not_lt_zero _)]; rfl
  | n + 1 => by
    have ih := arr_upd hf hf2 n
    show arrSum (setA S 2 f) n + f n = _
    have e0 : arrSum S (n + 1) = arrSum S n + S.2 2 n := rfl
    rw [ih, e0]
    by_cases e : j = n
    · subst e
      rw [if_neg (Nat.lt_irrefl _), if_pos (by omega), hf]
      exact (Int32.add_assoc _ _ _).symm
    · rw [hf2 n (fun z => e z.symm)]
      by_cases hl : j < n
      · rw [if_pos hl, if_pos (by omega), Int32.add_assoc, Int32.add_comm d, ← Int32.add_assoc]
      · rw [if_neg hl, if_neg (by omega)]
theorem nI_z : (0 : Int32) = nI 0 := rfl
/-- a state that is the same where it counts -/
theorem Ok.cong {S' : St} (h : Ok S nc nt no B) (hwf : Wf S' nc nt no) (hn : Nar S') (h1 : ∀ c, c < nc → S'.2 1 c = S.2 1 c ∧ S'.2 2 c = S.2 2 c ∧ S'.2 3 c = S.2 3 c) (h2 : ∀ t, t < nt → S'.2 4 t = S.2 4 t ∧ S'.2 5 t = S.2 5 t) (h3 : ∀ k, k < no → S'.2 7 k = S.2 7 k ∧ S'.2 8 k = S.2 8 k ∧ S'.2 9 k = S.2 9 k ∧ S'.2 10 k = S.2 10 k ∧ S'.2 11 k = S.2 11 k) (h8 : S'.1 8 = S.1 8) (h6 : S'.1 6 = S.1 6) (h5 : S'.1 5 = S.1 5) : Ok S' nc nt no B := by
  obtain ⟨g1, g2, g3, g4, g5, g6, g7, ⟨g8, g9⟩, g10⟩ := h
  refine ⟨hwf, hn, fun c hc => ?_, fun t ht => ?_, fun t ht => ?_, fun k hk => ?_, fun k hk => ?_, ⟨by rw [h8]; exact g8, fun k hk => ?_⟩, ?_⟩
  · rw [(h1 c hc).1, (h1 c hc).2.1]
    exact g3 c hc
  · rw [(h2 t ht).1]
    exact g4 t ht
  · rw [(h2 t ht).2]
    rcases g5 t ht with e | ⟨a, ha, e, f⟩
    · exact Or.inl e
    · exact Or.inr ⟨a, ha, e, by rw [(h1 a ha).2.2]; exact f⟩
  · obtain ⟨a, o, e1, e2, e3, e4⟩ := g6 k hk
    exact ⟨a, o, e1, by rw [(h3 k hk).2.2.1]; exact e2, by rw [(h3 k hk).2.2.2.1]; exact e3, by rw [(h3 k hk).2.1]; exact e4⟩
  · rw [(h3 k hk).2.2.2.2]
    exact g7 k hk
  · rw [(h3 k hk).1]
    exact g9 k hk
  · unfold okB at g10 ⊢
    rw [h6, h5, g10, arr_cong (fun c hc => (h1 c hc).2.1)]
theorem Ok.cop {S0 : St} (h : Ok S nc nt no B) (hn : Nar S0) : Ok (copS S0 S nc nt no) nc nt no B := h.cong (copS_wf h.1) (copS_nar hn h.2.1) (fun _ hc => ⟨itU_lt hc, itU_lt hc, itU_lt hc⟩) (fun _ ht => ⟨itU_lt ht, itU_lt ht⟩) (fun _ hk => ⟨itU_lt hk, itU_lt hk, itU_lt hk, itU_lt hk, itU_lt hk⟩) rfl rfl rfl
theorem w_cop {S0 : St} : wOf (copS S0 S nc nt no) nc nt no = wOf S nc nt no := by
  refine w_cong (fun i hi => ?_) (fun c x hc hx => ?_) (fun t x ht hx => ?_) (fun k x hk hx => ?_)
  · exact sc_all (P := fun i => scO (copS S0 S nc nt no) i = scO S i) rfl rfl rfl rfl rfl rfl rfl rfl rfl i hi
  · match x, hx with
    | 0, _ => exact itU_lt hc
    | 1, _ => exact itU_lt hc
    | 2, _ => exact itU_lt hc
  · match x, hx with
    | 0, _ => exact itU_lt ht
    | 1, _ => exact congrArg (· + nI 1) (itU_lt ht)
  · match x, hx with
    | 0, _ => exact itU_lt hk
    | 1, _ => exact congrArg kdO (itU_lt hk)
    | 2, _ => exact itU_lt hk
    | 3, _ => exact itU_lt hk
    | 4, _ => exact congrArg (· + nI 1) (itU_lt hk)
    | 5, _ => exact itU_lt hk
theorem btw_ix {x : Int32} {lo hi : Nat} (hl : lo < 1000) (hh : hi < 1000) (h : ¬ btw x (nI lo) (nI hi) = 0) : ∃ m, lo ≤ m ∧ m ≤ hi ∧ x = nI m := by
  obtain ⟨h1, h2⟩ := btw_1 h
  have e1 : (nI lo).toInt = (lo : Int) := nI_toInt (by omega)
  have e2 : (nI hi).toInt = (hi : Int) := nI_toInt (by omega)
  rw [Int32.lt_iff_toInt_lt, e1] at h1
  rw [Int32.lt_iff_toInt_lt, e2] at h2
  refine ⟨x.toInt.toNat, by omega, by omega, ?_⟩
  apply Int32.toInt_inj.mp
  rw [nI_toInt (by omega)]
  omega
theorem i2n {a : Nat} (h : ¬ (nI a : Int32) = 0) : a ≠ 0 := fun e => h (by rw [e]; rfl)
/-- committees -/
theorem comF_0 (hwf : Wf S nc nt no) {m : Int32} (h : comF S m = 0) : nc < 6 ∧ ∃ x, 1 ≤ x ∧ x ≤ 9 ∧ m = nI x := by
  rw [comF_m hwf] at h
  by_cases h1 : btw m (nI 1) (nI 9) = 0
  · rw [if_pos h1] at h
    exact absurd h (by decide)
  · rw [if_neg h1] at h
    refine ⟨?_, btw_ix (by decide) (by decide) h1⟩
    by_cases h2 : nc = 6
    · rw [h2, if_pos rfl] at h
      exact absurd h (by decide)
    · have := hwf.2.1
      omega
theorem Ok.com (h : Ok S nc nt no B) {m : Int32} (hF : comF S m = 0) : Ok (comS S nc m) (nc + 1) nt no B := by
  obtain ⟨hlt, x, hx1, hx9, rfl⟩ := comF_0 h.1 hF
  obtain ⟨⟨w1, w2, w3, w4, w5, w6⟩, n, g3, g4, g5, g6, g7, g8, g10⟩ := h
  have hc : ∀ c, c < nc → (comS S nc (nI x)).2 1 c = S.2 1 c ∧ (comS S nc (nI x)).2 2 c = S.2 2 c ∧ (comS S nc (nI x)).2 3 c = S.2 3 c := fun c hc => ⟨upd_n _ (by omega), upd_n _ (by omega), upd_n _ (by omega)⟩
  refine ⟨⟨by show S.1 0 + nI 1 = _; rw [w1, inM], by omega, w3, w4, w5, w6⟩, ⟨nar_upd n.1 vz1, n.2.1, n.2.2⟩, fun c hc2 => ?_, g4, fun t ht => ?_, fun k hk => ?_, fun k hk => ?_, g8, ?_⟩
  · by_cases e : c = nc
    · subst e
      exact ⟨⟨x, hx1, hx9, upd_s _ _ _⟩, 0, Nat.zero_le _, upd_s _ _ _⟩
    · rw [(hc c (by omega)).1, (hc c (by omega)).2.1]
      exact g3 c (by omega)
  · rcases g5 t ht with e | ⟨a, ha, e, f⟩
    · exact Or.inl e
    · exact Or.inr ⟨a, by omega, e, by rw [(hc a ha).2.2]; exact f⟩
  · obtain ⟨a, o, e1, e2, e3, e4⟩ := g6 k hk
    exact ⟨a, o, by omega, e2, e3, e4.imp id (fun e => e.imp id (fun ⟨q1, q2⟩ => ⟨q1, by omega⟩))⟩
  · rcases g7 k hk with e | ⟨a, ha, e⟩
    · exact Or.inl e
    · exact Or.inr ⟨a, by omega, e⟩
  · unfold okB at g10 ⊢
    show S.1 6 = S.1 5 + (arrSum (comS S nc (nI x)) nc + (comS S nc (nI x)).2 2 nc)
    rw [arr_cong (fun c h9 => (hc c h9).2.1), show (comS S nc (nI x)).2 2 nc = nI 0 from upd_s _ _ _, show arrSum S nc + nI 0 = arrSum S nc from Int32.add_zero _]
    exact g10
/-- tails -/
theorem taiF_0 (hwf : Wf S nc nt no) {m : Int32} (h : taiF S m = 0) : nt < 8 ∧ ∃ x, 1 ≤ x ∧ x ≤ 9 ∧ m = nI x := by
  rw [taiF_m hwf] at h
  by_cases h1 : btw m (nI 1) (nI 9) = 0
  · rw [if_pos h1] at h
    exact absurd h (by decide)
  · rw [if_neg h1] at h
    refine ⟨?_, btw_ix (by decide) (by decide) h1⟩
    by_cases h2 : nt = 8
    · rw [h2, if_pos rfl] at h
      exact absurd h (by decide)
    · have := hwf.2.2.2.1
      omega
theorem Ok.tai (h : Ok S nc nt no B) {m : Int32} (hF : taiF S m = 0) : Ok (taiS S nt m) nc (nt + 1) no B := by
  obtain ⟨hlt, x, hx1, hx9, rfl⟩ := taiF_0 h.1 hF
  obtain ⟨⟨w1, w2, w3, w4, w5, w6⟩, n, g3, g4, g5, g6, g7, g8, g10⟩ := h
  refine ⟨⟨w1, w2, by show S.1 1 + nI 1 = _; rw [w3, inM], by omega, w5, w6⟩, n, g3, fun t ht => ?_, fun t ht => ?_, fun k hk => ?_, g7, g8, g10⟩
  · by_cases e : t = nt
    · subst e
      exact ⟨x, hx1, hx9, upd_s _ _ _⟩
    · obtain ⟨y, h1, h2, h3⟩ := g4 t (by omega)
      exact ⟨y, h1, h2, (upd_n _ e).trans h3⟩
  · by_cases e : t = nt
    · subst e
      exact Or.inl (upd_s _ _ _)
    · have e5 : (taiS S nt (nI x)).2 5 t = S.2 5 t := upd_n _ e
      rw [e5]
      exact g5 t (by omega)
  · obtain ⟨a, o, e1, e2, e3, e4⟩ := g6 k hk
    exact ⟨a, o, e1, e2, e3, e4.imp (fun ⟨q1, q2⟩ => ⟨q1, by omega⟩) (fun e => e.imp (fun ⟨q1, q2⟩ => ⟨q1, by omega⟩) id)⟩
/-- arrears change at one place -/
theorem Ok.arr (h : Ok S nc nt no B) {j v : Nat} {d : Int32} (hj : j < nc) (hv : v ≤ B) (he : nI v = S.2 2 j + d) {p c : Int32} (hb : c = p + (arrSum S nc + d)) : Ok (setS (setS (setA S 2 (upd (S.2 2) j (nI v))) 5 p) 6 c) nc nt no B := by
  obtain ⟨w, n, g3, g4, g5, g6, g7, g8, g10⟩ := h
  refine ⟨w, n, fun c hc => ⟨(g3 c hc).1, ?_⟩, g4, g5, g6, g7, g8, ?_⟩
  · by_cases e : c = j
    · subst e
      exact ⟨v, hv, upd_s _ _ _⟩
    · obtain ⟨a, h1, h2⟩ := (g3 c hc).2
      exact ⟨a, h1, (upd_n _ e).trans h2⟩
  · show c = p + arrSum (setA S 2 (upd (S.2 2) j (nI v))) nc
    rw [arr_upd (d := d) (by rw [upd_s, he]) (fun c hc => upd_n _ hc), if_pos hj]
    exact hb
theorem hasI_n0 {n : Nat} {c : Int32} (hn : n < 100000) (h : ¬ hasI n c = 0) : ∃ j, j < n ∧ c = nI j := hasI_ix hn h
theorem payF_0 {c x : Int32} (hnc : nc ≤ 6) (h : payF S nc c x = 0) : ∃ j y, j < nc ∧ c = nI j ∧ 1 ≤ y ∧ y ≤ 99 ∧ x = nI y ∧ x ≤ S.2 2 j := by
  unfold payF at h
  by_cases h1 : hasI nc c = 0
  · rw [if_pos h1] at h
    exact absurd h (by decide)
  · rw [if_neg h1, btw_if] at h
    obtain ⟨j, hj, rfl⟩ := hasI_ix (by omega) h1
    by_cases h2 : btw x (nI 1) (nI 99) = 0
    · rw [if_pos h2] at h
      exact absurd h (by decide)
    · rw [if_neg h2, nI_clamp (by omega)] at h
      obtain ⟨y, hy1, hy2, rfl⟩ := btw_ix (by decide) (by decide) h2
      by_cases h3 : nI y ≤ S.2 2 j
      · exact ⟨j, y, hj, rfl, hy1, hy2, rfl, h3⟩
      · rw [if_neg h3] at h
        exact absurd h (by decide)
theorem Ok.pay (h : Ok S nc nt no B) (hB : B < 2 ^ 30) {j y : Nat} (hj : j < nc) (hy : y ≤ 99) (hle : nI y ≤ S.2 2 j) : Ok (payS S j (nI y)) nc nt no B := by
  obtain ⟨a, ha, ea⟩ := (h.2.2.1 j hj).2
  rw [ea, Int32.le_iff_toInt_le, nI_toInt (by omega), nI_toInt (by omega)] at hle
  have hya : y ≤ a := by omega
  have hb := h.2.2.2.2.2.2.2.2
  have h9 := h.arr (j := j) (v := a - y) (d := -nI y) (p := S.1 5 + nI y) (c := S.1 6) hj (by omega) (by rw [ea, ← Int32.sub_eq_add_neg, pk_sub hya]) (by
    rw [show S.1 6 = S.1 5 + arrSum S nc from hb]
    generalize arrSum S nc = u
    generalize S.1 5 = v
    generalize nI y = t
    grind)
  have e : payS S j (nI y) = setS (setS (setA S 2 (upd (S.2 2) j (nI (a - y)))) 5 (S.1 5 + nI y)) 6 (S.1 6) := by
    unfold payS
    rw [ea, pk_sub hya]
    exact (setS_self rfl).symm
  rw [e]
  exact h9
/-- launches -/
theorem lauF_0 {c : Int32} (hnc : nc ≤ 6) (h : lauF S nc c = 0) : ∃ j, j < nc ∧ c = nI j := by
  unfold lauF at h
  by_cases h1 : hasI nc c = 0
  · rw [if_pos h1] at h
    exact absurd h (by decide)
  · exact hasI_ix (by omega) h1
theorem Ok.fly (h : Ok S nc nt no B) {j : Nat} : Ok (flyS S j) nc nt no B := by
  obtain ⟨w, n, g3, g4, g5, g6, g7, g8, g10⟩ := h
  refine ⟨w, nar_fl n vz1, g3, g4, fun t ht => ?_, g6, g7, g8, g10⟩
  rcases g5 t ht with e | ⟨a, ha, e, f⟩
  · exact Or.inl e
  · refine Or.inr ⟨a, ha, e, ?_⟩
    show ¬ upd (S.2 3) j (nI 1) a = 0
    by_cases e9 : a = j
    · subst e9
      rw [upd_s]
      decide
    · rw [upd_n _ e9]
      exact f
/-- motions -/
theorem fulF_0 (hwf : Wf S nc nt no) (h : fulF S = 0) : no < 8 := by
  rw [fulF_m hwf] at h
  by_cases h2 : no = 8
  · rw [h2, if_pos rfl] at h
    exact absurd h (by decide)
  · have := hwf.2.2.2.2.2
    omega
theorem tmoF_0 (hwf : Wf S nc nt no) {c t : Int32} (h : tmoF S nc nt c t = 0) : no < 8 ∧ (∃ j, j < nc ∧ c = nI j) ∧ ∃ o, o < nt ∧ t = nI o := by
  unfold tmoF at h
  have := hwf.2.1
  have := hwf.2.2.2.1
  by_cases h1 : hasI nc c = 0
  · rw [if_pos h1] at h
    exact absurd h (by decide)
  · rw [if_neg h1] at h
    by_cases h2 : hasI nt t = 0
    · rw [if_pos h2] at h
      exact absurd h (by decide)
    · rw [if_neg h2] at h
      by_cases h3 : fulF S = 0
      · exact ⟨fulF_0 hwf h3, hasI_ix (by omega) h1, hasI_ix (by omega) h2⟩
      · rw [if_neg h3] at h
        exact absurd h (by decide)
theorem gmoF_0 (hwf : Wf S nc nt no) {c t : Int32} (h : gmoF S nc c t = 0) : no < 8 ∧ (∃ j, j < nc ∧ c = nI j) ∧ ∃ o, o < nc ∧ t = nI o := by
  unfold gmoF at h
  have := hwf.2.1
  by_cases h1 : hasI nc c = 0
  · rw [if_pos h1] at h
    exact absurd h (by decide)
  · rw [if_neg h1] at h
    by_cases h2 : hasI nc t = 0
    · rw [if_pos h2] at h
      exact absurd h (by decide)
    · rw [if_neg h2] at h
      by_cases h3 : fulF S = 0
      · exact ⟨fulF_0 hwf h3, hasI_ix (by omega) h1, hasI_ix (by omega) h2⟩
      · rw [if_neg h3] at h
        exact absurd h (by decide)
theorem Ok.mot (h : Ok S nc nt no B) (hlt : no < 8) {j o : Nat} (hj : j < nc) {kd : Int32} (hk : (kd = nI 114 ∧ o < nt) ∨ (kd = nI 116 ∧ o < nt) ∨ (kd = nI 103 ∧ o < nc)) : Ok (motS S no kd (nI j) (nI o)) nc nt (no + 1) (B + 1) := by
  obtain ⟨⟨w1, w2, w3, w4, w5, w6⟩, n, g3, g4, g5, g6, g7, ⟨⟨i, hi, ei⟩, g9⟩, g10⟩ := h
  have hkc : vp_nar .char kd = kd := by rcases hk with ⟨e, -⟩ | ⟨e, -⟩ | ⟨e, -⟩ <;> rw [e] <;> decide
  refine ⟨⟨w1, w2, w3, w4, by show S.1 7 + nI 1 = _; rw [w5, inM], by omega⟩, ⟨n.1, nar_upd n.2.1 hkc, nar_upd n.2.2 vz0⟩, fun c hc => ⟨(g3 c hc).1, by obtain ⟨a, ha, e⟩ := (g3 c hc).2; exact ⟨a, by omega, e⟩⟩, g4, g5, fun k hk2 => ?_, fun k hk2 => ?_, ⟨⟨i + 1, by omega, by show S.1 8 + nI 1 = _; rw [ei, inM]⟩, fun k hk2 => ?_⟩, g10⟩
  · by_cases e : k = no
    · subst e
      refine ⟨j, o, hj, upd_s _ _ _, upd_s _ _ _, ?_⟩
      rw [show (motS S k kd (nI j) (nI o)).2 8 k = kd from upd_s _ _ _]
      exact hk
    · obtain ⟨a, o2, e1, e2, e3, e4⟩ := g6 k (by omega)
      refine ⟨a, o2, e1, (upd_n _ e).trans e2, (upd_n _ e).trans e3, ?_⟩
      rw [show (motS S no kd (nI j) (nI o)).2 8 k = S.2 8 k from upd_n _ e]
      exact e4
  · by_cases e : k = no
    · subst e
      exact Or.inl (upd_s _ _ _)
    · rw [show (motS S no kd (nI j) (nI o)).2 11 k = S.2 11 k from upd_n _ e]
      exact g7 k (by omega)
  · by_cases e : k = no
    · subst e
      exact ⟨i, by omega, (upd_s _ _ _).trans ei⟩
    · obtain ⟨a, ha, e2⟩ := g9 k (by omega)
      exact ⟨a, by omega, (upd_n _ e).trans e2⟩
/-- seconders -/
theorem secF_0 {c id : Int32} (hnc : nc ≤ 6) (h : secF S nc no c id = 0) : (∃ j, j < nc ∧ c = nI j) ∧ ∃ k, slotO S no id = some k := by
  unfold secF at h
  by_cases h1 : hasI nc c = 0
  · rw [if_pos h1] at h
    exact absurd h (by decide)
  · rw [if_neg h1] at h
    refine ⟨hasI_ix (by omega) h1, ?_⟩
    rcases ho : slotO S no id with _ | k
    · rw [ho] at h
      exact absurd h (by show ¬ nI 2 = 0; decide)
    · exact ⟨k, rfl⟩
theorem Ok.sed (h : Ok S nc nt no B) {k j : Nat} (hj : j < nc) : Ok (sedS S k (nI j)) nc nt no B := by
  obtain ⟨w, n, g3, g4, g5, g6, g7, g8, g10⟩ := h
  refine ⟨w, n, g3, g4, g5, g6, fun q hq => ?_, g8, g10⟩
  show upd (S.2 11) k (nI j) q = -1 ∨ ∃ a, a < nc ∧ upd (S.2 11) k (nI j) q = nI a
  by_cases e : q = k
  · subst e
    rw [upd_s]
    exact Or.inr ⟨j, hj, rfl⟩
  · rw [upd_n _ e]
    exact g7 q hq
/-- from the table -/
theorem untF_0 {id : Int32} (h : untF S no id = 0) : ∃ k, slotO S no id = some k := by
  unfold untF at h
  rcases ho : slotO S no id with _ | k
  · rw [ho] at h
    exact absurd h (by show ¬ nI 1 = 0; decide)
  · exact ⟨k, rfl⟩
theorem witF_0 {id : Int32} (h : witF S no id = 0) : ∃ k, slotO S no id = some k := by
  unfold witF at h
  rcases ho : slotO S no id with _ | k
  · rw [ho] at h
    exact absurd h (by show ¬ nI 1 = 0; decide)
  · exact ⟨k, rfl⟩
theorem votF_0 {id : Int32} (h : votF S no id = 0) : ∃ k, slotO S no id = some k := by
  unfold votF at h
  rcases ho : slotO S no id with _ | k
  · rw [ho] at h
    exact absurd h (by show ¬ nI 1 = 0; decide)
  · exact ⟨k, rfl⟩
theorem Ok.tab (h : Ok S nc nt no B) {k : Nat} {v : Int32} (hv : vp_nar .boolean v = v) : Ok (setA S 12 (upd (S.2 12) k v)) nc nt no B := ⟨h.1, nar_tb h.2.1 hv, h.2.2⟩
theorem Ok.unt (h : Ok S nc nt no B) {k j : Nat} (hj : j < nc) : Ok (untS S k j) nc nt no (B + 1) := by
  obtain ⟨a, ha, ea⟩ := (h.2.2.1 j hj).2
  have h2 := (h.tab (k := k) vz0).mono (B2 := B + 1) (by omega)
  have hb := h.2.2.2.2.2.2.2.2
  have h9 := h2.arr (j := j) (v := a + 1) (d := nI 1) (p := S.1 5) (c := S.1 6 + nI 1) hj (by omega) (by show _ = S.2 2 j + nI 1; rw [ea, inM]) (by
    show S.1 6 + nI 1 = S.1 5 + (arrSum S nc + nI 1)
    rw [show S.1 6 = S.1 5 + arrSum S nc from hb]
    exact Int32.add_assoc _ _ _)
  have e : untS S k j = setS (setS (setA (setA S 12 (upd (S.2 12) k (nI 0))) 2 (upd (S.2 2) j (nI (a + 1)))) 5 (S.1 5)) 6 (S.1 6 + nI 1) := by
    unfold untS
    rw [ea, inM]
    refine congrArg (fun z => setS z 6 (S.1 6 + nI 1)) ?_
    exact (setS_self rfl).symm
  rw [e]
  exact h9
/-- closing -/
theorem Ok.clo (h : Ok S nc nt no B) {k : Nat} (hk : k < no) : Ok (cloS S no k) nc nt (no - 1) B := by
  obtain ⟨w, n, g3, g4, g5, g6, g7, ⟨g8, g9⟩, g10⟩ := h
  have hs : ∀ a, ¬ (7 ≤ a ∧ a ≤ 12) → (cloS S no k).2 a = S.2 a := fun a ha => by
    funext j
    rw [clo_at, if_neg (fun z => ha z.1)]
  have hm : ∀ a j, 7 ≤ a → a ≤ 12 → j < no - 1 → (cloS S no k).2 a j = S.2 a (if k ≤ j then j + 1 else j) := fun a j h1 h2 hj => by
    rw [clo_at]
    by_cases hkj : k ≤ j
    · rw [if_pos ⟨⟨h1, h2⟩, hkj, by omega⟩, if_pos hkj]
    · rw [if_neg (fun z => hkj z.2.1), if_neg hkj]
  have hsc : ∀ i, i ≠ 7 → (cloS S no k).1 i = S.1 i := fun i hi => by
    rw [clo_sc]
    exact setS_off hi
  have hx : ∀ j, j < no - 1 → (if k ≤ j then j + 1 else j) < no := fun j hj => by split <;> omega
  have hnar : Nar (cloS S no k) := by
    unfold cloS
    exact it_inv (I := Nar) (show Nar (setS S 7 (S.1 7 - nI 1)) from n) (fun _ _ _ h => cpS_nar h h)
  refine ⟨clo_wf w hk, hnar, ?_, ?_, ?_, fun j hj => ?_, fun j hj => ?_, ⟨?_, fun j hj => ?_⟩, ?_⟩
  · unfold okZ
    rw [hs 1 (by omega), hs 2 (by omega)]
    exact g3
  · unfold okT
    rw [hs 4 (by omega)]
    exact g4
  · unfold RenOk
    rw [hs 5 (by omega), hs 3 (by omega)]
    exact g5
  · unfold ObjOk
    rw [hm 9 j (by decide) (by decide) hj, hm 10 j (by decide) (by decide) hj, hm 8 j (by decide) (by decide) hj]
    exact g6 _ (hx j hj)
  · rw [hm 11 j (by decide) (by decide) hj]
    exact g7 _ (hx j hj)
  · rw [hsc 8 (by decide)]
    exact g8
  · rw [hm 7 j (by decide) (by decide) hj]
    exact g9 _ (hx j hj)
  · unfold okB at g10 ⊢
    rw [hsc 6 (by decide), hsc 5 (by decide), g10]
    exact congrArg (fun z => S.1 5 + z) (arr_cong (S := S) (S' := cloS S no k) (fun c _ => by rw [hs 2 (by omega)])).symm
/-- grounding -/
theorem groF_at {j : Nat} : ∀ n t, groF S j n t = if t < n then (if S.2 5 t = nI j then -1 else S.2 5 t) else S.2 5 t
  | 0, t => by rw [if_neg (Nat.not_lt_zero _)]; rfl
  | n + 1, t => by
    show (if groF S j n n = nI j then upd (groF S j n) n (-1) else groF S j n) t = _
    have e0 : groF S j n n = S.2 5 n := by rw [groF_at, if_neg (Nat.lt_irrefl _)]
    rw [e0]
    by_cases e : t = n
    · subst e
      rw [if_pos (show t < t + 1 by omega)]
      by_cases h : S.2 5 t = nI j
      · rw [if_pos h, if_pos h, upd_s]
      · rw [if_neg h, if_neg h, e0]
    · have e2 : (if S.2 5 n = nI j then upd (groF S j n) n (-1) else groF S j n) t = groF S j n t := by
        split
        · exact upd_n _ e
        · rfl
      rw [e2, groF_at]
      by_cases hl : t < n
      · rw [if_pos hl, if_pos (show t < n + 1 by omega)]
      · rw [if_neg hl, if_neg (show ¬ t < n + 1 by omega)]
theorem groS_5 {j t : Nat} (ht : t < nt) : (groS S nt j).2 5 t = if S.2 5 t = nI j then -1 else S.2 5 t := by
  show groF S j nt t = _
  rw [groF_at, if_pos ht]
theorem groS_3 {j c : Nat} : (groS S nt j).2 3 c = if c = j then nI 0 else S.2 3 c := by
  show upd (S.2 3) j (nI 0) c = _
  by_cases e : c = j
  · subst e
    rw [upd_s, if_pos rfl]
  · rw [upd_n _ e, if_neg e]
theorem Ok.gro (h : Ok S nc nt no B) {j : Nat} (hj : j < nc) : Ok (groS S nt j) nc nt no B := by
  obtain ⟨w, n, g3, g4, g5, g6, g7, g8, g10⟩ := h
  refine ⟨w, nar_groS n, g3, g4, fun t ht => ?_, g6, g7, g8, g10⟩
  rw [groS_5 ht]
  have := w.2.1
  by_cases h1 : S.2 5 t = nI j
  · rw [if_pos h1]
    exact Or.inl rfl
  · rw [if_neg h1]
    rcases g5 t ht with e | ⟨a, ha, e, f⟩
    · exact Or.inl e
    · refine Or.inr ⟨a, ha, e, ?_⟩
      rw [groS_3, if_neg (fun e2 => h1 (by rw [e, e2]))]
      exact f
/-- votes -/
theorem Ok.eff (h : Ok S nc nt no B) {k a o : Nat} (ha : a < nc) (ho : ObjOk S nc nt k o) (hp : ¬ posI S k a o = 0) : Ok (effS S nt k a o) nc nt no B := by
  unfold effS
  by_cases h1 : S.2 8 k = nI 114
  · rw [if_pos h1]
    have hp2 : S.2 5 o = -1 ∧ ¬ S.2 3 a = 0 := by
      unfold posI at hp
      rw [if_pos h1] at hp
      by_cases h2 : S.2 5 o = -1
      · rw [if_pos h2] at hp
        by_cases h3 : S.2 3 a = 0
        · rw [if_pos h3] at hp
          exact absurd nI_0 hp
        · exact ⟨h2, h3⟩
      · rw [if_neg h2] at hp
        exact absurd nI_0 hp
    obtain ⟨w, n, g3, g4, g5, g6, g7, g8, g10⟩ := h
    refine ⟨w, n, g3, g4, fun t ht => ?_, g6, g7, g8, g10⟩
    show upd (S.2 5) o (nI a) t = -1 ∨ ∃ b, b < nc ∧ upd (S.2 5) o (nI a) t = nI b ∧ ¬ S.2 3 b = 0
    by_cases e : t = o
    · subst e
      rw [upd_s]
      exact Or.inr ⟨a, ha, rfl, hp2.2⟩
    · rw [upd_n _ e]
      exact g5 t ht
  · rw [if_neg h1]
    by_cases h2 : S.2 8 k = nI 116
    · rw [if_pos h2]
      obtain ⟨w, n, g3, g4, g5, g6, g7, g8, g10⟩ := h
      refine ⟨w, n, g3, g4, fun t ht => ?_, g6, g7, g8, g10⟩
      show upd (S.2 5) o (-1) t = -1 ∨ ∃ b, b < nc ∧ upd (S.2 5) o (-1) t = nI b ∧ ¬ S.2 3 b = 0
      by_cases e : t = o
      · subst e
        rw [upd_s]
        exact Or.inl rfl
      · rw [upd_n _ e]
        exact g5 t ht
    · rw [if_neg h2]
      refine h.gro ?_
      rcases ho.2 with ⟨e, -⟩ | ⟨e, -⟩ | ⟨-, e⟩
      · exact absurd e h1
      · exact absurd e h2
      · exact e
theorem Ok.sc (h : Ok S nc nt no B) {i : Nat} {v : Int32} (hi : i = 2 ∨ i = 3 ∨ i = 4) : Ok (setS S i v) nc nt no B := by
  obtain ⟨w, n, g3, g4, g5, g6, g7, g8, g10⟩ := h
  have e : ∀ m, m ≠ i → (setS S i v).1 m = S.1 m := fun m hm => setS_off hm
  refine ⟨Wf.s w (by omega) (by omega) (by omega), n, g3, g4, g5, g6, g7, ⟨?_, g8.2⟩, ?_⟩
  · rw [e 8 (by omega)]
    exact g8.1
  · unfold okB at g10 ⊢
    rw [e 6 (by omega), e 5 (by omega)]
    exact g10
theorem Ok.vot (h : Ok S nc nt no B) {k a o : Nat} (hk : k < no) (ha : a < nc) (ho : ObjOk S nc nt k o) : Ok (votS S nc nt no k a o) nc nt (no - 1) B := by
  unfold votS
  by_cases hc : carI S nc k a o = 0
  · rw [if_pos hc]
    exact (h.sc (by omega)).clo hk
  · rw [if_neg hc]
    refine ((h.eff (k := k) ha ho ?_).sc (by omega)).clo hk
    intro hp
    by_cases h9 : sumV S nc k a (nI 1) ≤ sumV S nc k a (-1)
    · rw [carI, if_pos h9] at hc
      exact hc nI_0
    · rw [carI, if_neg h9, if_pos hp] at hc
      exact hc nI_0
/-- gusts -/
theorem Ok.gus (h : Ok S nc nt no B) {str : Int32} {n : Nat} : Ok (gusS S nt n str).1 nc nt no B := it_inv (I := fun s : St × Int32 => Ok s.1 nc nt no B) h (fun j s _ hs => by
  split
  · split
    · exact hs
    · split
      · exact hs
      · exact hs.tab vz1
  · exact hs)
/-- hours -/
theorem lenB_n (ht : okT S nt) (c : Int32) : ∀ n, n ≤ nt → ∃ x, x ≤ 9 * n ∧ lenB S n c = nI x
  | 0, _ => ⟨0, Nat.le_refl _, rfl⟩
  | n + 1, hn => by
    obtain ⟨x, hx, e⟩ := lenB_n ht c n (by omega)
    obtain ⟨y, h1, h2, h3⟩ := ht n (by omega)
    show ∃ x, _ ∧ (if S.2 5 n = c then lenB S n c + S.2 4 n else lenB S n c) = nI x
    split
    · exact ⟨x + y, by omega, by rw [e, h3, nI_add]⟩
    · exact ⟨x, by omega, e⟩
theorem chaS_f (S : St) (nt n : Nat) : (chaS S nt n).2 1 = S.2 1 ∧ (chaS S nt n).2 3 = S.2 3 ∧ (chaS S nt n).2 4 = S.2 4 ∧ (chaS S nt n).2 5 = S.2 5 := it_inv (I := fun T : St => T.2 1 = S.2 1 ∧ T.2 3 = S.2 3 ∧ T.2 4 = S.2 4 ∧ T.2 5 = S.2 5) ⟨rfl, rfl, rfl, rfl⟩ (fun _ _ _ h => h)
theorem chaS_2 (S : St) (nt : Nat) : ∀ n c, (chaS S nt n).2 2 c = if c < n then S.2 2 c + lenB S nt (nI c) else S.2 2 c
  | 0, c => by rw [if_neg (Nat.not_lt_zero _)]; rfl
  | n + 1, c => by
    show upd ((chaS S nt n).2 2) n ((chaS S nt n).2 2 n + lenB S nt (nI n)) c = _
    by_cases e : c = n
    · subst e
      rw [upd_s, if_pos (show c < c + 1 by omega), chaS_2, if_neg (Nat.lt_irrefl _)]
    · rw [upd_n _ e, chaS_2]
      by_cases hl : c < n
      · rw [if_pos hl, if_pos (by omega)]
      · rw [if_neg hl, if_neg (by omega)]
theorem Ok.cha (h : Ok S nc nt no B) : ∀ n, n ≤ nc → Ok (chaS S nt n) nc nt no (B + 72) := by
  intro n
  induction n with
  | zero => exact fun _ => h.mono (by omega)
  | succ n ih =>
    intro hn
    have ih := ih (by omega)
    obtain ⟨a, ha, ea⟩ := (h.2.2.1 n (by omega)).2
    obtain ⟨x, hx, ex⟩ := lenB_n h.2.2.2.1 (nI n) nt (Nat.le_refl _)
    have h8 := h.1.2.2.2.1
    have e2 : (chaS S nt n).2 2 n = nI a := by rw [chaS_2, if_neg (Nat.lt_irrefl _), ea]
    have hb : okB (chaS S nt n) nc := ih.2.2.2.2.2.2.2.2
    have h9 := ih.arr (j := n) (v := a + x) (d := nI x) (p := (chaS S nt n).1 5) (c := (chaS S nt n).1 6 + nI x) (by omega) (by omega) (by rw [e2, nI_add]) (by
      rw [show (chaS S nt n).1 6 = (chaS S nt n).1 5 + arrSum (chaS S nt n) nc from hb]
      exact Int32.add_assoc _ _ _)
    have e : chaS S nt (n + 1) = setS (setS (setA (chaS S nt n) 2 (upd ((chaS S nt n).2 2) n (nI (a + x)))) 5 ((chaS S nt n).1 5)) 6 ((chaS S nt n).1 6 + nI x) := by
      show setS (setA (chaS S nt n) 2 (upd ((chaS S nt n).2 2) n ((chaS S nt n).2 2 n + lenB S nt (nI n)))) 6 ((chaS S nt n).1 6 + lenB S nt (nI n)) = _
      rw [e2, ex, nI_add]
      refine congrArg (fun z => setS z 6 ((chaS S nt n).1 6 + nI x)) ?_
      exact (setS_self rfl).symm
    rw [e]
    exact h9
theorem Ok.deb (h : Ok S nc nt no B) : ∀ n, n ≤ nc → Ok (debS S nt n).1 nc nt no B := by
  intro n
  induction n with
  | zero => exact fun _ => h
  | succ n ih =>
    intro hn
    have ih := ih (by omega)
    show Ok (if (debS S nt n).1.2 3 n = 0 then debS S nt n else if (debS S nt n).1.2 2 n ≤ nI 30 then debS S nt n else (groS (debS S nt n).1 nt n, (debS S nt n).2 + nI 1)).1 nc nt no B
    split
    · exact ih
    · split
      · exact ih
      · exact ih.gro (by omega)
theorem Ok.hour (h : Ok S nc nt no B) : Ok (hourS S nt nc).1 nc nt no (B + 72) := ((h.cha nc (Nat.le_refl _)).deb nc (Nat.le_refl _)).sc (by omega)
theorem Ok.pas (h : Ok S nc nt no B) : ∀ n, Ok (pasS S nt nc n).1 nc nt no (B + 72 * n) := by
  intro n
  induction n with
  | zero => exact h
  | succ n ih => exact ih.hour.mono (by omega)
end OK
