/-! BOTH SIDES TOGETHER -/
def Cp (S : St) (u : Nat → Int32) (B : Nat) : Prop := ∃ nc nt no, Ok S nc nt no B ∧ ∀ i, i < 91 → u i = wOf S nc nt no i
theorem Cp.mono {S : St} {u : Nat → Int32} {B B2 : Nat} (h : Cp S u B) (hB : B ≤ B2) : Cp S u B2 := by
  obtain ⟨nc, nt, no, h1, h2⟩ := h
  exact ⟨nc, nt, no, h1.mono hB, h2⟩
theorem Cp.cop {S S0 : St} {u : Nat → Int32} {nc nt no B : Nat} (h : Ok S nc nt no B) (hn : Nar S0) (hu : ∀ i, i < 91 → u i = wOf S nc nt no i) : Cp (copS S0 S nc nt no) u B := ⟨nc, nt, no, h.cop hn, fun i hi => by rw [w_cop]; exact hu i hi⟩
/-- the kept states, oldest first -/
def RgS (nx kp f : Nat) (s : Nat → St) (u : Nat → Int32) (B : Nat) : Prop := ∀ j, j < kp → Cp (s (3 + (nx + 8 - kp + j) % 8)) (fun i => u (91 * ((f + j) % 8) + i)) B
theorem RgS.mono {nx kp f : Nat} {s : Nat → St} {u : Nat → Int32} {B B2 : Nat} (h : RgS nx kp f s u B) (hB : B ≤ B2) : RgS nx kp f s u B2 := fun j hj => (h j hj).mono hB
theorem kp_cc {kp : Nat} (h : kp ≤ 8) : (if 8 < kp + 1 then 8 else kp + 1) = ccN kp + 1 := by
  unfold ccN
  by_cases e : kp = 8
  · rw [if_pos (by omega), if_pos e]
  · rw [if_neg (by omega), if_neg e]
theorem itR_off {u g : Nat → Int32} {t q i : Nat} (h : q ≠ t) (hi : i < 91) : itR u t g 91 (91 * q + i) = u (91 * q + i) := if_neg (by omega)
theorem itR_on {u g : Nat → Int32} {t i : Nat} (hi : i < 91) : itR u t g 91 (91 * t + i) = g i := by
  unfold itR
  rw [if_pos (by omega), show 91 * t + i - 91 * t = i by omega]
theorem Cp.cg {S : St} {u v : Nat → Int32} {B : Nat} (h : Cp S u B) (e : ∀ i, i < 91 → v i = u i) : Cp S v B := by
  obtain ⟨nc, nt, no, h1, h2⟩ := h
  exact ⟨nc, nt, no, h1, fun i hi => (e i hi).trans (h2 i hi)⟩
theorem RgS.keep {nx kp f : Nat} (hn : nx < 8) (hk : kp ≤ 8) (hf : f < 8) {s s2 : Nat → St} {u g : Nat → Int32} {B : Nat} (h : RgS nx kp f s u B) (hs : ∀ j, j < 8 → j ≠ nx → s2 (3 + j) = s (3 + j)) (hc : Cp (s2 (3 + nx)) g B) : RgS ((nx + 1) % 8) (ccN kp + 1) (fcN f kp) s2 (itR u ((fcN f kp + ccN kp) % 8) g 91) B := by
  intro j hj
  by_cases e8 : kp = 8
  · subst e8
    have hc7 : ccN 8 = 7 := rfl
    have hf7 : fcN f 8 = (f + 1) % 8 := rfl
    rw [hc7] at hj ⊢
    rw [hf7]
    by_cases e : j = 7
    · subst e
      rw [show ((nx + 1) % 8 + 8 - (7 + 1) + 7) % 8 = nx by omega]
      exact hc.cg fun i hi => itR_on hi
    · have hlt : j < 7 := by omega
      have ho := h (j + 1) (by omega)
      rw [show ((nx + 1) % 8 + 8 - (7 + 1) + j) % 8 = (nx + 8 - 8 + (j + 1)) % 8 by omega, hs _ (by omega) (by omega)]
      refine ho.cg fun i hi => ?_
      rw [show ((f + 1) % 8 + j) % 8 = (f + (j + 1)) % 8 by omega]
      exact itR_off (by omega) hi
  · have hck : ccN kp = kp := if_neg e8
    have hfk : fcN f kp = f := if_neg e8
    rw [hck] at hj ⊢
    rw [hfk]
    by_cases e : j = kp
    · subst e
      rw [show ((nx + 1) % 8 + 8 - (j + 1) + j) % 8 = nx by omega]
      exact hc.cg fun i hi => itR_on hi
    · have hlt : j < kp := by omega
      have ho := h j hlt
      rw [show ((nx + 1) % 8 + 8 - (kp + 1) + j) % 8 = (nx + 8 - kp + j) % 8 by omega, hs _ (by omega) (by omega)]
      refine ho.cg fun i hi => ?_
      exact itR_off (by omega) hi
theorem RgS.back {nx c f : Nat} (hn : nx < 8) (hk : c + 1 ≤ 8) {s s2 : Nat → St} {u : Nat → Int32} {B : Nat} (h : RgS nx (c + 1) f s u B) (hs : ∀ j, j < 8 → s2 (3 + j) = s (3 + j)) : RgS ((nx + 7) % 8) c f s2 u B := by
  intro j hj
  have ho := h j (by omega)
  rw [show ((nx + 7) % 8 + 8 - c + j) % 8 = (nx + 8 - (c + 1) + j) % 8 by omega, hs _ (by omega)]
  exact ho
theorem RgS.top {nx c f : Nat} (hn : nx < 8) (hk : c + 1 ≤ 8) {s : Nat → St} {u : Nat → Int32} {B : Nat} (h : RgS nx (c + 1) f s u B) : Cp (s (3 + (nx + 7) % 8)) (fun i => u (91 * ((f + c) % 8) + i)) B := by
  have ho := h c (by omega)
  rw [show (nx + 8 - (c + 1) + c) % 8 = (nx + 7) % 8 by omega] at ho
  exact ho
def Rng (K : Kt) (B : Nat) : Prop := ∃ nx kp f, RgC K nx kp ∧ RgH K.2.2.2.2.1 f kp ∧ RgS nx kp f K.2.1 (K.2.2.2.2.1.2 2) B
def Sav (K : Kt) (B : Nat) : Prop := K.1 0 = K.2.2.2.2.1.1 3 ∧ (¬ K.1 0 = 0 → Cp (K.2.1 2) (K.2.2.2.2.1.2 3) B)
def Lns (K : Kt) : Prop := LnP K.2.2.2.2.1 (K.2.2.2.1 1) ∧ (K.2.2.2.1 1).2 ≤ 60
def ErS (K : Kt) : Prop := K.2.2.2.2.1.1 7 = K.1 1 ∧ K.2.2.2.2.1.1 8 = K.1 2 ∧ (K.1 1 = -1 ∨ ∃ e, e < 100 ∧ K.1 1 = nI e) ∧ ((K.1 2 = -1 ∧ K.1 3 = -1) ∨ ∃ e v, e < 100 ∧ K.1 2 = nI e ∧ v < 10 ∧ K.1 3 = nI v ∧ K.2.2.2.2.1.1 9 = nI v)
def Rest (K : Kt) (B : Nat) : Prop := (∀ i, i < 11 → Nar (K.2.1 i)) ∧ Rng K B ∧ Sav K B ∧ TxP K.2.2.2.2.1 (K.2.2.2.1 0) ∧ Lns K ∧ ErS K
def Cur (K : Kt) (nc nt no B : Nat) : Prop := Ok (K.2.1 0) nc nt no B ∧ K.2.2.2.2.2.1 = wOf (K.2.1 0) nc nt no
def Sim (K : Kt) (B : Nat) : Prop := ∃ nc nt no, Cur K nc nt no B ∧ Rest K B
theorem Rng.mono {K : Kt} {B B2 : Nat} (h : Rng K B) (hB : B ≤ B2) : Rng K B2 := by
  obtain ⟨nx, kp, f, h1, h2, h3⟩ := h
  exact ⟨nx, kp, f, h1, h2, h3.mono hB⟩
theorem Sav.mono {K : Kt} {B B2 : Nat} (h : Sav K B) (hB : B ≤ B2) : Sav K B2 := ⟨h.1, fun h0 => (h.2 h0).mono hB⟩
theorem Rest.mono {K : Kt} {B B2 : Nat} (h : Rest K B) (hB : B ≤ B2) : Rest K B2 := ⟨h.1, h.2.1.mono hB, h.2.2.1.mono hB, h.2.2.2⟩
theorem Cur.mono {K : Kt} {nc nt no B B2 : Nat} (h : Cur K nc nt no B) (hB : B ≤ B2) : Cur K nc nt no B2 := ⟨h.1.mono hB, h.2⟩
section SIM
variable {K : Kt} {nc nt no B : Nat}
/-- a reader, or a call that fails -/
theorem Rest.th (h : Rest K B) (lo : Nat → Int64) (v : Int32) (w : Nat → Int32) : Rest (kMd (kLo K lo) (setS K.2.2.2.2.1 0 v) w) B := by
  obtain ⟨h1, ⟨nx, kp, f, g1, g2, g3⟩, h3, h4, h5, h6⟩ := h
  exact ⟨h1, ⟨nx, kp, f, g1, g2, g3⟩, h3, h4, h5, h6⟩
theorem Rest.th2 (h : Rest K B) (lo : Nat → UInt64) (v : Int32) (w : Nat → Int32) : Rest (kMd (kDo K lo) (setS K.2.2.2.2.1 0 v) w) B := by
  obtain ⟨h1, ⟨nx, kp, f, g1, g2, g3⟩, h3, h4, h5, h6⟩ := h
  exact ⟨h1, ⟨nx, kp, f, g1, g2, g3⟩, h3, h4, h5, h6⟩
theorem Rest.th0 (h : Rest K B) (v : Int32) (w : Nat → Int32) : Rest (kMd K (setS K.2.2.2.2.1 0 v) w) B := by
  obtain ⟨h1, ⟨nx, kp, f, g1, g2, g3⟩, h3, h4, h5, h6⟩ := h
  exact ⟨h1, ⟨nx, kp, f, g1, g2, g3⟩, h3, h4, h5, h6⟩
/-- the spare state is changed -/
theorem Rest.spare (h : Rest K B) {S1 : St} (hn : Nar S1) : Rest (kSs K 1 S1) B := by
  obtain ⟨h1, ⟨nx, kp, f, g1, g2, g3⟩, h3, h4, h5, h6⟩ := h
  refine ⟨fun i hi => ?_, ⟨nx, kp, f, g1, g2, fun j hj => ?_⟩, h3, h4, h5, h6⟩
  · show Nar (if i = 1 then S1 else K.2.1 i)
    split
    · exact hn
    · exact h1 i hi
  · rw [show (kSs K 1 S1).2.1 (3 + (nx + 8 - kp + j) % 8) = K.2.1 (3 + (nx + 8 - kp + j) % 8) from if_neg (by omega)]
    exact g3 j hj
/-- a change -/
theorem Rest.change {nx kp f B2 : Nat} (h : Rest K B) (hB : B ≤ B2) (hc : Cur K nc nt no B) (hr : RgC K nx kp) (hrh : RgH K.2.2.2.2.1 f kp) (hrs : RgS nx kp f K.2.1 (K.2.2.2.2.1.2 2) B) {S2 : St} {nc2 nt2 no2 : Nat} (hok : Ok S2 nc2 nt2 no2 B2) (lo : Nat → Int64) : Sim (kMd (kLo (kSs (keepK K 0 nx kp nc nt no) 0 S2) lo) (remT (setS K.2.2.2.2.1 0 (nI 0)) (wOf (K.2.1 0) nc nt no) f kp) (wOf S2 nc2 nt2 no2)) B2 := by
  obtain ⟨h1, -, h3, h4, h5, h6⟩ := h
  obtain ⟨r1, r2, r3, r4⟩ := id hr
  obtain ⟨r5, r6, r7, r8⟩ := id hrh
  have hcp : Nar (copS (K.2.1 (3 + nx)) (K.2.1 0) nc nt no) := copS_nar (h1 _ (by omega)) (h1 0 (by decide))
  refine ⟨nc2, nt2, no2, ⟨hok, rfl⟩, fun i hi => ?_, ⟨(nx + 1) % 8, ccN kp + 1, fcN f kp, ⟨rfl, ?_, by omega, ?_⟩, ⟨rfl, rfl, ?_, ?_⟩, ?_⟩, (show Sav _ B from ?_).mono hB, h4, h5, h6⟩
  · show Nar (if i = 0 then S2 else if i = 3 + nx then copS (K.2.1 (3 + nx)) (K.2.1 0) nc nt no else K.2.1 i)
    split
    · exact hok.2.1
    · split
      · exact hcp
      · exact h1 i hi
  · show nI (if 8 < kp + 1 then 8 else kp + 1) = nI (ccN kp + 1)
    rw [kp_cc r4]
  · unfold ccN
    split <;> omega
  · unfold fcN
    split <;> omega
  · unfold ccN
    split <;> omega
  · refine RgS.mono (B := B) ?_ hB
    refine RgS.keep r3 r4 r7 hrs (fun j hj hne => ?_) ?_
    · show (if 3 + j = 0 then S2 else if 3 + j = 3 + nx then copS (K.2.1 (3 + nx)) (K.2.1 0) nc nt no else K.2.1 (3 + j)) = _
      rw [if_neg (by omega), if_neg (by omega)]
    · show Cp (if 3 + nx = 0 then S2 else if 3 + nx = 3 + nx then copS (K.2.1 (3 + nx)) (K.2.1 0) nc nt no else K.2.1 (3 + nx)) _ _
      rw [if_neg (by omega), if_pos rfl]
      exact Cp.cop hc.1 (h1 _ (by omega)) (fun i hi => itU_lt hi)
  · refine ⟨h3.1, fun h0 => ?_⟩
    show Cp (if 2 = 0 then S2 else if 2 = 3 + nx then copS (K.2.1 (3 + nx)) (K.2.1 0) nc nt no else K.2.1 2) _ _
    rw [if_neg (by decide), if_neg (by omega)]
    exact h3.2 h0
end SIM
