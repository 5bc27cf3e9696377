theorem lw_lend {p : Program} {l : Launch} {e : Env} {s : State} {m : MethodId} {below : List Frame} {meth : Method} {c : Code} {bs : Nat} {E2 : va_G × Nat × (Nat → ClassId) × (Nat → Nat) × (Nat → Nat)} {nm : String} {tb : List (Nat × Nat × Nat × Nat)} (hst : E2.2.1 = s.heap.size) (hx : p.tables.exec = Jvm.exec) (hb : c.code = code) (hr : meth.sig.returnType = ret) (hlocks : meth.locks = false)
    (hX : Cx (l, E2) (p, e, room_1, s.setDrawn s.drawn, m, #[Value.ref bs], below, meth, c) (mLw nm tb)) {ls : List Value} {M : Hp} {nc ns : Nat} : Gq (l, E2) (p, e, room_1, s.setDrawn s.drawn, m, #[Value.ref bs], below, meth, c) (mLw nm tb) (lw_Z below #[Value.ref bs] s) 2992 ls [] M nc ns := by
  refine gq_iconst (v := nI 1) hX dL_law_2992 rfl (by decide) ?_
  intro H locs cells slots lsR hR hS hL h1 h2
  have hA : ∀ q ∈ locs, (s.setDrawn s.drawn).heap.size ≤ q.base := fun q hq => by
    have := hS.2.2 q hq
    unfold AE at this
    show s.heap.size ≤ q.base
    rw [← hst]
    exact this
  refine va_forget hA ?_
  refine W.widen (k := 603072) (n := 7194730) (by have : cells + nc ≤ 603072 := h1; omega) (by have : slots + ns ≤ 7194730 := h2; omega) ?_
  exact lw_ret (Drawn.sameBut.refl s.drawn lw_cs) hx hb hr hlocks dL_law_2993
theorem lw_go {p : Program} {e : Env} {s : State} {m : MethodId} {below : List Frame} {meth : Method} {c : Code} (l : Launch) {bs L : Nat} {xs : Nat → Int32} (hL : L ≤ 1536) (C0 : lw_At p s m meth c bs L xs) {E2 : va_G × Nat × (Nat → ClassId) × (Nat → Nat) × (Nat → Nat)} (hst : E2.2.1 = s.heap.size) (hG : GE (l, E2) (s.setDrawn s.drawn)) : W p l e room_1 s m #[Value.ref bs] below meth c s.heap [] 0 0 (lw_Z below #[Value.ref bs] s) (entryFrame m ([Value.ref bs] : List Value).toArray 9) := by
  obtain ⟨hx, hb, hr, hml, hown, hts, hX, hbl, hlocks, hgv⟩ := id C0
  refine W.base ?_
  rw [lg_entry_eq]
  obtain ⟨tb, htb⟩ : ∃ tb, tb = c.exceptionTable.toList.map (fun z => (z.startPc, z.endPc, z.handlerPc, z.catchType)) := ⟨_, rfl⟩
  have ht : c.exceptionTable.toList = tableOf tb := by
    rw [htb]
    unfold tableOf
    rw [List.map_map]
    exact (List.map_id _).symm
  have hC : Cx (l, E2) (p, e, room_1, s.setDrawn s.drawn, m, #[Value.ref bs], below, meth, c) (mLw meth.name tb) := ⟨hx, hb, hml, hown, fun w hw => hts w (List.mem_filter.mp hw).1, hlocks, hr, ht, rfl, hG, (show 1000 ≤ 2048 by decide), (show 64 * 1000 ≤ 94400 by decide)⟩
  have hsc : Sc (l, E2) (p, e, room_1, s.setDrawn s.drawn, m, #[Value.ref bs], below, meth, c) bs L xs := ⟨hX, hbl, fun h => by
    unfold AE at h
    have h2 : E2.2.1 ≤ bs := h
    omega⟩
  have k := lw_entry hC hsc hL (fun b M i nc ns => lw_lend hst hx hb hr hlocks hC)
  refine k s.heap [] 0 0 _ (fun a x h => nomatch h) va_S.rf (lvP_init (vs := [.ref bs]) (n := 9) (fun v hv => ?_) (show 1 ≤ 9 by decide)) (show 0 + (164 + 23 * 512) ≤ 603072 by decide) (show 0 + (2615 + 3266 * 512) ≤ 7194730 by decide)
  rcases List.mem_cons.mp hv with rfl | h
  · rfl
  · exact nomatch h
