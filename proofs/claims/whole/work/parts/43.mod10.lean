set_option maxRecDepth 100000 in
set_option maxHeartbeats 4000000 in
theorem mn_0 {E : Ev} {b : Nat → Nat} {T : St} {M : Hp} (hb : Lay E 9 b) {S : St} {nc nt no : Nat} (hwf : Wf S nc nt no) (hn : Nar S) (hse : SecOk S nc no) (hs : T.1 10 = nI 99) {p0 p1 : Int32} (h0 : T.2 8 0 = p0) (h1 : T.2 8 1 = p1) : Ct E mX5_notNow [.ref (b 0)] (MdW E b T (wOf S nc nt no) M) (eqR (some (.int (xF (S, nc, nt, no) 0 p0 p1))) (MdW E b T (wOf S nc nt no) M)) 0 0 := by
  refine Ct.of gmX5_notNow (ls := [.ref (b 0), hole, hole]) rfl rfl (Nat.le_of_ble_eq_true rfl) ?_
  intro X hX Q hQ
  refine gq_aload_n hX dX5_notNow_0 rfl rfl rfl ?_
  refine gq_getf hX dX5_notNow_1 rfl fX5_39 (mqR0 hb) rfl ?_
  refine gq_iconst (v := nI 0) hX dX5_notNow_4 rfl (by decide) ?_
  refine gq_ialdN hX dX5_notNow_5 rfl (mqR8 hb) rfl (by omega) (Nat.le_of_ble_eq_true rfl) ?_
  rw [h0]
  refine gq_istore_n hX dX5_notNow_6 rfl rfl (Nat.le_of_ble_eq_true rfl) rfl ?_
  refine gq_aload_n hX dX5_notNow_7 rfl rfl rfl ?_
  refine gq_getf hX dX5_notNow_8 rfl fX5_39 (mqR0 hb) rfl ?_
  refine gq_iconst (v := nI 1) hX dX5_notNow_11 rfl (by decide) ?_
  refine gq_ialdN hX dX5_notNow_12 rfl (mqR8 hb) rfl (by omega) (Nat.le_of_ble_eq_true rfl) ?_
  rw [h1]
  refine gq_istore_n hX dX5_notNow_13 rfl rfl (Nat.le_of_ble_eq_true rfl) rfl ?_
  refine gq_aload_n hX dX5_notNow_14 rfl rfl rfl ?_
  refine gq_getf hX dX5_notNow_15 rfl fX5_254 (mqR0 hb) rfl ?_
  rw [hs]
  refine gq_tableIn (tgt := 120) (off := 102) hX dX5_notNow_18 (by decide) (by decide) (by decide +kernel) rfl ?_
  refine gq_aload_n hX dX5_notNow_120 rfl rfl rfl ?_
  refine gq_iload_n hX dX5_notNow_121 rfl rfl rfl ?_
  refine gq_callVe hX dX5_notNow_122 rfl vX5_75 (mt_notCom hb hwf _) rfl (mqR0 hb) rfl rfl (Nat.le_of_ble_eq_true rfl) ⟨(Nat.le_of_ble_eq_true rfl), (Nat.le_of_ble_eq_true rfl)⟩ (Nat.zero_add _) (Nat.zero_add _) ?_
  exact gq_iret hX hQ dX5_notNow_125 rfl ⟨rfl, rfl⟩

set_option maxRecDepth 100000 in
set_option maxHeartbeats 4000000 in
theorem mn_1 {E : Ev} {b : Nat → Nat} {T : St} {M : Hp} (hb : Lay E 9 b) {S : St} {nc nt no : Nat} (hwf : Wf S nc nt no) (hn : Nar S) (hse : SecOk S nc no) (hs : T.1 10 = nI 116) {p0 p1 : Int32} (h0 : T.2 8 0 = p0) (h1 : T.2 8 1 = p1) : Ct E mX5_notNow [.ref (b 0)] (MdW E b T (wOf S nc nt no) M) (eqR (some (.int (xF (S, nc, nt, no) 1 p0 p1))) (MdW E b T (wOf S nc nt no) M)) 0 0 := by
  refine Ct.of gmX5_notNow (ls := [.ref (b 0), hole, hole]) rfl rfl (Nat.le_of_ble_eq_true rfl) ?_
  intro X hX Q hQ
  refine gq_aload_n hX dX5_notNow_0 rfl rfl rfl ?_
  refine gq_getf hX dX5_notNow_1 rfl fX5_39 (mqR0 hb) rfl ?_
  refine gq_iconst (v := nI 0) hX dX5_notNow_4 rfl (by decide) ?_
  refine gq_ialdN hX dX5_notNow_5 rfl (mqR8 hb) rfl (by omega) (Nat.le_of_ble_eq_true rfl) ?_
  rw [h0]
  refine gq_istore_n hX dX5_notNow_6 rfl rfl (Nat.le_of_ble_eq_true rfl) rfl ?_
  refine gq_aload_n hX dX5_notNow_7 rfl rfl rfl ?_
  refine gq_getf hX dX5_notNow_8 rfl fX5_39 (mqR0 hb) rfl ?_
  refine gq_iconst (v := nI 1) hX dX5_notNow_11 rfl (by decide) ?_
  refine gq_ialdN hX dX5_notNow_12 rfl (mqR8 hb) rfl (by omega) (Nat.le_of_ble_eq_true rfl) ?_
  rw [h1]
  refine gq_istore_n hX dX5_notNow_13 rfl rfl (Nat.le_of_ble_eq_true rfl) rfl ?_
  refine gq_aload_n hX dX5_notNow_14 rfl rfl rfl ?_
  refine gq_getf hX dX5_notNow_15 rfl fX5_254 (mqR0 hb) rfl ?_
  rw [hs]
  refine gq_tableIn (tgt := 126) (off := 108) hX dX5_notNow_18 (by decide) (by decide) (by decide +kernel) rfl ?_
  refine gq_aload_n hX dX5_notNow_126 rfl rfl rfl ?_
  refine gq_iload_n hX dX5_notNow_127 rfl rfl rfl ?_
  refine gq_callVe hX dX5_notNow_128 rfl vX5_88 (mt_notTail hb hwf _) rfl (mqR0 hb) rfl rfl (Nat.le_of_ble_eq_true rfl) ⟨(Nat.le_of_ble_eq_true rfl), (Nat.le_of_ble_eq_true rfl)⟩ (Nat.zero_add _) (Nat.zero_add _) ?_
  exact gq_iret hX hQ dX5_notNow_131 rfl ⟨rfl, rfl⟩

set_option maxRecDepth 100000 in
set_option maxHeartbeats 4000000 in
theorem mn_2 {E : Ev} {b : Nat → Nat} {T : St} {M : Hp} (hb : Lay E 9 b) {S : St} {nc nt no : Nat} (hwf : Wf S nc nt no) (hn : Nar S) (hse : SecOk S nc no) (hs : T.1 10 = nI 112) {p0 p1 : Int32} (h0 : T.2 8 0 = p0) (h1 : T.2 8 1 = p1) : Ct E mX5_notNow [.ref (b 0)] (MdW E b T (wOf S nc nt no) M) (eqR (some (.int (xF (S, nc, nt, no) 2 p0 p1))) (MdW E b T (wOf S nc nt no) M)) 0 0 := by
  refine Ct.of gmX5_notNow (ls := [.ref (b 0), hole, hole]) rfl rfl (Nat.le_of_ble_eq_true rfl) ?_
  intro X hX Q hQ
  refine gq_aload_n hX dX5_notNow_0 rfl rfl rfl ?_
  refine gq_getf hX dX5_notNow_1 rfl fX5_39 (mqR0 hb) rfl ?_
  refine gq_iconst (v := nI 0) hX dX5_notNow_4 rfl (by decide) ?_
  refine gq_ialdN hX dX5_notNow_5 rfl (mqR8 hb) rfl (by omega) (Nat.le_of_ble_eq_true rfl) ?_
  rw [h0]
  refine gq_istore_n hX dX5_notNow_6 rfl rfl (Nat.le_of_ble_eq_true rfl) rfl ?_
  refine gq_aload_n hX dX5_notNow_7 rfl rfl rfl ?_
  refine gq_getf hX dX5_notNow_8 rfl fX5_39 (mqR0 hb) rfl ?_
  refine gq_iconst (v := nI 1) hX dX5_notNow_11 rfl (by decide) ?_
  refine gq_ialdN hX dX5_notNow_12 rfl (mqR8 hb) rfl (by omega) (Nat.le_of_ble_eq_true rfl) ?_
  rw [h1]
  refine gq_istore_n hX dX5_notNow_13 rfl rfl (Nat.le_of_ble_eq_true rfl) rfl ?_
  refine gq_aload_n hX dX5_notNow_14 rfl rfl rfl ?_
  refine gq_getf hX dX5_notNow_15 rfl fX5_254 (mqR0 hb) rfl ?_
  rw [hs]
  refine gq_tableIn (tgt := 132) (off := 114) hX dX5_notNow_18 (by decide) (by decide) (by decide +kernel) rfl ?_
  refine gq_aload_n hX dX5_notNow_132 rfl rfl rfl ?_
  refine gq_iload_n hX dX5_notNow_133 rfl rfl rfl ?_
  refine gq_iload_n hX dX5_notNow_134 rfl rfl rfl ?_
  refine gq_callVe hX dX5_notNow_135 rfl vX5_98 (mt_notPay hb hwf _ _) rfl (mqR0 hb) rfl rfl (Nat.le_of_ble_eq_true rfl) ⟨(Nat.le_of_ble_eq_true rfl), (Nat.le_of_ble_eq_true rfl)⟩ (Nat.zero_add _) (Nat.zero_add _) ?_
  exact gq_iret hX hQ dX5_notNow_138 rfl ⟨rfl, rfl⟩

set_option maxRecDepth 100000 in
set_option maxHeartbeats 4000000 in
theorem mn_3 {E : Ev} {b : Nat → Nat} {T : St} {M : Hp} (hb : Lay E 9 b) {S : St} {nc nt no : Nat} (hwf : Wf S nc nt no) (hn : Nar S) (hse : SecOk S nc no) (hs : T.1 10 = nI 108) {p0 p1 : Int32} (h0 : T.2 8 0 = p0) (h1 : T.2 8 1 = p1) : Ct E mX5_notNow [.ref (b 0)] (MdW E b T (wOf S nc nt no) M) (eqR (some (.int (xF (S, nc, nt, no) 3 p0 p1))) (MdW E b T (wOf S nc nt no) M)) 0 0 := by
  refine Ct.of gmX5_notNow (ls := [.ref (b 0), hole, hole]) rfl rfl (Nat.le_of_ble_eq_true rfl) ?_
  intro X hX Q hQ
  refine gq_aload_n hX dX5_notNow_0 rfl rfl rfl ?_
  refine gq_getf hX dX5_notNow_1 rfl fX5_39 (mqR0 hb) rfl ?_
  refine gq_iconst (v := nI 0) hX dX5_notNow_4 rfl (by decide) ?_
  refine gq_ialdN hX dX5_notNow_5 rfl (mqR8 hb) rfl (by omega) (Nat.le_of_ble_eq_true rfl) ?_
  rw [h0]
  refine gq_istore_n hX dX5_notNow_6 rfl rfl (Nat.le_of_ble_eq_true rfl) rfl ?_
  refine gq_aload_n hX dX5_notNow_7 rfl rfl rfl ?_
  refine gq_getf hX dX5_notNow_8 rfl fX5_39 (mqR0 hb) rfl ?_
  refine gq_iconst (v := nI 1) hX dX5_notNow_11 rfl (by decide) ?_
  refine gq_ialdN hX dX5_notNow_12 rfl (mqR8 hb) rfl (by omega) (Nat.le_of_ble_eq_true rfl) ?_
  rw [h1]
  refine gq_istore_n hX dX5_notNow_13 rfl rfl (Nat.le_of_ble_eq_true rfl) rfl ?_
  refine gq_aload_n hX dX5_notNow_14 rfl rfl rfl ?_
  refine gq_getf hX dX5_notNow_15 rfl fX5_254 (mqR0 hb) rfl ?_
  rw [hs]
  refine gq_tableIn (tgt := 139) (off := 121) hX dX5_notNow_18 (by decide) (by decide) (by decide +kernel) rfl ?_
  refine gq_aload_n hX dX5_notNow_139 rfl rfl rfl ?_
  refine gq_iload_n hX dX5_notNow_140 rfl rfl rfl ?_
  refine gq_callVe hX dX5_notNow_141 rfl vX5_111 (mt_notLaunch hb hwf hn _) rfl (mqR0 hb) rfl rfl (Nat.le_of_ble_eq_true rfl) ⟨(Nat.le_of_ble_eq_true rfl), (Nat.le_of_ble_eq_true rfl)⟩ (Nat.zero_add _) (Nat.zero_add _) ?_
  exact gq_iret hX hQ dX5_notNow_144 rfl ⟨rfl, rfl⟩

set_option maxRecDepth 100000 in
set_option maxHeartbeats 4000000 in
theorem mn_4 {E : Ev} {b : Nat → Nat} {T : St} {M : Hp} (hb : Lay E 9 b) {S : St} {nc nt no : Nat} (hwf : Wf S nc nt no) (hn : Nar S) (hse : SecOk S nc no) (hs : T.1 10 = nI 114) {p0 p1 : Int32} (h0 : T.2 8 0 = p0) (h1 : T.2 8 1 = p1) : Ct E mX5_notNow [.ref (b 0)] (MdW E b T (wOf S nc nt no) M) (eqR (some (.int (xF (S, nc, nt, no) 4 p0 p1))) (MdW E b T (wOf S nc nt no) M)) 0 0 := by
  refine Ct.of gmX5_notNow (ls := [.ref (b 0), hole, hole]) rfl rfl (Nat.le_of_ble_eq_true rfl) ?_
  intro X hX Q hQ
  refine gq_aload_n hX dX5_notNow_0 rfl rfl rfl ?_
  refine gq_getf hX dX5_notNow_1 rfl fX5_39 (mqR0 hb) rfl ?_
  refine gq_iconst (v := nI 0) hX dX5_notNow_4 rfl (by decide) ?_
  refine gq_ialdN hX dX5_notNow_5 rfl (mqR8 hb) rfl (by omega) (Nat.le_of_ble_eq_true rfl) ?_
  rw [h0]
  refine gq_istore_n hX dX5_notNow_6 rfl rfl (Nat.le_of_ble_eq_true rfl) rfl ?_
  refine gq_aload_n hX dX5_notNow_7 rfl rfl rfl ?_
  refine gq_getf hX dX5_notNow_8 rfl fX5_39 (mqR0 hb) rfl ?_
  refine gq_iconst (v := nI 1) hX dX5_notNow_11 rfl (by decide) ?_
  refine gq_ialdN hX dX5_notNow_12 rfl (mqR8 hb) rfl (by omega) (Nat.le_of_ble_eq_true rfl) ?_
  rw [h1]
  refine gq_istore_n hX dX5_notNow_13 rfl rfl (Nat.le_of_ble_eq_true rfl) rfl ?_
  refine gq_aload_n hX dX5_notNow_14 rfl rfl rfl ?_
  refine gq_getf hX dX5_notNow_15 rfl fX5_254 (mqR0 hb) rfl ?_
  rw [hs]
  refine gq_tableIn (tgt := 145) (off := 127) hX dX5_notNow_18 (by decide) (by decide) (by decide +kernel) rfl ?_
  refine gq_aload_n hX dX5_notNow_145 rfl rfl rfl ?_
  refine gq_iload_n hX dX5_notNow_146 rfl rfl rfl ?_
  refine gq_iconst (v := nI 0) hX dX5_notNow_147 rfl (by decide) ?_
  refine gq_iload_n hX dX5_notNow_148 rfl rfl rfl ?_
  refine gq_callVe hX dX5_notNow_149 rfl vX5_123 (mt_notMove0 hb hwf _ _) rfl (mqR0 hb) rfl rfl (Nat.le_of_ble_eq_true rfl) ⟨(Nat.le_of_ble_eq_true rfl), (Nat.le_of_ble_eq_true rfl)⟩ (Nat.zero_add _) (Nat.zero_add _) ?_
  exact gq_iret hX hQ dX5_notNow_152 rfl ⟨rfl, rfl⟩

set_option maxRecDepth 100000 in
set_option maxHeartbeats 4000000 in
theorem mn_5 {E : Ev} {b : Nat → Nat} {T : St} {M : Hp} (hb : Lay E 9 b) {S : St} {nc nt no : Nat} (hwf : Wf S nc nt no) (hn : Nar S) (hse : SecOk S nc no) (hs : T.1 10 = nI 98) {p0 p1 : Int32} (h0 : T.2 8 0 = p0) (h1 : T.2 8 1 = p1) : Ct E mX5_notNow [.ref (b 0)] (MdW E b T (wOf S nc nt no) M) (eqR (some (.int (xF (S, nc, nt, no) 5 p0 p1))) (MdW E b T (wOf S nc nt no) M)) 0 0 := by
  refine Ct.of gmX5_notNow (ls := [.ref (b 0), hole, hole]) rfl rfl (Nat.le_of_ble_eq_true rfl) ?_
  intro X hX Q hQ
  refine gq_aload_n hX dX5_notNow_0 rfl rfl rfl ?_
  refine gq_getf hX dX5_notNow_1 rfl fX5_39 (mqR0 hb) rfl ?_
  refine gq_iconst (v := nI 0) hX dX5_notNow_4 rfl (by decide) ?_
  refine gq_ialdN hX dX5_notNow_5 rfl (mqR8 hb) rfl (by omega) (Nat.le_of_ble_eq_true rfl) ?_
  rw [h0]
  refine gq_istore_n hX dX5_notNow_6 rfl rfl (Nat.le_of_ble_eq_true rfl) rfl ?_
  refine gq_aload_n hX dX5_notNow_7 rfl rfl rfl ?_
  refine gq_getf hX dX5_notNow_8 rfl fX5_39 (mqR0 hb) rfl ?_
  refine gq_iconst (v := nI 1) hX dX5_notNow_11 rfl (by decide) ?_
  refine gq_ialdN hX dX5_notNow_12 rfl (mqR8 hb) rfl (by omega) (Nat.le_of_ble_eq_true rfl) ?_
  rw [h1]
  refine gq_istore_n hX dX5_notNow_13 rfl rfl (Nat.le_of_ble_eq_true rfl) rfl ?_
  refine gq_aload_n hX dX5_notNow_14 rfl rfl rfl ?_
  refine gq_getf hX dX5_notNow_15 rfl fX5_254 (mqR0 hb) rfl ?_
  rw [hs]
  refine gq_tableIn (tgt := 153) (off := 135) hX dX5_notNow_18 (by decide) (by decide) (by decide +kernel) rfl ?_
  refine gq_aload_n hX dX5_notNow_153 rfl rfl rfl ?_
  refine gq_iload_n hX dX5_notNow_154 rfl rfl rfl ?_
  refine gq_iconst (v := nI 1) hX dX5_notNow_155 rfl (by decide) ?_
  refine gq_iload_n hX dX5_notNow_156 rfl rfl rfl ?_
  refine gq_callVe hX dX5_notNow_157 rfl vX5_123 (mt_notMove1 hb hwf _ _) rfl (mqR0 hb) rfl rfl (Nat.le_of_ble_eq_true rfl) ⟨(Nat.le_of_ble_eq_true rfl), (Nat.le_of_ble_eq_true rfl)⟩ (Nat.zero_add _) (Nat.zero_add _) ?_
  exact gq_iret hX hQ dX5_notNow_160 rfl ⟨rfl, rfl⟩

set_option maxRecDepth 100000 in
set_option maxHeartbeats 4000000 in
theorem mn_6 {E : Ev} {b : Nat → Nat} {T : St} {M : Hp} (hb : Lay E 9 b) {S : St} {nc nt no : Nat} (hwf : Wf S nc nt no) (hn : Nar S) (hse : SecOk S nc no) (hs : T.1 10 = nI 103) {p0 p1 : Int32} (h0 : T.2 8 0 = p0) (h1 : T.2 8 1 = p1) : Ct E mX5_notNow [.ref (b 0)] (MdW E b T (wOf S nc nt no) M) (eqR (some (.int (xF (S, nc, nt, no) 6 p0 p1))) (MdW E b T (wOf S nc nt no) M)) 0 0 := by
  refine Ct.of gmX5_notNow (ls := [.ref (b 0), hole, hole]) rfl rfl (Nat.le_of_ble_eq_true rfl) ?_
  intro X hX Q hQ
  refine gq_aload_n hX dX5_notNow_0 rfl rfl rfl ?_
  refine gq_getf hX dX5_notNow_1 rfl fX5_39 (mqR0 hb) rfl ?_
  refine gq_iconst (v := nI 0) hX dX5_notNow_4 rfl (by decide) ?_
  refine gq_ialdN hX dX5_notNow_5 rfl (mqR8 hb) rfl (by omega) (Nat.le_of_ble_eq_true rfl) ?_
  rw [h0]
  refine gq_istore_n hX dX5_notNow_6 rfl rfl (Nat.le_of_ble_eq_true rfl) rfl ?_
  refine gq_aload_n hX dX5_notNow_7 rfl rfl rfl ?_
  refine gq_getf hX dX5_notNow_8 rfl fX5_39 (mqR0 hb) rfl ?_
  refine gq_iconst (v := nI 1) hX dX5_notNow_11 rfl (by decide) ?_
  refine gq_ialdN hX dX5_notNow_12 rfl (mqR8 hb) rfl (by omega) (Nat.le_of_ble_eq_true rfl) ?_
  rw [h1]
  refine gq_istore_n hX dX5_notNow_13 rfl rfl (Nat.le_of_ble_eq_true rfl) rfl ?_
  refine gq_aload_n hX dX5_notNow_14 rfl rfl rfl ?_
  refine gq_getf hX dX5_notNow_15 rfl fX5_254 (mqR0 hb) rfl ?_
  rw [hs]
  refine gq_tableIn (tgt := 161) (off := 143) hX dX5_notNow_18 (by decide) (by decide) (by decide +kernel) rfl ?_
  refine gq_aload_n hX dX5_notNow_161 rfl rfl rfl ?_
  refine gq_iload_n hX dX5_notNow_162 rfl rfl rfl ?_
  refine gq_iconst (v := nI 2) hX dX5_notNow_163 rfl (by decide) ?_
  refine gq_iload_n hX dX5_notNow_164 rfl rfl rfl ?_
  refine gq_callVe hX dX5_notNow_165 rfl vX5_123 (mt_notMove2 hb hwf _ _) rfl (mqR0 hb) rfl rfl (Nat.le_of_ble_eq_true rfl) ⟨(Nat.le_of_ble_eq_true rfl), (Nat.le_of_ble_eq_true rfl)⟩ (Nat.zero_add _) (Nat.zero_add _) ?_
  exact gq_iret hX hQ dX5_notNow_168 rfl ⟨rfl, rfl⟩

set_option maxRecDepth 100000 in
set_option maxHeartbeats 4000000 in
theorem mn_7 {E : Ev} {b : Nat → Nat} {T : St} {M : Hp} (hb : Lay E 9 b) {S : St} {nc nt no : Nat} (hwf : Wf S nc nt no) (hn : Nar S) (hse : SecOk S nc no) (hs : T.1 10 = nI 115) {p0 p1 : Int32} (h0 : T.2 8 0 = p0) (h1 : T.2 8 1 = p1) : Ct E mX5_notNow [.ref (b 0)] (MdW E b T (wOf S nc nt no) M) (eqR (some (.int (xF (S, nc, nt, no) 7 p0 p1))) (MdW E b T (wOf S nc nt no) M)) 0 0 := by
  refine Ct.of gmX5_notNow (ls := [.ref (b 0), hole, hole]) rfl rfl (Nat.le_of_ble_eq_true rfl) ?_
  intro X hX Q hQ
  refine gq_aload_n hX dX5_notNow_0 rfl rfl rfl ?_
  refine gq_getf hX dX5_notNow_1 rfl fX5_39 (mqR0 hb) rfl ?_
  refine gq_iconst (v := nI 0) hX dX5_notNow_4 rfl (by decide) ?_
  refine gq_ialdN hX dX5_notNow_5 rfl (mqR8 hb) rfl (by omega) (Nat.le_of_ble_eq_true rfl) ?_
  rw [h0]
  refine gq_istore_n hX dX5_notNow_6 rfl rfl (Nat.le_of_ble_eq_true rfl) rfl ?_
  refine gq_aload_n hX dX5_notNow_7 rfl rfl rfl ?_
  refine gq_getf hX dX5_notNow_8 rfl fX5_39 (mqR0 hb) rfl ?_
  refine gq_iconst (v := nI 1) hX dX5_notNow_11 rfl (by decide) ?_
  refine gq_ialdN hX dX5_notNow_12 rfl (mqR8 hb) rfl (by omega) (Nat.le_of_ble_eq_true rfl) ?_
  rw [h1]
  refine gq_istore_n hX dX5_notNow_13 rfl rfl (Nat.le_of_ble_eq_true rfl) rfl ?_
  refine gq_aload_n hX dX5_notNow_14 rfl rfl rfl ?_
  refine gq_getf hX dX5_notNow_15 rfl fX5_254 (mqR0 hb) rfl ?_
  rw [hs]
  refine gq_tableIn (tgt := 169) (off := 151) hX dX5_notNow_18 (by decide) (by decide) (by decide +kernel) rfl ?_
  refine gq_aload_n hX dX5_notNow_169 rfl rfl rfl ?_
  refine gq_iload_n hX dX5_notNow_170 rfl rfl rfl ?_
  refine gq_iload_n hX dX5_notNow_171 rfl rfl rfl ?_
  refine gq_callVe hX dX5_notNow_172 rfl vX5_136 (mt_notSecond hb hwf hse _ _) rfl (mqR0 hb) rfl rfl (Nat.le_of_ble_eq_true rfl) ⟨(Nat.le_of_ble_eq_true rfl), (Nat.le_of_ble_eq_true rfl)⟩ (Nat.zero_add _) (Nat.zero_add _) ?_
  exact gq_iret hX hQ dX5_notNow_175 rfl ⟨rfl, rfl⟩

set_option maxRecDepth 100000 in
set_option maxHeartbeats 4000000 in
theorem mn_8 {E : Ev} {b : Nat → Nat} {T : St} {M : Hp} (hb : Lay E 9 b) {S : St} {nc nt no : Nat} (hwf : Wf S nc nt no) (hn : Nar S) (hse : SecOk S nc no) (hs : T.1 10 = nI 110) {p0 p1 : Int32} (h0 : T.2 8 0 = p0) (h1 : T.2 8 1 = p1) : Ct E mX5_notNow [.ref (b 0)] (MdW E b T (wOf S nc nt no) M) (eqR (some (.int (xF (S, nc, nt, no) 8 p0 p1))) (MdW E b T (wOf S nc nt no) M)) 0 0 := by
  refine Ct.of gmX5_notNow (ls := [.ref (b 0), hole, hole]) rfl rfl (Nat.le_of_ble_eq_true rfl) ?_
  intro X hX Q hQ
  refine gq_aload_n hX dX5_notNow_0 rfl rfl rfl ?_
  refine gq_getf hX dX5_notNow_1 rfl fX5_39 (mqR0 hb) rfl ?_
  refine gq_iconst (v := nI 0) hX dX5_notNow_4 rfl (by decide) ?_
  refine gq_ialdN hX dX5_notNow_5 rfl (mqR8 hb) rfl (by omega) (Nat.le_of_ble_eq_true rfl) ?_
  rw [h0]
  refine gq_istore_n hX dX5_notNow_6 rfl rfl (Nat.le_of_ble_eq_true rfl) rfl ?_
  refine gq_aload_n hX dX5_notNow_7 rfl rfl rfl ?_
  refine gq_getf hX dX5_notNow_8 rfl fX5_39 (mqR0 hb) rfl ?_
  refine gq_iconst (v := nI 1) hX dX5_notNow_11 rfl (by decide) ?_
  refine gq_ialdN hX dX5_notNow_12 rfl (mqR8 hb) rfl (by omega) (Nat.le_of_ble_eq_true rfl) ?_
  rw [h1]
  refine gq_istore_n hX dX5_notNow_13 rfl rfl (Nat.le_of_ble_eq_true rfl) rfl ?_
  refine gq_aload_n hX dX5_notNow_14 rfl rfl rfl ?_
  refine gq_getf hX dX5_notNow_15 rfl fX5_254 (mqR0 hb) rfl ?_
  rw [hs]
  refine gq_tableIn (tgt := 176) (off := 158) hX dX5_notNow_18 (by decide) (by decide) (by decide +kernel) rfl ?_
  refine gq_aload_n hX dX5_notNow_176 rfl rfl rfl ?_
  refine gq_iload_n hX dX5_notNow_177 rfl rfl rfl ?_
  refine gq_callVe hX dX5_notNow_178 rfl vX5_146 (mt_notUntable hb hwf _) rfl (mqR0 hb) rfl rfl (Nat.le_of_ble_eq_true rfl) ⟨(Nat.le_of_ble_eq_true rfl), (Nat.le_of_ble_eq_true rfl)⟩ (Nat.zero_add _) (Nat.zero_add _) ?_
  exact gq_iret hX hQ dX5_notNow_181 rfl ⟨rfl, rfl⟩

set_option maxRecDepth 100000 in
set_option maxHeartbeats 4000000 in
theorem mn_9 {E : Ev} {b : Nat → Nat} {T : St} {M : Hp} (hb : Lay E 9 b) {S : St} {nc nt no : Nat} (hwf : Wf S nc nt no) (hn : Nar S) (hse : SecOk S nc no) (hs : T.1 10 = nI 119) {p0 p1 : Int32} (h0 : T.2 8 0 = p0) (h1 : T.2 8 1 = p1) : Ct E mX5_notNow [.ref (b 0)] (MdW E b T (wOf S nc nt no) M) (eqR (some (.int (xF (S, nc, nt, no) 9 p0 p1))) (MdW E b T (wOf S nc nt no) M)) 0 0 := by
  refine Ct.of gmX5_notNow (ls := [.ref (b 0), hole, hole]) rfl rfl (Nat.le_of_ble_eq_true rfl) ?_
  intro X hX Q hQ
  refine gq_aload_n hX dX5_notNow_0 rfl rfl rfl ?_
  refine gq_getf hX dX5_notNow_1 rfl fX5_39 (mqR0 hb) rfl ?_
  refine gq_iconst (v := nI 0) hX dX5_notNow_4 rfl (by decide) ?_
  refine gq_ialdN hX dX5_notNow_5 rfl (mqR8 hb) rfl (by omega) (Nat.le_of_ble_eq_true rfl) ?_
  rw [h0]
  refine gq_istore_n hX dX5_notNow_6 rfl rfl (Nat.le_of_ble_eq_true rfl) rfl ?_
  refine gq_aload_n hX dX5_notNow_7 rfl rfl rfl ?_
  refine gq_getf hX dX5_notNow_8 rfl fX5_39 (mqR0 hb) rfl ?_
  refine gq_iconst (v := nI 1) hX dX5_notNow_11 rfl (by decide) ?_
  refine gq_ialdN hX dX5_notNow_12 rfl (mqR8 hb) rfl (by omega) (Nat.le_of_ble_eq_true rfl) ?_
  rw [h1]
  refine gq_istore_n hX dX5_notNow_13 rfl rfl (Nat.le_of_ble_eq_true rfl) rfl ?_
  refine gq_aload_n hX dX5_notNow_14 rfl rfl rfl ?_
  refine gq_getf hX dX5_notNow_15 rfl fX5_254 (mqR0 hb) rfl ?_
  rw [hs]
  refine gq_tableIn (tgt := 182) (off := 164) hX dX5_notNow_18 (by decide) (by decide) (by decide +kernel) rfl ?_
  refine gq_aload_n hX dX5_notNow_182 rfl rfl rfl ?_
  refine gq_iload_n hX dX5_notNow_183 rfl rfl rfl ?_
  refine gq_callVe hX dX5_notNow_184 rfl vX5_156 (mt_notWithdraw hb hwf _) rfl (mqR0 hb) rfl rfl (Nat.le_of_ble_eq_true rfl) ⟨(Nat.le_of_ble_eq_true rfl), (Nat.le_of_ble_eq_true rfl)⟩ (Nat.zero_add _) (Nat.zero_add _) ?_
  exact gq_iret hX hQ dX5_notNow_187 rfl ⟨rfl, rfl⟩

set_option maxRecDepth 100000 in
set_option maxHeartbeats 4000000 in
theorem mn_10 {E : Ev} {b : Nat → Nat} {T : St} {M : Hp} (hb : Lay E 9 b) {S : St} {nc nt no : Nat} (hwf : Wf S nc nt no) (hn : Nar S) (hse : SecOk S nc no) (hs : T.1 10 = nI 118) {p0 p1 : Int32} (h0 : T.2 8 0 = p0) (h1 : T.2 8 1 = p1) : Ct E mX5_notNow [.ref (b 0)] (MdW E b T (wOf S nc nt no) M) (eqR (some (.int (xF (S, nc, nt, no) 10 p0 p1))) (MdW E b T (wOf S nc nt no) M)) 0 0 := by
  refine Ct.of gmX5_notNow (ls := [.ref (b 0), hole, hole]) rfl rfl (Nat.le_of_ble_eq_true rfl) ?_
  intro X hX Q hQ
  refine gq_aload_n hX dX5_notNow_0 rfl rfl rfl ?_
  refine gq_getf hX dX5_notNow_1 rfl fX5_39 (mqR0 hb) rfl ?_
  refine gq_iconst (v := nI 0) hX dX5_notNow_4 rfl (by decide) ?_
  refine gq_ialdN hX dX5_notNow_5 rfl (mqR8 hb) rfl (by omega) (Nat.le_of_ble_eq_true rfl) ?_
  rw [h0]
  refine gq_istore_n hX dX5_notNow_6 rfl rfl (Nat.le_of_ble_eq_true rfl) rfl ?_
  refine gq_aload_n hX dX5_notNow_7 rfl rfl rfl ?_
  refine gq_getf hX dX5_notNow_8 rfl fX5_39 (mqR0 hb) rfl ?_
  refine gq_iconst (v := nI 1) hX dX5_notNow_11 rfl (by decide) ?_
  refine gq_ialdN hX dX5_notNow_12 rfl (mqR8 hb) rfl (by omega) (Nat.le_of_ble_eq_true rfl) ?_
  rw [h1]
  refine gq_istore_n hX dX5_notNow_13 rfl rfl (Nat.le_of_ble_eq_true rfl) rfl ?_
  refine gq_aload_n hX dX5_notNow_14 rfl rfl rfl ?_
  refine gq_getf hX dX5_notNow_15 rfl fX5_254 (mqR0 hb) rfl ?_
  rw [hs]
  refine gq_tableIn (tgt := 188) (off := 170) hX dX5_notNow_18 (by decide) (by decide) (by decide +kernel) rfl ?_
  refine gq_aload_n hX dX5_notNow_188 rfl rfl rfl ?_
  refine gq_iload_n hX dX5_notNow_189 rfl rfl rfl ?_
  refine gq_callVe hX dX5_notNow_190 rfl vX5_177 (mt_notVote hb hwf hn _) rfl (mqR0 hb) rfl rfl (Nat.le_of_ble_eq_true rfl) ⟨(Nat.le_of_ble_eq_true rfl), (Nat.le_of_ble_eq_true rfl)⟩ (Nat.zero_add _) (Nat.zero_add _) ?_
  exact gq_iret hX hQ dX5_notNow_193 rfl ⟨rfl, rfl⟩

set_option maxRecDepth 100000 in
set_option maxHeartbeats 4000000 in
theorem mn_11 {E : Ev} {b : Nat → Nat} {T : St} {M : Hp} (hb : Lay E 9 b) {S : St} {nc nt no : Nat} (hwf : Wf S nc nt no) (hn : Nar S) (hse : SecOk S nc no) (hs : T.1 10 = nI 117) {p0 p1 : Int32} (h0 : T.2 8 0 = p0) (h1 : T.2 8 1 = p1) : Ct E mX5_notNow [.ref (b 0)] (MdW E b T (wOf S nc nt no) M) (eqR (some (.int (xF (S, nc, nt, no) 11 p0 p1))) (MdW E b T (wOf S nc nt no) M)) 0 0 := by
  refine Ct.of gmX5_notNow (ls := [.ref (b 0), hole, hole]) rfl rfl (Nat.le_of_ble_eq_true rfl) ?_
  intro X hX Q hQ
  refine gq_aload_n hX dX5_notNow_0 rfl rfl rfl ?_
  refine gq_getf hX dX5_notNow_1 rfl fX5_39 (mqR0 hb) rfl ?_
  refine gq_iconst (v := nI 0) hX dX5_notNow_4 rfl (by decide) ?_
  refine gq_ialdN hX dX5_notNow_5 rfl (mqR8 hb) rfl (by omega) (Nat.le_of_ble_eq_true rfl) ?_
  rw [h0]
  refine gq_istore_n hX dX5_notNow_6 rfl rfl (Nat.le_of_ble_eq_true rfl) rfl ?_
  refine gq_aload_n hX dX5_notNow_7 rfl rfl rfl ?_
  refine gq_getf hX dX5_notNow_8 rfl fX5_39 (mqR0 hb) rfl ?_
  refine gq_iconst (v := nI 1) hX dX5_notNow_11 rfl (by decide) ?_
  refine gq_ialdN hX dX5_notNow_12 rfl (mqR8 hb) rfl (by omega) (Nat.le_of_ble_eq_true rfl) ?_
  rw [h1]
  refine gq_istore_n hX dX5_notNow_13 rfl rfl (Nat.le_of_ble_eq_true rfl) rfl ?_
  refine gq_aload_n hX dX5_notNow_14 rfl rfl rfl ?_
  refine gq_getf hX dX5_notNow_15 rfl fX5_254 (mqR0 hb) rfl ?_
  rw [hs]
  refine gq_tableIn (tgt := 194) (off := 176) hX dX5_notNow_18 (by decide) (by decide) (by decide +kernel) rfl ?_
  refine gq_iload_n hX dX5_notNow_194 rfl rfl rfl ?_
  refine gq_callSe hX dX5_notNow_195 rfl vX5_186 (mt_notGust _) rfl rfl (Nat.le_of_ble_eq_true rfl) ⟨(Nat.le_of_ble_eq_true rfl), (Nat.le_of_ble_eq_true rfl)⟩ (Nat.zero_add _) (Nat.zero_add _) ?_
  exact gq_iret hX hQ dX5_notNow_198 rfl ⟨rfl, rfl⟩

set_option maxRecDepth 100000 in
set_option maxHeartbeats 4000000 in
theorem mn_12 {E : Ev} {b : Nat → Nat} {T : St} {M : Hp} (hb : Lay E 9 b) {S : St} {nc nt no : Nat} (hwf : Wf S nc nt no) (hn : Nar S) (hse : SecOk S nc no) (hs : T.1 10 = nI 104) {p0 p1 : Int32} (h0 : T.2 8 0 = p0) (h1 : T.2 8 1 = p1) : Ct E mX5_notNow [.ref (b 0)] (MdW E b T (wOf S nc nt no) M) (eqR (some (.int (xF (S, nc, nt, no) 12 p0 p1))) (MdW E b T (wOf S nc nt no) M)) 0 0 := by
  refine Ct.of gmX5_notNow (ls := [.ref (b 0), hole, hole]) rfl rfl (Nat.le_of_ble_eq_true rfl) ?_
  intro X hX Q hQ
  refine gq_aload_n hX dX5_notNow_0 rfl rfl rfl ?_
  refine gq_getf hX dX5_notNow_1 rfl fX5_39 (mqR0 hb) rfl ?_
  refine gq_iconst (v := nI 0) hX dX5_notNow_4 rfl (by decide) ?_
  refine gq_ialdN hX dX5_notNow_5 rfl (mqR8 hb) rfl (by omega) (Nat.le_of_ble_eq_true rfl) ?_
  rw [h0]
  refine gq_istore_n hX dX5_notNow_6 rfl rfl (Nat.le_of_ble_eq_true rfl) rfl ?_
  refine gq_aload_n hX dX5_notNow_7 rfl rfl rfl ?_
  refine gq_getf hX dX5_notNow_8 rfl fX5_39 (mqR0 hb) rfl ?_
  refine gq_iconst (v := nI 1) hX dX5_notNow_11 rfl (by decide) ?_
  refine gq_ialdN hX dX5_notNow_12 rfl (mqR8 hb) rfl (by omega) (Nat.le_of_ble_eq_true rfl) ?_
  rw [h1]
  refine gq_istore_n hX dX5_notNow_13 rfl rfl (Nat.le_of_ble_eq_true rfl) rfl ?_
  refine gq_aload_n hX dX5_notNow_14 rfl rfl rfl ?_
  refine gq_getf hX dX5_notNow_15 rfl fX5_254 (mqR0 hb) rfl ?_
  rw [hs]
  refine gq_tableIn (tgt := 199) (off := 181) hX dX5_notNow_18 (by decide) (by decide) (by decide +kernel) rfl ?_
  refine gq_iload_n hX dX5_notNow_199 rfl rfl rfl ?_
  refine gq_callSe hX dX5_notNow_200 rfl vX5_195 (mt_notPass _) rfl rfl (Nat.le_of_ble_eq_true rfl) ⟨(Nat.le_of_ble_eq_true rfl), (Nat.le_of_ble_eq_true rfl)⟩ (Nat.zero_add _) (Nat.zero_add _) ?_
  exact gq_iret hX hQ dX5_notNow_203 rfl ⟨rfl, rfl⟩

theorem mn_all {E : Ev} {b : Nat → Nat} {T : St} {M : Hp} (hb : Lay E 9 b) {S : St} {nc nt no : Nat} (hwf : Wf S nc nt no) (hn : Nar S) (hse : SecOk S nc no) {kind : Nat} (hk : kind < 13) (hs : T.1 10 = nI (soN kind)) {p0 p1 : Int32} (h0 : T.2 8 0 = p0) (h1 : T.2 8 1 = p1) : Ct E mX5_notNow [.ref (b 0)] (MdW E b T (wOf S nc nt no) M) (eqR (some (.int (xF (S, nc, nt, no) kind p0 p1))) (MdW E b T (wOf S nc nt no) M)) 0 0 := by
  match kind, hk, hs with
  | 0, _, hs => exact mn_0 hb hwf hn hse hs h0 h1
  | 1, _, hs => exact mn_1 hb hwf hn hse hs h0 h1
  | 2, _, hs => exact mn_2 hb hwf hn hse hs h0 h1
  | 3, _, hs => exact mn_3 hb hwf hn hse hs h0 h1
  | 4, _, hs => exact mn_4 hb hwf hn hse hs h0 h1
  | 5, _, hs => exact mn_5 hb hwf hn hse hs h0 h1
  | 6, _, hs => exact mn_6 hb hwf hn hse hs h0 h1
  | 7, _, hs => exact mn_7 hb hwf hn hse hs h0 h1
  | 8, _, hs => exact mn_8 hb hwf hn hse hs h0 h1
  | 9, _, hs => exact mn_9 hb hwf hn hse hs h0 h1
  | 10, _, hs => exact mn_10 hb hwf hn hse hs h0 h1
  | 11, _, hs => exact mn_11 hb hwf hn hse hs h0 h1
  | 12, _, hs => exact mn_12 hb hwf hn hse hs h0 h1
  | n + 13, h, _ => exact absurd h (by omega)

set_option maxRecDepth 100000 in
set_option maxHeartbeats 4000000 in
theorem md_0 {E : Ev} {b : Nat → Nat} {T : St} {M : Hp} (hb : Lay E 9 b) {S : St} {nc nt no : Nat} {B : Nat} (hok : Ok S nc nt no B) (hB : B < 2 ^ 28) (hs : T.1 10 = nI 99) {p0 p1 : Int32} (h0 : T.2 8 0 = p0) (h1 : T.2 8 1 = p1) (hF : xF (S, nc, nt, no) 0 p0 p1 = 0) : Ct E mX5_doesNow [.ref (b 0)] (MdW E b T (wOf S nc nt no) M) (fun r M1 => r.isSome = true ∧ (∀ v, r = some v → v.category = 1) ∧ M1 = MdW E b T (wOf (xD (S, nc, nt, no) 0 p0 p1).1 (xD (S, nc, nt, no) 0 p0 p1).2.1 (xD (S, nc, nt, no) 0 p0 p1).2.2.1 (xD (S, nc, nt, no) 0 p0 p1).2.2.2) M) 0 0 := by
  refine Ct.of gmX5_doesNow (ls := [.ref (b 0), hole, hole]) rfl rfl (Nat.le_of_ble_eq_true rfl) ?_
  intro X hX Q hQ
  obtain ⟨hwf, hn, -, -, -, -, hse, -, -⟩ := id hok
  have hwf2 := hwf
  obtain ⟨hnc, hncl, hnt, hntl, hno, hnol⟩ := hwf2
  have hw0 : wOf S nc nt no 0 = nI nc := hnc
  have hw1 : wOf S nc nt no 1 = nI nt := hnt
  have hw2 : wOf S nc nt no 2 = nI no := hno
  refine gq_aload_n hX dX5_doesNow_0 rfl rfl rfl ?_
  refine gq_getf hX dX5_doesNow_1 rfl fX5_39 (mqR0 hb) rfl ?_
  refine gq_iconst (v := nI 0) hX dX5_doesNow_4 rfl (by decide) ?_
  refine gq_ialdN hX dX5_doesNow_5 rfl (mqR8 hb) rfl (by omega) (Nat.le_of_ble_eq_true rfl) ?_
  rw [h0]
  refine gq_istore_n hX dX5_doesNow_6 rfl rfl (Nat.le_of_ble_eq_true rfl) rfl ?_
  refine gq_aload_n hX dX5_doesNow_7 rfl rfl rfl ?_
  refine gq_getf hX dX5_doesNow_8 rfl fX5_39 (mqR0 hb) rfl ?_
  refine gq_iconst (v := nI 1) hX dX5_doesNow_11 rfl (by decide) ?_
  refine gq_ialdN hX dX5_doesNow_12 rfl (mqR8 hb) rfl (by omega) (Nat.le_of_ble_eq_true rfl) ?_
  rw [h1]
  refine gq_istore_n hX dX5_doesNow_13 rfl rfl (Nat.le_of_ble_eq_true rfl) rfl ?_
  refine gq_aload_n hX dX5_doesNow_14 rfl rfl rfl ?_
  refine gq_getf hX dX5_doesNow_15 rfl fX5_254 (mqR0 hb) rfl ?_
  rw [hs]
  refine gq_tableIn (tgt := 120) (off := 102) hX dX5_doesNow_18 (by decide) (by decide) (by decide +kernel) rfl ?_
  have hlt := (comF_0 hwf hF).1
  refine gq_aload_n hX dX5_doesNow_120 rfl rfl rfl ?_
  refine gq_iload_n hX dX5_doesNow_121 rfl rfl rfl ?_
  refine gq_callVe hX dX5_doesNow_122 rfl vX5_85 (mt_addsCom hb hwf hlt _) rfl (mqR0 hb) rfl rfl (Nat.le_of_ble_eq_true rfl) ⟨(Nat.le_of_ble_eq_true rfl), (Nat.le_of_ble_eq_true rfl)⟩ (Nat.zero_add _) (Nat.zero_add _) ?_
  refine gq_iret hX hQ dX5_doesNow_125 rfl ⟨rfl, fun v h => by cases h; rfl, ?_⟩
  rfl

set_option maxRecDepth 100000 in
set_option maxHeartbeats 4000000 in
theorem md_1 {E : Ev} {b : Nat → Nat} {T : St} {M : Hp} (hb : Lay E 9 b) {S : St} {nc nt no : Nat} {B : Nat} (hok : Ok S nc nt no B) (hB : B < 2 ^ 28) (hs : T.1 10 = nI 116) {p0 p1 : Int32} (h0 : T.2 8 0 = p0) (h1 : T.2 8 1 = p1) (hF : xF (S, nc, nt, no) 1 p0 p1 = 0) : Ct E mX5_doesNow [.ref (b 0)] (MdW E b T (wOf S nc nt no) M) (fun r M1 => r.isSome = true ∧ (∀ v, r = some v → v.category = 1) ∧ M1 = MdW E b T (wOf (xD (S, nc, nt, no) 1 p0 p1).1 (xD (S, nc, nt, no) 1 p0 p1).2.1 (xD (S, nc, nt, no) 1 p0 p1).2.2.1 (xD (S, nc, nt, no) 1 p0 p1).2.2.2) M) 0 0 := by
  refine Ct.of gmX5_doesNow (ls := [.ref (b 0), hole, hole]) rfl rfl (Nat.le_of_ble_eq_true rfl) ?_
  intro X hX Q hQ
  obtain ⟨hwf, hn, -, -, -, -, hse, -, -⟩ := id hok
  have hwf2 := hwf
  obtain ⟨hnc, hncl, hnt, hntl, hno, hnol⟩ := hwf2
  have hw0 : wOf S nc nt no 0 = nI nc := hnc
  have hw1 : wOf S nc nt no 1 = nI nt := hnt
  have hw2 : wOf S nc nt no 2 = nI no := hno
  refine gq_aload_n hX dX5_doesNow_0 rfl rfl rfl ?_
  refine gq_getf hX dX5_doesNow_1 rfl fX5_39 (mqR0 hb) rfl ?_
  refine gq_iconst (v := nI 0) hX dX5_doesNow_4 rfl (by decide) ?_
  refine gq_ialdN hX dX5_doesNow_5 rfl (mqR8 hb) rfl (by omega) (Nat.le_of_ble_eq_true rfl) ?_
  rw [h0]
  refine gq_istore_n hX dX5_doesNow_6 rfl rfl (Nat.le_of_ble_eq_true rfl) rfl ?_
  refine gq_aload_n hX dX5_doesNow_7 rfl rfl rfl ?_
  refine gq_getf hX dX5_doesNow_8 rfl fX5_39 (mqR0 hb) rfl ?_
  refine gq_iconst (v := nI 1) hX dX5_doesNow_11 rfl (by decide) ?_
  refine gq_ialdN hX dX5_doesNow_12 rfl (mqR8 hb) rfl (by omega) (Nat.le_of_ble_eq_true rfl) ?_
  rw [h1]
  refine gq_istore_n hX dX5_doesNow_13 rfl rfl (Nat.le_of_ble_eq_true rfl) rfl ?_
  refine gq_aload_n hX dX5_doesNow_14 rfl rfl rfl ?_
  refine gq_getf hX dX5_doesNow_15 rfl fX5_254 (mqR0 hb) rfl ?_
  rw [hs]
  refine gq_tableIn (tgt := 126) (off := 108) hX dX5_doesNow_18 (by decide) (by decide) (by decide +kernel) rfl ?_
  have hlt := (taiF_0 hwf hF).1
  refine gq_aload_n hX dX5_doesNow_126 rfl rfl rfl ?_
  refine gq_iload_n hX dX5_doesNow_127 rfl rfl rfl ?_
  refine gq_callVe hX dX5_doesNow_128 rfl vX5_91 (mt_addsTail hb hwf hlt _) rfl (mqR0 hb) rfl rfl (Nat.le_of_ble_eq_true rfl) ⟨(Nat.le_of_ble_eq_true rfl), (Nat.le_of_ble_eq_true rfl)⟩ (Nat.zero_add _) (Nat.zero_add _) ?_
  refine gq_iret hX hQ dX5_doesNow_131 rfl ⟨rfl, fun v h => by cases h; rfl, ?_⟩
  rfl

set_option maxRecDepth 100000 in
set_option maxHeartbeats 4000000 in
theorem md_2 {E : Ev} {b : Nat → Nat} {T : St} {M : Hp} (hb : Lay E 9 b) {S : St} {nc nt no : Nat} {B : Nat} (hok : Ok S nc nt no B) (hB : B < 2 ^ 28) (hs : T.1 10 = nI 112) {p0 p1 : Int32} (h0 : T.2 8 0 = p0) (h1 : T.2 8 1 = p1) (hF : xF (S, nc, nt, no) 2 p0 p1 = 0) : Ct E mX5_doesNow [.ref (b 0)] (MdW E b T (wOf S nc nt no) M) (fun r M1 => r.isSome = true ∧ (∀ v, r = some v → v.category = 1) ∧ M1 = MdW E b T (wOf (xD (S, nc, nt, no) 2 p0 p1).1 (xD (S, nc, nt, no) 2 p0 p1).2.1 (xD (S, nc, nt, no) 2 p0 p1).2.2.1 (xD (S, nc, nt, no) 2 p0 p1).2.2.2) M) 0 0 := by
  refine Ct.of gmX5_doesNow (ls := [.ref (b 0), hole, hole]) rfl rfl (Nat.le_of_ble_eq_true rfl) ?_
  intro X hX Q hQ
  obtain ⟨hwf, hn, -, -, -, -, hse, -, -⟩ := id hok
  have hwf2 := hwf
  obtain ⟨hnc, hncl, hnt, hntl, hno, hnol⟩ := hwf2
  have hw0 : wOf S nc nt no 0 = nI nc := hnc
  have hw1 : wOf S nc nt no 1 = nI nt := hnt
  have hw2 : wOf S nc nt no 2 = nI no := hno
  refine gq_aload_n hX dX5_doesNow_0 rfl rfl rfl ?_
  refine gq_getf hX dX5_doesNow_1 rfl fX5_39 (mqR0 hb) rfl ?_
  refine gq_iconst (v := nI 0) hX dX5_doesNow_4 rfl (by decide) ?_
  refine gq_ialdN hX dX5_doesNow_5 rfl (mqR8 hb) rfl (by omega) (Nat.le_of_ble_eq_true rfl) ?_
  rw [h0]
  refine gq_istore_n hX dX5_doesNow_6 rfl rfl (Nat.le_of_ble_eq_true rfl) rfl ?_
  refine gq_aload_n hX dX5_doesNow_7 rfl rfl rfl ?_
  refine gq_getf hX dX5_doesNow_8 rfl fX5_39 (mqR0 hb) rfl ?_
  refine gq_iconst (v := nI 1) hX dX5_doesNow_11 rfl (by decide) ?_
  refine gq_ialdN hX dX5_doesNow_12 rfl (mqR8 hb) rfl (by omega) (Nat.le_of_ble_eq_true rfl) ?_
  rw [h1]
  refine gq_istore_n hX dX5_doesNow_13 rfl rfl (Nat.le_of_ble_eq_true rfl) rfl ?_
  refine gq_aload_n hX dX5_doesNow_14 rfl rfl rfl ?_
  refine gq_getf hX dX5_doesNow_15 rfl fX5_254 (mqR0 hb) rfl ?_
  rw [hs]
  refine gq_tableIn (tgt := 132) (off := 114) hX dX5_doesNow_18 (by decide) (by decide) (by decide +kernel) rfl ?_
  obtain ⟨j, y, hj, rfl, hy1, hy2, rfl, hle⟩ := payF_0 hncl hF
  refine gq_aload_n hX dX5_doesNow_132 rfl rfl rfl ?_
  refine gq_iload_n hX dX5_doesNow_133 rfl rfl rfl ?_
  refine gq_iload_n hX dX5_doesNow_134 rfl rfl rfl ?_
  refine gq_callVe hX dX5_doesNow_135 rfl vX5_101 (mt_pays hb hwf hj _) rfl (mqR0 hb) rfl rfl (Nat.le_of_ble_eq_true rfl) ⟨(Nat.le_of_ble_eq_true rfl), (Nat.le_of_ble_eq_true rfl)⟩ (Nat.zero_add _) (Nat.zero_add _) ?_
  refine gq_iret hX hQ dX5_doesNow_138 rfl ⟨rfl, fun v h => by cases h; rfl, ?_⟩
  show MdW E b T (wOf (payS S j (nI y)) nc nt no) M = MdW E b T (wOf (payS S (nI j).toNatClampNeg (nI y)) nc nt no) M
  rw [nI_clamp (by omega)]

set_option maxRecDepth 100000 in
set_option maxHeartbeats 4000000 in
theorem md_3 {E : Ev} {b : Nat → Nat} {T : St} {M : Hp} (hb : Lay E 9 b) {S : St} {nc nt no : Nat} {B : Nat} (hok : Ok S nc nt no B) (hB : B < 2 ^ 28) (hs : T.1 10 = nI 108) {p0 p1 : Int32} (h0 : T.2 8 0 = p0) (h1 : T.2 8 1 = p1) (hF : xF (S, nc, nt, no) 3 p0 p1 = 0) : Ct E mX5_doesNow [.ref (b 0)] (MdW E b T (wOf S nc nt no) M) (fun r M1 => r.isSome = true ∧ (∀ v, r = some v → v.category = 1) ∧ M1 = MdW E b T (wOf (xD (S, nc, nt, no) 3 p0 p1).1 (xD (S, nc, nt, no) 3 p0 p1).2.1 (xD (S, nc, nt, no) 3 p0 p1).2.2.1 (xD (S, nc, nt, no) 3 p0 p1).2.2.2) M) 0 0 := by
  refine Ct.of gmX5_doesNow (ls := [.ref (b 0), hole, hole]) rfl rfl (Nat.le_of_ble_eq_true rfl) ?_
  intro X hX Q hQ
  obtain ⟨hwf, hn, -, -, -, -, hse, -, -⟩ := id hok
  have hwf2 := hwf
  obtain ⟨hnc, hncl, hnt, hntl, hno, hnol⟩ := hwf2
  have hw0 : wOf S nc nt no 0 = nI nc := hnc
  have hw1 : wOf S nc nt no 1 = nI nt := hnt
  have hw2 : wOf S nc nt no 2 = nI no := hno
  refine gq_aload_n hX dX5_doesNow_0 rfl rfl rfl ?_
  refine gq_getf hX dX5_doesNow_1 rfl fX5_39 (mqR0 hb) rfl ?_
  refine gq_iconst (v := nI 0) hX dX5_doesNow_4 rfl (by decide) ?_
  refine gq_ialdN hX dX5_doesNow_5 rfl (mqR8 hb) rfl (by omega) (Nat.le_of_ble_eq_true rfl) ?_
  rw [h0]
  refine gq_istore_n hX dX5_doesNow_6 rfl rfl (Nat.le_of_ble_eq_true rfl) rfl ?_
  refine gq_aload_n hX dX5_doesNow_7 rfl rfl rfl ?_
  refine gq_getf hX dX5_doesNow_8 rfl fX5_39 (mqR0 hb) rfl ?_
  refine gq_iconst (v := nI 1) hX dX5_doesNow_11 rfl (by decide) ?_
  refine gq_ialdN hX dX5_doesNow_12 rfl (mqR8 hb) rfl (by omega) (Nat.le_of_ble_eq_true rfl) ?_
  rw [h1]
  refine gq_istore_n hX dX5_doesNow_13 rfl rfl (Nat.le_of_ble_eq_true rfl) rfl ?_
  refine gq_aload_n hX dX5_doesNow_14 rfl rfl rfl ?_
  refine gq_getf hX dX5_doesNow_15 rfl fX5_254 (mqR0 hb) rfl ?_
  rw [hs]
  refine gq_tableIn (tgt := 139) (off := 121) hX dX5_doesNow_18 (by decide) (by decide) (by decide +kernel) rfl ?_
  obtain ⟨j, hj, rfl⟩ := lauF_0 hncl hF
  refine gq_aload_n hX dX5_doesNow_139 rfl rfl rfl ?_
  refine gq_iload_n hX dX5_doesNow_140 rfl rfl rfl ?_
  refine gq_callVe hX dX5_doesNow_141 rfl vX5_114 (mt_launches hb hwf hn hj) rfl (mqR0 hb) rfl rfl (Nat.le_of_ble_eq_true rfl) ⟨(Nat.le_of_ble_eq_true rfl), (Nat.le_of_ble_eq_true rfl)⟩ (Nat.zero_add _) (Nat.zero_add _) ?_
  refine gq_iret hX hQ dX5_doesNow_144 rfl ⟨rfl, fun v h => by cases h; rfl, ?_⟩
  show MdW E b T (wOf (flyS S j) nc nt no) M = MdW E b T (wOf (flyS S (nI j).toNatClampNeg) nc nt no) M
  rw [nI_clamp (by omega)]

set_option maxRecDepth 100000 in
set_option maxHeartbeats 4000000 in
theorem md_4 {E : Ev} {b : Nat → Nat} {T : St} {M : Hp} (hb : Lay E 9 b) {S : St} {nc nt no : Nat} {B : Nat} (hok : Ok S nc nt no B) (hB : B < 2 ^ 28) (hs : T.1 10 = nI 114) {p0 p1 : Int32} (h0 : T.2 8 0 = p0) (h1 : T.2 8 1 = p1) (hF : xF (S, nc, nt, no) 4 p0 p1 = 0) : Ct E mX5_doesNow [.ref (b 0)] (MdW E b T (wOf S nc nt no) M) (fun r M1 => r.isSome = true ∧ (∀ v, r = some v → v.category = 1) ∧ M1 = MdW E b T (wOf (xD (S, nc, nt, no) 4 p0 p1).1 (xD (S, nc, nt, no) 4 p0 p1).2.1 (xD (S, nc, nt, no) 4 p0 p1).2.2.1 (xD (S, nc, nt, no) 4 p0 p1).2.2.2) M) 0 0 := by
  refine Ct.of gmX5_doesNow (ls := [.ref (b 0), hole, hole]) rfl rfl (Nat.le_of_ble_eq_true rfl) ?_
  intro X hX Q hQ
  obtain ⟨hwf, hn, -, -, -, -, hse, -, -⟩ := id hok
  have hwf2 := hwf
  obtain ⟨hnc, hncl, hnt, hntl, hno, hnol⟩ := hwf2
  have hw0 : wOf S nc nt no 0 = nI nc := hnc
  have hw1 : wOf S nc nt no 1 = nI nt := hnt
  have hw2 : wOf S nc nt no 2 = nI no := hno
  refine gq_aload_n hX dX5_doesNow_0 rfl rfl rfl ?_
  refine gq_getf hX dX5_doesNow_1 rfl fX5_39 (mqR0 hb) rfl ?_
  refine gq_iconst (v := nI 0) hX dX5_doesNow_4 rfl (by decide) ?_
  refine gq_ialdN hX dX5_doesNow_5 rfl (mqR8 hb) rfl (by omega) (Nat.le_of_ble_eq_true rfl) ?_
  rw [h0]
  refine gq_istore_n hX dX5_doesNow_6 rfl rfl (Nat.le_of_ble_eq_true rfl) rfl ?_
  refine gq_aload_n hX dX5_doesNow_7 rfl rfl rfl ?_
  refine gq_getf hX dX5_doesNow_8 rfl fX5_39 (mqR0 hb) rfl ?_
  refine gq_iconst (v := nI 1) hX dX5_doesNow_11 rfl (by decide) ?_
  refine gq_ialdN hX dX5_doesNow_12 rfl (mqR8 hb) rfl (by omega) (Nat.le_of_ble_eq_true rfl) ?_
  rw [h1]
  refine gq_istore_n hX dX5_doesNow_13 rfl rfl (Nat.le_of_ble_eq_true rfl) rfl ?_
  refine gq_aload_n hX dX5_doesNow_14 rfl rfl rfl ?_
  refine gq_getf hX dX5_doesNow_15 rfl fX5_254 (mqR0 hb) rfl ?_
  rw [hs]
  refine gq_tableIn (tgt := 145) (off := 127) hX dX5_doesNow_18 (by decide) (by decide) (by decide +kernel) rfl ?_
  have hlt := (tmoF_0 hwf hF).1
  refine gq_aload_n hX dX5_doesNow_145 rfl rfl rfl ?_
  refine gq_iload_n hX dX5_doesNow_146 rfl rfl rfl ?_
  refine gq_iconst (v := nI 0) hX dX5_doesNow_147 rfl (by decide) ?_
  refine gq_iload_n hX dX5_doesNow_148 rfl rfl rfl ?_
  refine gq_callVe hX dX5_doesNow_149 rfl vX5_127 (mt_moves hb hwf hlt (kd := nI 114) (by decide)) rfl (mqR0 hb) rfl rfl (Nat.le_of_ble_eq_true rfl) ⟨(Nat.le_of_ble_eq_true rfl), (Nat.le_of_ble_eq_true rfl)⟩ (Nat.zero_add _) (Nat.zero_add _) ?_
  refine gq_iret hX hQ dX5_doesNow_152 rfl ⟨rfl, fun v h => by cases h; rfl, ?_⟩
  rfl

set_option maxRecDepth 100000 in
set_option maxHeartbeats 4000000 in
theorem md_5 {E : Ev} {b : Nat → Nat} {T : St} {M : Hp} (hb : Lay E 9 b) {S : St} {nc nt no : Nat} {B : Nat} (hok : Ok S nc nt no B) (hB : B < 2 ^ 28) (hs : T.1 10 = nI 98) {p0 p1 : Int32} (h0 : T.2 8 0 = p0) (h1 : T.2 8 1 = p1) (hF : xF (S, nc, nt, no) 5 p0 p1 = 0) : Ct E mX5_doesNow [.ref (b 0)] (MdW E b T (wOf S nc nt no) M) (fun r M1 => r.isSome = true ∧ (∀ v, r = some v → v.category = 1) ∧ M1 = MdW E b T (wOf (xD (S, nc, nt, no) 5 p0 p1).1 (xD (S, nc, nt, no) 5 p0 p1).2.1 (xD (S, nc, nt, no) 5 p0 p1).2.2.1 (xD (S, nc, nt, no) 5 p0 p1).2.2.2) M) 0 0 := by
  refine Ct.of gmX5_doesNow (ls := [.ref (b 0), hole, hole]) rfl rfl (Nat.le_of_ble_eq_true rfl) ?_
  intro X hX Q hQ
  obtain ⟨hwf, hn, -, -, -, -, hse, -, -⟩ := id hok
  have hwf2 := hwf
  obtain ⟨hnc, hncl, hnt, hntl, hno, hnol⟩ := hwf2
  have hw0 : wOf S nc nt no 0 = nI nc := hnc
  have hw1 : wOf S nc nt no 1 = nI nt := hnt
  have hw2 : wOf S nc nt no 2 = nI no := hno
  refine gq_aload_n hX dX5_doesNow_0 rfl rfl rfl ?_
  refine gq_getf hX dX5_doesNow_1 rfl fX5_39 (mqR0 hb) rfl ?_
  refine gq_iconst (v := nI 0) hX dX5_doesNow_4 rfl (by decide) ?_
  refine gq_ialdN hX dX5_doesNow_5 rfl (mqR8 hb) rfl (by omega) (Nat.le_of_ble_eq_true rfl) ?_
  rw [h0]
  refine gq_istore_n hX dX5_doesNow_6 rfl rfl (Nat.le_of_ble_eq_true rfl) rfl ?_
  refine gq_aload_n hX dX5_doesNow_7 rfl rfl rfl ?_
  refine gq_getf hX dX5_doesNow_8 rfl fX5_39 (mqR0 hb) rfl ?_
  refine gq_iconst (v := nI 1) hX dX5_doesNow_11 rfl (by decide) ?_
  refine gq_ialdN hX dX5_doesNow_12 rfl (mqR8 hb) rfl (by omega) (Nat.le_of_ble_eq_true rfl) ?_
  rw [h1]
  refine gq_istore_n hX dX5_doesNow_13 rfl rfl (Nat.le_of_ble_eq_true rfl) rfl ?_
  refine gq_aload_n hX dX5_doesNow_14 rfl rfl rfl ?_
  refine gq_getf hX dX5_doesNow_15 rfl fX5_254 (mqR0 hb) rfl ?_
  rw [hs]
  refine gq_tableIn (tgt := 153) (off := 135) hX dX5_doesNow_18 (by decide) (by decide) (by decide +kernel) rfl ?_
  have hlt := (tmoF_0 hwf hF).1
  refine gq_aload_n hX dX5_doesNow_153 rfl rfl rfl ?_
  refine gq_iload_n hX dX5_doesNow_154 rfl rfl rfl ?_
  refine gq_iconst (v := nI 1) hX dX5_doesNow_155 rfl (by decide) ?_
  refine gq_iload_n hX dX5_doesNow_156 rfl rfl rfl ?_
  refine gq_callVe hX dX5_doesNow_157 rfl vX5_127 (mt_moves hb hwf hlt (kd := nI 116) (by decide)) rfl (mqR0 hb) rfl rfl (Nat.le_of_ble_eq_true rfl) ⟨(Nat.le_of_ble_eq_true rfl), (Nat.le_of_ble_eq_true rfl)⟩ (Nat.zero_add _) (Nat.zero_add _) ?_
  refine gq_iret hX hQ dX5_doesNow_160 rfl ⟨rfl, fun v h => by cases h; rfl, ?_⟩
  rfl

set_option maxRecDepth 100000 in
set_option maxHeartbeats 4000000 in
theorem md_6 {E : Ev} {b : Nat → Nat} {T : St} {M : Hp} (hb : Lay E 9 b) {S : St} {nc nt no : Nat} {B : Nat} (hok : Ok S nc nt no B) (hB : B < 2 ^ 28) (hs : T.1 10 = nI 103) {p0 p1 : Int32} (h0 : T.2 8 0 = p0) (h1 : T.2 8 1 = p1) (hF : xF (S, nc, nt, no) 6 p0 p1 = 0) : Ct E mX5_doesNow [.ref (b 0)] (MdW E b T (wOf S nc nt no) M) (fun r M1 => r.isSome = true ∧ (∀ v, r = some v → v.category = 1) ∧ M1 = MdW E b T (wOf (xD (S, nc, nt, no) 6 p0 p1).1 (xD (S, nc, nt, no) 6 p0 p1).2.1 (xD (S, nc, nt, no) 6 p0 p1).2.2.1 (xD (S, nc, nt, no) 6 p0 p1).2.2.2) M) 0 0 := by
  refine Ct.of gmX5_doesNow (ls := [.ref (b 0), hole, hole]) rfl rfl (Nat.le_of_ble_eq_true rfl) ?_
  intro X hX Q hQ
  obtain ⟨hwf, hn, -, -, -, -, hse, -, -⟩ := id hok
  have hwf2 := hwf
  obtain ⟨hnc, hncl, hnt, hntl, hno, hnol⟩ := hwf2
  have hw0 : wOf S nc nt no 0 = nI nc := hnc
  have hw1 : wOf S nc nt no 1 = nI nt := hnt
  have hw2 : wOf S nc nt no 2 = nI no := hno
  refine gq_aload_n hX dX5_doesNow_0 rfl rfl rfl ?_
  refine gq_getf hX dX5_doesNow_1 rfl fX5_39 (mqR0 hb) rfl ?_
  refine gq_iconst (v := nI 0) hX dX5_doesNow_4 rfl (by decide) ?_
  refine gq_ialdN hX dX5_doesNow_5 rfl (mqR8 hb) rfl (by omega) (Nat.le_of_ble_eq_true rfl) ?_
  rw [h0]
  refine gq_istore_n hX dX5_doesNow_6 rfl rfl (Nat.le_of_ble_eq_true rfl) rfl ?_
  refine gq_aload_n hX dX5_doesNow_7 rfl rfl rfl ?_
  refine gq_getf hX dX5_doesNow_8 rfl fX5_39 (mqR0 hb) rfl ?_
  refine gq_iconst (v := nI 1) hX dX5_doesNow_11 rfl (by decide) ?_
  refine gq_ialdN hX dX5_doesNow_12 rfl (mqR8 hb) rfl (by omega) (Nat.le_of_ble_eq_true rfl) ?_
  rw [h1]
  refine gq_istore_n hX dX5_doesNow_13 rfl rfl (Nat.le_of_ble_eq_true rfl) rfl ?_
  refine gq_aload_n hX dX5_doesNow_14 rfl rfl rfl ?_
  refine gq_getf hX dX5_doesNow_15 rfl fX5_254 (mqR0 hb) rfl ?_
  rw [hs]
  refine gq_tableIn (tgt := 161) (off := 143) hX dX5_doesNow_18 (by decide) (by decide) (by decide +kernel) rfl ?_
  have hlt := (gmoF_0 hwf hF).1
  refine gq_aload_n hX dX5_doesNow_161 rfl rfl rfl ?_
  refine gq_iload_n hX dX5_doesNow_162 rfl rfl rfl ?_
  refine gq_iconst (v := nI 2) hX dX5_doesNow_163 rfl (by decide) ?_
  refine gq_iload_n hX dX5_doesNow_164 rfl rfl rfl ?_
  refine gq_callVe hX dX5_doesNow_165 rfl vX5_127 (mt_moves hb hwf hlt (kd := nI 103) (by decide)) rfl (mqR0 hb) rfl rfl (Nat.le_of_ble_eq_true rfl) ⟨(Nat.le_of_ble_eq_true rfl), (Nat.le_of_ble_eq_true rfl)⟩ (Nat.zero_add _) (Nat.zero_add _) ?_
  refine gq_iret hX hQ dX5_doesNow_168 rfl ⟨rfl, fun v h => by cases h; rfl, ?_⟩
  rfl

set_option maxRecDepth 100000 in
set_option maxHeartbeats 4000000 in
theorem md_7 {E : Ev} {b : Nat → Nat} {T : St} {M : Hp} (hb : Lay E 9 b) {S : St} {nc nt no : Nat} {B : Nat} (hok : Ok S nc nt no B) (hB : B < 2 ^ 28) (hs : T.1 10 = nI 115) {p0 p1 : Int32} (h0 : T.2 8 0 = p0) (h1 : T.2 8 1 = p1) (hF : xF (S, nc, nt, no) 7 p0 p1 = 0) : Ct E mX5_doesNow [.ref (b 0)] (MdW E b T (wOf S nc nt no) M) (fun r M1 => r.isSome = true ∧ (∀ v, r = some v → v.category = 1) ∧ M1 = MdW E b T (wOf (xD (S, nc, nt, no) 7 p0 p1).1 (xD (S, nc, nt, no) 7 p0 p1).2.1 (xD (S, nc, nt, no) 7 p0 p1).2.2.1 (xD (S, nc, nt, no) 7 p0 p1).2.2.2) M) 0 0 := by
  refine Ct.of gmX5_doesNow (ls := [.ref (b 0), hole, hole]) rfl rfl (Nat.le_of_ble_eq_true rfl) ?_
  intro X hX Q hQ
  obtain ⟨hwf, hn, -, -, -, -, hse, -, -⟩ := id hok
  have hwf2 := hwf
  obtain ⟨hnc, hncl, hnt, hntl, hno, hnol⟩ := hwf2
  have hw0 : wOf S nc nt no 0 = nI nc := hnc
  have hw1 : wOf S nc nt no 1 = nI nt := hnt
  have hw2 : wOf S nc nt no 2 = nI no := hno
  refine gq_aload_n hX dX5_doesNow_0 rfl rfl rfl ?_
  refine gq_getf hX dX5_doesNow_1 rfl fX5_39 (mqR0 hb) rfl ?_
  refine gq_iconst (v := nI 0) hX dX5_doesNow_4 rfl (by decide) ?_
  refine gq_ialdN hX dX5_doesNow_5 rfl (mqR8 hb) rfl (by omega) (Nat.le_of_ble_eq_true rfl) ?_
  rw [h0]
  refine gq_istore_n hX dX5_doesNow_6 rfl rfl (Nat.le_of_ble_eq_true rfl) rfl ?_
  refine gq_aload_n hX dX5_doesNow_7 rfl rfl rfl ?_
  refine gq_getf hX dX5_doesNow_8 rfl fX5_39 (mqR0 hb) rfl ?_
  refine gq_iconst (v := nI 1) hX dX5_doesNow_11 rfl (by decide) ?_
  refine gq_ialdN hX dX5_doesNow_12 rfl (mqR8 hb) rfl (by omega) (Nat.le_of_ble_eq_true rfl) ?_
  rw [h1]
  refine gq_istore_n hX dX5_doesNow_13 rfl rfl (Nat.le_of_ble_eq_true rfl) rfl ?_
  refine gq_aload_n hX dX5_doesNow_14 rfl rfl rfl ?_
  refine gq_getf hX dX5_doesNow_15 rfl fX5_254 (mqR0 hb) rfl ?_
  rw [hs]
  refine gq_tableIn (tgt := 169) (off := 151) hX dX5_doesNow_18 (by decide) (by decide) (by decide +kernel) rfl ?_
  obtain ⟨⟨j, hj, rfl⟩, k, ho⟩ := secF_0 hncl hF
  refine gq_aload_n hX dX5_doesNow_169 rfl rfl rfl ?_
  refine gq_iload_n hX dX5_doesNow_170 rfl rfl rfl ?_
  refine gq_iload_n hX dX5_doesNow_171 rfl rfl rfl ?_
  refine gq_callVe hX dX5_doesNow_172 rfl vX5_139 (mt_seconds hb hwf ho hse ⟨j, hj, rfl⟩) rfl (mqR0 hb) rfl rfl (Nat.le_of_ble_eq_true rfl) ⟨(Nat.le_of_ble_eq_true rfl), (Nat.le_of_ble_eq_true rfl)⟩ (Nat.zero_add _) (Nat.zero_add _) ?_
  refine gq_iret hX hQ dX5_doesNow_175 rfl ⟨rfl, fun v h => by cases h; rfl, ?_⟩
  show MdW E b T (wOf (sedS S k (nI j)) nc nt no) M = MdW E b T (wOf (sedS S (slK S no p1) (nI j)) nc nt no) M
  rw [slK_e ho]

set_option maxRecDepth 100000 in
set_option maxHeartbeats 4000000 in
theorem md_8 {E : Ev} {b : Nat → Nat} {T : St} {M : Hp} (hb : Lay E 9 b) {S : St} {nc nt no : Nat} {B : Nat} (hok : Ok S nc nt no B) (hB : B < 2 ^ 28) (hs : T.1 10 = nI 110) {p0 p1 : Int32} (h0 : T.2 8 0 = p0) (h1 : T.2 8 1 = p1) (hF : xF (S, nc, nt, no) 8 p0 p1 = 0) : Ct E mX5_doesNow [.ref (b 0)] (MdW E b T (wOf S nc nt no) M) (fun r M1 => r.isSome = true ∧ (∀ v, r = some v → v.category = 1) ∧ M1 = MdW E b T (wOf (xD (S, nc, nt, no) 8 p0 p1).1 (xD (S, nc, nt, no) 8 p0 p1).2.1 (xD (S, nc, nt, no) 8 p0 p1).2.2.1 (xD (S, nc, nt, no) 8 p0 p1).2.2.2) M) 0 0 := by
  refine Ct.of gmX5_doesNow (ls := [.ref (b 0), hole, hole]) rfl rfl (Nat.le_of_ble_eq_true rfl) ?_
  intro X hX Q hQ
  obtain ⟨hwf, hn, -, -, -, -, hse, -, -⟩ := id hok
  have hwf2 := hwf
  obtain ⟨hnc, hncl, hnt, hntl, hno, hnol⟩ := hwf2
  have hw0 : wOf S nc nt no 0 = nI nc := hnc
  have hw1 : wOf S nc nt no 1 = nI nt := hnt
  have hw2 : wOf S nc nt no 2 = nI no := hno
  refine gq_aload_n hX dX5_doesNow_0 rfl rfl rfl ?_
  refine gq_getf hX dX5_doesNow_1 rfl fX5_39 (mqR0 hb) rfl ?_
  refine gq_iconst (v := nI 0) hX dX5_doesNow_4 rfl (by decide) ?_
  refine gq_ialdN hX dX5_doesNow_5 rfl (mqR8 hb) rfl (by omega) (Nat.le_of_ble_eq_true rfl) ?_
  rw [h0]
  refine gq_istore_n hX dX5_doesNow_6 rfl rfl (Nat.le_of_ble_eq_true rfl) rfl ?_
  refine gq_aload_n hX dX5_doesNow_7 rfl rfl rfl ?_
  refine gq_getf hX dX5_doesNow_8 rfl fX5_39 (mqR0 hb) rfl ?_
  refine gq_iconst (v := nI 1) hX dX5_doesNow_11 rfl (by decide) ?_
  refine gq_ialdN hX dX5_doesNow_12 rfl (mqR8 hb) rfl (by omega) (Nat.le_of_ble_eq_true rfl) ?_
  rw [h1]
  refine gq_istore_n hX dX5_doesNow_13 rfl rfl (Nat.le_of_ble_eq_true rfl) rfl ?_
  refine gq_aload_n hX dX5_doesNow_14 rfl rfl rfl ?_
  refine gq_getf hX dX5_doesNow_15 rfl fX5_254 (mqR0 hb) rfl ?_
  rw [hs]
  refine gq_tableIn (tgt := 176) (off := 158) hX dX5_doesNow_18 (by decide) (by decide) (by decide +kernel) rfl ?_
  obtain ⟨k, ho⟩ := untF_0 hF
  obtain ⟨a, o, hk, ha, hmv, e2, ho2, e4⟩ := OkS.mot (σ := (S, nc, nt, no)) hok ho
  refine gq_aload_n hX dX5_doesNow_176 rfl rfl rfl ?_
  refine gq_iload_n hX dX5_doesNow_177 rfl rfl rfl ?_
  refine gq_callVe hX dX5_doesNow_178 rfl vX5_149 (mt_untables hb hwf ho hmv ha) rfl (mqR0 hb) rfl rfl (Nat.le_of_ble_eq_true rfl) ⟨(Nat.le_of_ble_eq_true rfl), (Nat.le_of_ble_eq_true rfl)⟩ (Nat.zero_add _) (Nat.zero_add _) ?_
  refine gq_iret hX hQ dX5_doesNow_181 rfl ⟨rfl, fun v h => by cases h; rfl, ?_⟩
  show MdW E b T (wOf (untS S k a) nc nt no) M = MdW E b T (wOf (untS S (slK S no p0) (S.2 9 (slK S no p0)).toNatClampNeg) nc nt no) M
  rw [slK_e ho, e2]

set_option maxRecDepth 100000 in
set_option maxHeartbeats 4000000 in
theorem md_9 {E : Ev} {b : Nat → Nat} {T : St} {M : Hp} (hb : Lay E 9 b) {S : St} {nc nt no : Nat} {B : Nat} (hok : Ok S nc nt no B) (hB : B < 2 ^ 28) (hs : T.1 10 = nI 119) {p0 p1 : Int32} (h0 : T.2 8 0 = p0) (h1 : T.2 8 1 = p1) (hF : xF (S, nc, nt, no) 9 p0 p1 = 0) : Ct E mX5_doesNow [.ref (b 0)] (MdW E b T (wOf S nc nt no) M) (fun r M1 => r.isSome = true ∧ (∀ v, r = some v → v.category = 1) ∧ M1 = MdW E b T (wOf (xD (S, nc, nt, no) 9 p0 p1).1 (xD (S, nc, nt, no) 9 p0 p1).2.1 (xD (S, nc, nt, no) 9 p0 p1).2.2.1 (xD (S, nc, nt, no) 9 p0 p1).2.2.2) M) 0 0 := by
  refine Ct.of gmX5_doesNow (ls := [.ref (b 0), hole, hole]) rfl rfl (Nat.le_of_ble_eq_true rfl) ?_
  intro X hX Q hQ
  obtain ⟨hwf, hn, -, -, -, -, hse, -, -⟩ := id hok
  have hwf2 := hwf
  obtain ⟨hnc, hncl, hnt, hntl, hno, hnol⟩ := hwf2
  have hw0 : wOf S nc nt no 0 = nI nc := hnc
  have hw1 : wOf S nc nt no 1 = nI nt := hnt
  have hw2 : wOf S nc nt no 2 = nI no := hno
  refine gq_aload_n hX dX5_doesNow_0 rfl rfl rfl ?_
  refine gq_getf hX dX5_doesNow_1 rfl fX5_39 (mqR0 hb) rfl ?_
  refine gq_iconst (v := nI 0) hX dX5_doesNow_4 rfl (by decide) ?_
  refine gq_ialdN hX dX5_doesNow_5 rfl (mqR8 hb) rfl (by omega) (Nat.le_of_ble_eq_true rfl) ?_
  rw [h0]
  refine gq_istore_n hX dX5_doesNow_6 rfl rfl (Nat.le_of_ble_eq_true rfl) rfl ?_
  refine gq_aload_n hX dX5_doesNow_7 rfl rfl rfl ?_
  refine gq_getf hX dX5_doesNow_8 rfl fX5_39 (mqR0 hb) rfl ?_
  refine gq_iconst (v := nI 1) hX dX5_doesNow_11 rfl (by decide) ?_
  refine gq_ialdN hX dX5_doesNow_12 rfl (mqR8 hb) rfl (by omega) (Nat.le_of_ble_eq_true rfl) ?_
  rw [h1]
  refine gq_istore_n hX dX5_doesNow_13 rfl rfl (Nat.le_of_ble_eq_true rfl) rfl ?_
  refine gq_aload_n hX dX5_doesNow_14 rfl rfl rfl ?_
  refine gq_getf hX dX5_doesNow_15 rfl fX5_254 (mqR0 hb) rfl ?_
  rw [hs]
  refine gq_tableIn (tgt := 182) (off := 164) hX dX5_doesNow_18 (by decide) (by decide) (by decide +kernel) rfl ?_
  obtain ⟨k, ho⟩ := witF_0 hF
  refine gq_aload_n hX dX5_doesNow_182 rfl rfl rfl ?_
  refine gq_iload_n hX dX5_doesNow_183 rfl rfl rfl ?_
  refine gq_callVe hX dX5_doesNow_184 rfl vX5_159 (mt_withdraws hb hwf ho) rfl (mqR0 hb) rfl rfl (Nat.le_of_ble_eq_true rfl) ⟨(Nat.le_of_ble_eq_true rfl), (Nat.le_of_ble_eq_true rfl)⟩ (Nat.zero_add _) (Nat.zero_add _) ?_
  refine gq_iret hX hQ dX5_doesNow_187 rfl ⟨rfl, fun v h => by cases h; rfl, ?_⟩
  show MdW E b T (wOf (cloS S no k) nc nt (no - 1)) M = MdW E b T (wOf (cloS S no (slK S no p0)) nc nt (no - 1)) M
  rw [slK_e ho]

set_option maxRecDepth 100000 in
set_option maxHeartbeats 4000000 in
theorem md_10 {E : Ev} {b : Nat → Nat} {T : St} {M : Hp} (hb : Lay E 9 b) {S : St} {nc nt no : Nat} {B : Nat} (hok : Ok S nc nt no B) (hB : B < 2 ^ 28) (hs : T.1 10 = nI 118) {p0 p1 : Int32} (h0 : T.2 8 0 = p0) (h1 : T.2 8 1 = p1) (hF : xF (S, nc, nt, no) 10 p0 p1 = 0) : Ct E mX5_doesNow [.ref (b 0)] (MdW E b T (wOf S nc nt no) M) (fun r M1 => r.isSome = true ∧ (∀ v, r = some v → v.category = 1) ∧ M1 = MdW E b T (wOf (xD (S, nc, nt, no) 10 p0 p1).1 (xD (S, nc, nt, no) 10 p0 p1).2.1 (xD (S, nc, nt, no) 10 p0 p1).2.2.1 (xD (S, nc, nt, no) 10 p0 p1).2.2.2) M) 0 0 := by
  refine Ct.of gmX5_doesNow (ls := [.ref (b 0), hole, hole]) rfl rfl (Nat.le_of_ble_eq_true rfl) ?_
  intro X hX Q hQ
  obtain ⟨hwf, hn, -, -, -, -, hse, -, -⟩ := id hok
  have hwf2 := hwf
  obtain ⟨hnc, hncl, hnt, hntl, hno, hnol⟩ := hwf2
  have hw0 : wOf S nc nt no 0 = nI nc := hnc
  have hw1 : wOf S nc nt no 1 = nI nt := hnt
  have hw2 : wOf S nc nt no 2 = nI no := hno
  refine gq_aload_n hX dX5_doesNow_0 rfl rfl rfl ?_
  refine gq_getf hX dX5_doesNow_1 rfl fX5_39 (mqR0 hb) rfl ?_
  refine gq_iconst (v := nI 0) hX dX5_doesNow_4 rfl (by decide) ?_
  refine gq_ialdN hX dX5_doesNow_5 rfl (mqR8 hb) rfl (by omega) (Nat.le_of_ble_eq_true rfl) ?_
  rw [h0]
  refine gq_istore_n hX dX5_doesNow_6 rfl rfl (Nat.le_of_ble_eq_true rfl) rfl ?_
  refine gq_aload_n hX dX5_doesNow_7 rfl rfl rfl ?_
  refine gq_getf hX dX5_doesNow_8 rfl fX5_39 (mqR0 hb) rfl ?_
  refine gq_iconst (v := nI 1) hX dX5_doesNow_11 rfl (by decide) ?_
  refine gq_ialdN hX dX5_doesNow_12 rfl (mqR8 hb) rfl (by omega) (Nat.le_of_ble_eq_true rfl) ?_
  rw [h1]
  refine gq_istore_n hX dX5_doesNow_13 rfl rfl (Nat.le_of_ble_eq_true rfl) rfl ?_
  refine gq_aload_n hX dX5_doesNow_14 rfl rfl rfl ?_
  refine gq_getf hX dX5_doesNow_15 rfl fX5_254 (mqR0 hb) rfl ?_
  rw [hs]
  refine gq_tableIn (tgt := 188) (off := 170) hX dX5_doesNow_18 (by decide) (by decide) (by decide +kernel) rfl ?_
  obtain ⟨k, ho⟩ := votF_0 hF
  obtain ⟨a, o, hk, ha, hmv, e2, ho2, e4⟩ := OkS.mot (σ := (S, nc, nt, no)) hok ho
  refine gq_aload_n hX dX5_doesNow_188 rfl rfl rfl ?_
  refine gq_iload_n hX dX5_doesNow_189 rfl rfl rfl ?_
  refine gq_callVe hX dX5_doesNow_190 rfl vX5_180 (mt_votesOn hb hwf ho hn hmv ha ho2) rfl (mqR0 hb) rfl rfl (Nat.le_of_ble_eq_true rfl) ⟨(Nat.le_of_ble_eq_true rfl), (Nat.le_of_ble_eq_true rfl)⟩ (Nat.zero_add _) (Nat.zero_add _) ?_
  refine gq_iret hX hQ dX5_doesNow_193 rfl ⟨rfl, fun v h => by cases h; rfl, ?_⟩
  show MdW E b T (wOf (votS S nc nt no k a o) nc nt (no - 1)) M = MdW E b T (wOf (votS S nc nt no (slK S no p0) (S.2 9 (slK S no p0)).toNatClampNeg (S.2 10 (slK S no p0)).toNatClampNeg) nc nt (no - 1)) M
  rw [slK_e ho, e2, e4]

set_option maxRecDepth 100000 in
set_option maxHeartbeats 4000000 in
theorem md_11 {E : Ev} {b : Nat → Nat} {T : St} {M : Hp} (hb : Lay E 9 b) {S : St} {nc nt no : Nat} {B : Nat} (hok : Ok S nc nt no B) (hB : B < 2 ^ 28) (hs : T.1 10 = nI 117) {p0 p1 : Int32} (h0 : T.2 8 0 = p0) (h1 : T.2 8 1 = p1) (hF : xF (S, nc, nt, no) 11 p0 p1 = 0) : Ct E mX5_doesNow [.ref (b 0)] (MdW E b T (wOf S nc nt no) M) (fun r M1 => r.isSome = true ∧ (∀ v, r = some v → v.category = 1) ∧ M1 = MdW E b T (wOf (xD (S, nc, nt, no) 11 p0 p1).1 (xD (S, nc, nt, no) 11 p0 p1).2.1 (xD (S, nc, nt, no) 11 p0 p1).2.2.1 (xD (S, nc, nt, no) 11 p0 p1).2.2.2) M) 0 0 := by
  refine Ct.of gmX5_doesNow (ls := [.ref (b 0), hole, hole]) rfl rfl (Nat.le_of_ble_eq_true rfl) ?_
  intro X hX Q hQ
  obtain ⟨hwf, hn, -, -, -, -, hse, -, -⟩ := id hok
  have hwf2 := hwf
  obtain ⟨hnc, hncl, hnt, hntl, hno, hnol⟩ := hwf2
  have hw0 : wOf S nc nt no 0 = nI nc := hnc
  have hw1 : wOf S nc nt no 1 = nI nt := hnt
  have hw2 : wOf S nc nt no 2 = nI no := hno
  refine gq_aload_n hX dX5_doesNow_0 rfl rfl rfl ?_
  refine gq_getf hX dX5_doesNow_1 rfl fX5_39 (mqR0 hb) rfl ?_
  refine gq_iconst (v := nI 0) hX dX5_doesNow_4 rfl (by decide) ?_
  refine gq_ialdN hX dX5_doesNow_5 rfl (mqR8 hb) rfl (by omega) (Nat.le_of_ble_eq_true rfl) ?_
  rw [h0]
  refine gq_istore_n hX dX5_doesNow_6 rfl rfl (Nat.le_of_ble_eq_true rfl) rfl ?_
  refine gq_aload_n hX dX5_doesNow_7 rfl rfl rfl ?_
  refine gq_getf hX dX5_doesNow_8 rfl fX5_39 (mqR0 hb) rfl ?_
  refine gq_iconst (v := nI 1) hX dX5_doesNow_11 rfl (by decide) ?_
  refine gq_ialdN hX dX5_doesNow_12 rfl (mqR8 hb) rfl (by omega) (Nat.le_of_ble_eq_true rfl) ?_
  rw [h1]
  refine gq_istore_n hX dX5_doesNow_13 rfl rfl (Nat.le_of_ble_eq_true rfl) rfl ?_
  refine gq_aload_n hX dX5_doesNow_14 rfl rfl rfl ?_
  refine gq_getf hX dX5_doesNow_15 rfl fX5_254 (mqR0 hb) rfl ?_
  rw [hs]
  refine gq_tableIn (tgt := 194) (off := 176) hX dX5_doesNow_18 (by decide) (by decide) (by decide +kernel) rfl ?_
  skip
  refine gq_aload_n hX dX5_doesNow_194 rfl rfl rfl ?_
  refine gq_iload_n hX dX5_doesNow_195 rfl rfl rfl ?_
  refine gq_callVe hX dX5_doesNow_196 rfl vX5_189 (mt_blows hb hwf hn hok.hmo _) rfl (mqR0 hb) rfl rfl (Nat.le_of_ble_eq_true rfl) ⟨(Nat.le_of_ble_eq_true rfl), (Nat.le_of_ble_eq_true rfl)⟩ (Nat.zero_add _) (Nat.zero_add _) ?_
  refine gq_iret hX hQ dX5_doesNow_199 rfl ⟨rfl, fun v h => by cases h; rfl, ?_⟩
  rfl

set_option maxRecDepth 100000 in
set_option maxHeartbeats 4000000 in
theorem md_12 {E : Ev} {b : Nat → Nat} {T : St} {M : Hp} (hb : Lay E 9 b) {S : St} {nc nt no : Nat} {B : Nat} (hok : Ok S nc nt no B) (hB : B < 2 ^ 28) (hs : T.1 10 = nI 104) {p0 p1 : Int32} (h0 : T.2 8 0 = p0) (h1 : T.2 8 1 = p1) (hF : xF (S, nc, nt, no) 12 p0 p1 = 0) : Ct E mX5_doesNow [.ref (b 0)] (MdW E b T (wOf S nc nt no) M) (fun r M1 => r.isSome = true ∧ (∀ v, r = some v → v.category = 1) ∧ M1 = MdW E b T (wOf (xD (S, nc, nt, no) 12 p0 p1).1 (xD (S, nc, nt, no) 12 p0 p1).2.1 (xD (S, nc, nt, no) 12 p0 p1).2.2.1 (xD (S, nc, nt, no) 12 p0 p1).2.2.2) M) 0 0 := by
  refine Ct.of gmX5_doesNow (ls := [.ref (b 0), hole, hole]) rfl rfl (Nat.le_of_ble_eq_true rfl) ?_
  intro X hX Q hQ
  obtain ⟨hwf, hn, -, -, -, -, hse, -, -⟩ := id hok
  have hwf2 := hwf
  obtain ⟨hnc, hncl, hnt, hntl, hno, hnol⟩ := hwf2
  have hw0 : wOf S nc nt no 0 = nI nc := hnc
  have hw1 : wOf S nc nt no 1 = nI nt := hnt
  have hw2 : wOf S nc nt no 2 = nI no := hno
  refine gq_aload_n hX dX5_doesNow_0 rfl rfl rfl ?_
  refine gq_getf hX dX5_doesNow_1 rfl fX5_39 (mqR0 hb) rfl ?_
  refine gq_iconst (v := nI 0) hX dX5_doesNow_4 rfl (by decide) ?_
  refine gq_ialdN hX dX5_doesNow_5 rfl (mqR8 hb) rfl (by omega) (Nat.le_of_ble_eq_true rfl) ?_
  rw [h0]
  refine gq_istore_n hX dX5_doesNow_6 rfl rfl (Nat.le_of_ble_eq_true rfl) rfl ?_
  refine gq_aload_n hX dX5_doesNow_7 rfl rfl rfl ?_
  refine gq_getf hX dX5_doesNow_8 rfl fX5_39 (mqR0 hb) rfl ?_
  refine gq_iconst (v := nI 1) hX dX5_doesNow_11 rfl (by decide) ?_
  refine gq_ialdN hX dX5_doesNow_12 rfl (mqR8 hb) rfl (by omega) (Nat.le_of_ble_eq_true rfl) ?_
  rw [h1]
  refine gq_istore_n hX dX5_doesNow_13 rfl rfl (Nat.le_of_ble_eq_true rfl) rfl ?_
  refine gq_aload_n hX dX5_doesNow_14 rfl rfl rfl ?_
  refine gq_getf hX dX5_doesNow_15 rfl fX5_254 (mqR0 hb) rfl ?_
  rw [hs]
  refine gq_tableIn (tgt := 200) (off := 182) hX dX5_doesNow_18 (by decide) (by decide) (by decide +kernel) rfl ?_
  obtain ⟨x, hx1, hx, rfl⟩ := pasF_0 hF
  refine gq_aload_n hX dX5_doesNow_200 rfl rfl rfl ?_
  refine gq_iload_n hX dX5_doesNow_201 rfl rfl rfl ?_
  refine gq_callVe hX dX5_doesNow_202 rfl vX5_198 (mt_passes hb hwf hn (by omega)) rfl (mqR0 hb) rfl rfl (Nat.le_of_ble_eq_true rfl) ⟨(Nat.le_of_ble_eq_true rfl), (Nat.le_of_ble_eq_true rfl)⟩ (Nat.zero_add _) (Nat.zero_add _) ?_
  refine gq_iret hX hQ dX5_doesNow_205 rfl ⟨rfl, fun v h => by cases h; rfl, ?_⟩
  show MdW E b T (wOf (pasS S nt nc x).1 nc nt no) M = MdW E b T (wOf (pasS S nt nc (nI x).toNatClampNeg).1 nc nt no) M
  rw [nI_clamp (by omega)]

theorem md_all {E : Ev} {b : Nat → Nat} {T : St} {M : Hp} (hb : Lay E 9 b) {S : St} {nc nt no : Nat} {B : Nat} (hok : Ok S nc nt no B) (hB : B < 2 ^ 28) {kind : Nat} (hk : kind < 13) (hs : T.1 10 = nI (soN kind)) {p0 p1 : Int32} (h0 : T.2 8 0 = p0) (h1 : T.2 8 1 = p1) (hF : xF (S, nc, nt, no) kind p0 p1 = 0) : Ct E mX5_doesNow [.ref (b 0)] (MdW E b T (wOf S nc nt no) M) (fun r M1 => r.isSome = true ∧ (∀ v, r = some v → v.category = 1) ∧ M1 = MdW E b T (wOf (xD (S, nc, nt, no) kind p0 p1).1 (xD (S, nc, nt, no) kind p0 p1).2.1 (xD (S, nc, nt, no) kind p0 p1).2.2.1 (xD (S, nc, nt, no) kind p0 p1).2.2.2) M) 0 0 := by
  match kind, hk, hs, hF with
  | 0, _, hs, hF => exact md_0 hb hok hB hs h0 h1 hF
  | 1, _, hs, hF => exact md_1 hb hok hB hs h0 h1 hF
  | 2, _, hs, hF => exact md_2 hb hok hB hs h0 h1 hF
  | 3, _, hs, hF => exact md_3 hb hok hB hs h0 h1 hF
  | 4, _, hs, hF => exact md_4 hb hok hB hs h0 h1 hF
  | 5, _, hs, hF => exact md_5 hb hok hB hs h0 h1 hF
  | 6, _, hs, hF => exact md_6 hb hok hB hs h0 h1 hF
  | 7, _, hs, hF => exact md_7 hb hok hB hs h0 h1 hF
  | 8, _, hs, hF => exact md_8 hb hok hB hs h0 h1 hF
  | 9, _, hs, hF => exact md_9 hb hok hB hs h0 h1 hF
  | 10, _, hs, hF => exact md_10 hb hok hB hs h0 h1 hF
  | 11, _, hs, hF => exact md_11 hb hok hB hs h0 h1 hF
  | 12, _, hs, hF => exact md_12 hb hok hB hs h0 h1 hF
  | n + 13, h, _, _ => exact absurd h (by omega)

def dnT (T : St) (i : Nat) : St := setS T 11 (nI i)
theorem dnT_rd {T : St} {N : Nat → Int32} {a i j : Nat} {s : Int32} : setS (rdT (dnT T i) N a s) 11 (nI j) = rdT (dnT T j) N a s := by
  unfold rdT dnT
  rw [setS_c (j := 10) (k := 11) (by decide), setS_c (j := 6) (k := 11) (by decide)]
  have e : setS (setA (setS T 11 (nI i)) 8 N) 11 (nI j) = setA (setS T 11 (nI j)) 8 N := by
    show setA (setS (setS T 11 (nI i)) 11 (nI j)) 8 N = _
    rw [setS_2]
  rw [e]
abbrev wSg (σ : Sg) : Nat → Int32 := wOf σ.1 σ.2.1 σ.2.2.1 σ.2.2.2
theorem rdT_self {T : St} {a : Nat} (h6 : T.1 6 = nI a) : rdT T (T.2 8) a (T.1 10) = T := (rdT_id h6).symm

set_option maxRecDepth 100000 in
set_option maxHeartbeats 4000000 in
theorem mp_does {E : Ev} {b : Nat → Nat} {T : St} {N : Nat → Int32} {s : Int32} {σ : Sg} {M : Hp} (hb : Lay E 9 b) {l : Ln} (ht : TxP T l) {a : Nat} {B : Nat} (hok : OkS σ B) (hB : B + 100000 < 2 ^ 28) (hp : (pAll l 60 0).1 = true) : Ct E mX5_doesAll [.ref (b 0)] (MdW E b (rdT T N a s) (wSg σ) M) (fun r M1 => r = some (.int (exL (pAll l 60 0).2.2 σ 0).2.2) ∧ ∃ N1 a1 s1, M1 = MdW E b (rdT (dnT T (exL (pAll l 60 0).2.2 σ 0).2.1) N1 a1 s1) (wSg (exL (pAll l 60 0).2.2 σ 0).1) M) 0 0 := by
  refine Ct.of gmX5_doesAll (ls := [.ref (b 0), hole, hole]) rfl rfl (Nat.le_of_ble_eq_true rfl) ?_
  intro X hX Q hQ
  have hl60 := ht.2.1
  refine gq_aload_n hX dX5_doesAll_0 rfl rfl rfl ?_
  refine gq_iconst (v := nI 0) hX dX5_doesAll_1 rfl (by decide) ?_
  refine gq_putf hX dX5_doesAll_2 rfl fX5_284 rfl rfl rfl (mqR0 hb) (Nat.le_of_ble_eq_true rfl) (hb.2 0 (by decide)) (mqW0_19 hb) ?_
  rw [show setS (rdT T N a s) 11 (nI 0) = rdT (dnT T 0) N a s from by unfold rdT dnT; rw [setS_c (j := 10) (k := 11) (by decide), setS_c (j := 6) (k := 11) (by decide)]; rfl]
  refine gq_aload_n hX dX5_doesAll_5 rfl rfl rfl ?_
  refine gq_iconst (v := nI 0) hX dX5_doesAll_6 rfl (by decide) ?_
  refine gq_putf hX dX5_doesAll_7 rfl fX5_235 rfl rfl rfl (mqR0 hb) (Nat.le_of_ble_eq_true rfl) (hb.2 0 (by decide)) (mqW0_13 hb) ?_
  rw [rdT_at]
  refine gq_iconst (v := nI 1) hX dX5_doesAll_10 rfl (by decide) ?_
  refine gq_istore_n hX dX5_doesAll_11 rfl rfl (Nat.le_of_ble_eq_true rfl) rfl ?_
  have lp : ∀ (k a1 i : Nat) (σ1 : Sg) (B1 : Nat) (N1 : Nat → Int32) (s1 : Int32), a1 ≤ l.2 → l.2 < a1 + 2 * k → i < 1000 → OkS σ1 B1 → B1 + 1000 * k < 2 ^ 28 → (pAll l k a1).1 = true → exL (pAll l 60 0).2.2 σ 0 = exL (pAll l k a1).2.2 σ1 i → i + k ≤ 60 →
      Gq E X mX5_doesAll Q 12 [.ref (b 0), .int (nI 1), hole] [] (MdW E b (rdT (dnT T i) N1 a1 s1) (wSg σ1) M) 0 0 := by
    intro k
    induction k with
    | zero =>
      intro a1 i σ1 B1 N1 s1 h1 h2
      omega
    | succ k ih =>
      intro a1 i σ1 B1 N1 s1 h1 h2 hi hok hB hp he hik
      refine gq_iload_n hX dX5_doesAll_12 rfl rfl rfl ?_
      refine gq_if_eqF (tgt := 57) hX dX5_doesAll_13 rfl rfl (by decide) ?_
      refine gq_aload_n hX dX5_doesAll_16 rfl rfl rfl ?_
      have hc : (cmdM l a1).1 = true := by
        by_cases h9 : (cmdM l a1).1 = true
        · exact h9
        · rw [pAll_n h9] at hp
          cases hp
      have hg := cmdM_lt hc
      have hle := cmdM_le (l := l) h1
      obtain ⟨h13, hlen⟩ := cm_len hc
      refine gq_callV (mc := 0) (ms := 0) (nc1 := 0) (ns1 := 0) hX dX5_doesAll_17 vX5_281 (mp_cmd hb (T := dnT T i) (N := N1) (s := s1) (a := a1) ht (by omega) (by omega)) rfl (mqR0 hb) rfl rfl (Nat.le_of_ble_eq_true rfl) ⟨(Nat.le_of_ble_eq_true rfl), (Nat.le_of_ble_eq_true rfl)⟩ rfl rfl ?_
      rintro r M1 ⟨rfl, N2, s2, rfl, hs⟩
      rw [show (cmR (cmdM l a1)).2.1 = (cmdM l a1).2.1 from rfl]
      obtain ⟨hs1, hs2⟩ := hs hc
      obtain ⟨hpf, hpd⟩ := pay_of hc hs2 σ1
      refine gq_pop hX dX5_doesAll_20 rfl rfl ?_
      refine gq_aload_n hX dX5_doesAll_21 rfl rfl rfl ?_
      refine gq_callVe hX dX5_doesAll_22 rfl vX5_287 (mn_all hb (T := (rdT (dnT T i) N2 (cmdM l a1).2.1 s2)) hok.1 hok.2.1 hok.2.2.2.2.2.2.1 h13 hs1 rfl rfl) rfl (mqR0 hb) rfl rfl (Nat.le_of_ble_eq_true rfl) ⟨(Nat.le_of_ble_eq_true rfl), (Nat.le_of_ble_eq_true rfl)⟩ (Nat.zero_add _) (Nat.zero_add _) ?_
      rw [show xF (σ1.1, σ1.2.1, σ1.2.2.1, σ1.2.2.2) (cmdM l a1).2.2.1 ((rdT (dnT T i) N2 (cmdM l a1).2.1 s2).2 8 0) ((rdT (dnT T i) N2 (cmdM l a1).2.1 s2).2 8 1) = xFL σ1 ((cmdM l a1).2.2.1, (cmdM l a1).2.2.2) from hpf]
      refine gq_istore_n hX dX5_doesAll_25 rfl rfl (Nat.le_of_ble_eq_true rfl) rfl ?_
      refine gq_iload_n hX dX5_doesAll_26 rfl rfl rfl ?_
      by_cases h0 : xFL σ1 ((cmdM l a1).2.2.1, (cmdM l a1).2.2.2) = 0
      · refine gq_if_eqT (tgt := 32) hX dX5_doesAll_27 rfl h0 ?_
        refine gq_aload_n hX dX5_doesAll_32 rfl rfl rfl ?_
        refine gq_callV (mc := 0) (ms := 0) (nc1 := 0) (ns1 := 0) hX dX5_doesAll_33 vX5_290 (md_all hb (T := (rdT (dnT T i) N2 (cmdM l a1).2.1 s2)) hok (by omega) h13 hs1 rfl rfl (hpf.trans h0)) rfl (mqR0 hb) rfl rfl (Nat.le_of_ble_eq_true rfl) ⟨(Nat.le_of_ble_eq_true rfl), (Nat.le_of_ble_eq_true rfl)⟩ rfl rfl ?_
        rintro r M1 ⟨hr1, hr2, rfl⟩
        obtain ⟨v, rfl⟩ := Option.isSome_iff_exists.mp hr1
        rw [show xD (σ1.1, σ1.2.1, σ1.2.2.1, σ1.2.2.2) (cmdM l a1).2.2.1 ((rdT (dnT T i) N2 (cmdM l a1).2.1 s2).2 8 0) ((rdT (dnT T i) N2 (cmdM l a1).2.1 s2).2 8 1) = xDL σ1 ((cmdM l a1).2.2.1, (cmdM l a1).2.2.2) from hpd]
        refine gq_pop hX dX5_doesAll_36 rfl (hr2 v rfl) ?_
        refine gq_aload_n hX dX5_doesAll_37 rfl rfl rfl ?_
        refine gq_dup hX dX5_doesAll_38 rfl rfl ?_
        refine gq_getf hX dX5_doesAll_39 rfl fX5_284 (mqR0 hb) rfl ?_
        refine gq_iconst (v := nI 1) hX dX5_doesAll_42 rfl (by decide) ?_
        refine gq_iadd hX dX5_doesAll_43 rfl ?_
        rw [show (rdT (dnT T i) N2 (cmdM l a1).2.1 s2).1 11 = nI i from rfl, inM]
        refine gq_putf hX dX5_doesAll_44 rfl fX5_284 rfl rfl rfl (mqR0 hb) (Nat.le_of_ble_eq_true rfl) (hb.2 0 (by decide)) (mqW0_19 hb) ?_
        rw [dnT_rd]
        refine gq_aload_n hX dX5_doesAll_47 rfl rfl rfl ?_
        refine gq_bipush (v := nI 59) hX dX5_doesAll_48 rfl (by decide) ?_
        rcases Bool.eq_false_or_eq_true (nx l (cmdM l a1).2.1 59) with h9 | h9
        · refine gq_callVe hX dX5_doesAll_50 rfl vX5_248 (mp_reads_y hb (T := dnT T (i + 1)) (N := N2) (s := s2) (a := (cmdM l a1).2.1) ht (by omega) h9) rfl (mqR0 hb) rfl rfl (Nat.le_of_ble_eq_true rfl) ⟨(Nat.le_of_ble_eq_true rfl), (Nat.le_of_ble_eq_true rfl)⟩ (Nat.zero_add _) (Nat.zero_add _) ?_
          refine gq_istore_n hX dX5_doesAll_53 rfl rfl (Nat.le_of_ble_eq_true rfl) rfl ?_
          refine gq_goto (tgt := 12) hX dX5_doesAll_54 rfl ?_
          have hx := nx_lt h9
          rw [pAll_y hc h9] at hp he
          have he2 : exL (pAll l 60 0).2.2 σ 0 = exL (pAll l k ((cmdM l a1).2.1 + 1)).2.2 (xDL σ1 ((cmdM l a1).2.2.1, (cmdM l a1).2.2.2)) (i + 1) := by rw [he]; exact if_pos h0
          exact gq_forget 2 (ih _ (i + 1) (xDL σ1 ((cmdM l a1).2.2.1, (cmdM l a1).2.2.2)) (B1 + 1000) N2 s2 (by omega) (by omega) (by omega) (hok.xD (by omega) h0) (by omega) hp he2 (by omega))
        · refine gq_callVe hX dX5_doesAll_50 rfl vX5_248 (mp_reads_n hb (T := dnT T (i + 1)) (N := N2) (s := s2) (a := (cmdM l a1).2.1) ht (by omega) (by decide) h9) rfl (mqR0 hb) rfl rfl (Nat.le_of_ble_eq_true rfl) ⟨(Nat.le_of_ble_eq_true rfl), (Nat.le_of_ble_eq_true rfl)⟩ (Nat.zero_add _) (Nat.zero_add _) ?_
          refine gq_istore_n hX dX5_doesAll_53 rfl rfl (Nat.le_of_ble_eq_true rfl) rfl ?_
          refine gq_goto (tgt := 12) hX dX5_doesAll_54 rfl ?_
          refine gq_iload_n hX dX5_doesAll_12 rfl rfl rfl ?_
          refine gq_if_eqT (tgt := 57) hX dX5_doesAll_13 rfl rfl ?_
          refine gq_iconst (v := nI 0) hX dX5_doesAll_57 rfl (by decide) ?_
          rw [pAll_e hc (by rw [h9]; decide)] at he
          have he2 : exL (pAll l 60 0).2.2 σ 0 = (xDL σ1 ((cmdM l a1).2.2.1, (cmdM l a1).2.2.2), i + 1, nI 0) := by rw [he]; exact if_pos h0
          exact gq_iret hX hQ dX5_doesAll_58 rfl ⟨by rw [he2], N2, (cmdM l a1).2.1, s2, by rw [he2]⟩
      · refine gq_if_eqF (tgt := 32) hX dX5_doesAll_27 rfl rfl h0 ?_
        refine gq_iload_n hX dX5_doesAll_30 rfl rfl rfl ?_
        have he2 : exL (pAll l 60 0).2.2 σ 0 = (σ1, i, xFL σ1 ((cmdM l a1).2.2.1, (cmdM l a1).2.2.2)) := by
          rw [he]
          rcases Bool.eq_false_or_eq_true (nx l (cmdM l a1).2.1 59) with h9 | h9
          · rw [pAll_y hc h9]
            exact if_neg h0
          · rw [pAll_e hc (by rw [h9]; decide)]
            exact if_neg h0
        exact gq_iret hX hQ dX5_doesAll_31 rfl ⟨by rw [he2], N2, (cmdM l a1).2.1, s2, by rw [he2]⟩
  exact lp 60 0 0 σ B N s (Nat.zero_le _) (by omega) (by decide) hok (by omega) hp rfl (by decide)

