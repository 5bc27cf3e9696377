theorem uL_164 : CallI RL 164 mX4_init := ⟨gmX4_init, in1 32 rfl rfl, in1 33 rfl rfl, rfl, rfl⟩
theorem uL_167 : CallI RL 167 mX5_init := ⟨gmX5_init, in7 37 rfl rfl, in7 38 rfl rfl, rfl, rfl⟩
theorem uL_168 : CallH RL 168 mL_addCommittee := ⟨gmL_addCommittee, in2 234 rfl rfl, in2 235 rfl rfl⟩
theorem uL_173 : CallV RL 173 mX5_addCommittee := ⟨gmX5_addCommittee, in7 106 rfl rfl, in7 107 rfl rfl, in7 108 rfl rfl⟩
theorem uL_174 : CallV RL 174 mX5_thrown := ⟨gmX5_thrown, in7 102 rfl rfl, in7 103 rfl rfl, in7 104 rfl rfl⟩
theorem uL_177 : CallH RL 177 mL_addTail := ⟨gmL_addTail, in3 34 rfl rfl, in3 35 rfl rfl⟩
theorem uL_179 : CallV RL 179 mX5_addTail := ⟨gmX5_addTail, in7 141 rfl rfl, in7 142 rfl rfl, in7 143 rfl rfl⟩
theorem uL_180 : CallH RL 180 mL_pay := ⟨gmL_pay, in3 51 rfl rfl, in3 52 rfl rfl⟩
theorem uL_183 : CallV RL 183 mX5_pay := ⟨gmX5_pay, in7 153 rfl rfl, in7 154 rfl rfl, in7 155 rfl rfl⟩
theorem uL_184 : CallH RL 184 mL_launch := ⟨gmL_launch, in3 105 rfl rfl, in3 106 rfl rfl⟩
theorem uL_186 : CallV RL 186 mX5_launch := ⟨gmX5_launch, in7 173 rfl rfl, in7 174 rfl rfl, in7 175 rfl rfl⟩
theorem uL_187 : CallV RL 187 mX4_committeeCount := ⟨gmX4_committeeCount, in2 14 rfl rfl, in2 15 rfl rfl, in2 16 rfl rfl⟩
theorem uL_190 : CallV RL 190 mX5_committeeCount := ⟨gmX5_committeeCount, in8 103 rfl rfl, in8 104 rfl rfl, in8 105 rfl rfl⟩
theorem uL_191 : CallH RL 191 mL_members := ⟨gmL_members, in3 121 rfl rfl, in3 122 rfl rfl⟩
theorem uL_193 : CallV RL 193 mX5_members := ⟨gmX5_members, in8 107 rfl rfl, in8 108 rfl rfl, in8 109 rfl rfl⟩
theorem uL_194 : CallH RL 194 mL_arrears := ⟨gmL_arrears, in3 128 rfl rfl, in3 129 rfl rfl⟩
theorem uL_196 : CallV RL 196 mX5_arrears := ⟨gmX5_arrears, in8 115 rfl rfl, in8 116 rfl rfl, in8 117 rfl rfl⟩
theorem uL_197 : CallH RL 197 mL_isFlying := ⟨gmL_isFlying, in3 135 rfl rfl, in3 136 rfl rfl⟩
theorem uL_199 : CallV RL 199 mX5_isFlying := ⟨gmX5_isFlying, in8 119 rfl rfl, in8 120 rfl rfl, in8 121 rfl rfl⟩
theorem uL_200 : CallH RL 200 mL_tailLength := ⟨gmL_tailLength, in3 142 rfl rfl, in3 143 rfl rfl⟩
theorem uL_202 : CallV RL 202 mX5_tailLength := ⟨gmX5_tailLength, in8 123 rfl rfl, in8 124 rfl rfl, in8 125 rfl rfl⟩
theorem uL_203 : CallH RL 203 mL_tailsOf := ⟨gmL_tailsOf, in3 150 rfl rfl, in3 151 rfl rfl⟩
theorem uL_205 : CallV RL 205 mX5_tailsOf := ⟨gmX5_tailsOf, in8 127 rfl rfl, in8 128 rfl rfl, in8 129 rfl rfl⟩
theorem uL_206 : CallV RL 206 mX4_tailCount := ⟨gmX4_tailCount, in2 18 rfl rfl, in2 19 rfl rfl, in2 20 rfl rfl⟩
theorem uL_209 : CallV RL 209 mX5_tailCount := ⟨gmX5_tailCount, in8 131 rfl rfl, in8 132 rfl rfl, in8 133 rfl rfl⟩
theorem uL_210 : CallH RL 210 mL_length := ⟨gmL_length, in3 161 rfl rfl, in3 162 rfl rfl⟩
theorem uL_212 : CallV RL 212 mX5_length := ⟨gmX5_length, in8 135 rfl rfl, in8 136 rfl rfl, in8 137 rfl rfl⟩
theorem uL_213 : CallH RL 213 mL_isFree := ⟨gmL_isFree, in3 177 rfl rfl, in3 178 rfl rfl⟩
theorem uL_215 : CallV RL 215 mX5_isFree := ⟨gmX5_isFree, in8 139 rfl rfl, in8 140 rfl rfl, in8 141 rfl rfl⟩
theorem uL_216 : CallH RL 216 mL_renterOf := ⟨gmL_renterOf, in3 184 rfl rfl, in3 185 rfl rfl⟩
theorem uL_218 : CallV RL 218 mX5_renterOf := ⟨gmX5_renterOf, in8 143 rfl rfl, in8 144 rfl rfl, in8 145 rfl rfl⟩
theorem uL_219 : CallH RL 219 mL_shortestFreeTail := ⟨gmL_shortestFreeTail, in3 208 rfl rfl, in3 209 rfl rfl⟩
theorem uL_222 : CallV RL 222 mX5_shortestFreeTail := ⟨gmX5_shortestFreeTail, in8 147 rfl rfl, in8 148 rfl rfl, in8 149 rfl rfl⟩
theorem uL_223 : CallH RL 223 mL_moveToRent := ⟨gmL_moveToRent, in3 220 rfl rfl, in3 221 rfl rfl⟩
theorem uL_225 : CallV RL 225 mX5_moveToRent := ⟨gmX5_moveToRent, in7 193 rfl rfl, in7 194 rfl rfl, in7 195 rfl rfl⟩
theorem uL_226 : CallH RL 226 mL_moveToReturn := ⟨gmL_moveToReturn, in4 10 rfl rfl, in4 11 rfl rfl⟩
theorem uL_228 : CallV RL 228 mX5_moveToReturn := ⟨gmX5_moveToReturn, in7 217 rfl rfl, in7 218 rfl rfl, in7 219 rfl rfl⟩
theorem uL_229 : CallH RL 229 mL_moveToGround := ⟨gmL_moveToGround, in4 17 rfl rfl, in4 18 rfl rfl⟩
theorem uL_231 : CallV RL 231 mX5_moveToGround := ⟨gmX5_moveToGround, in7 221 rfl rfl, in7 222 rfl rfl, in7 223 rfl rfl⟩
theorem uL_232 : CallH RL 232 mL_second := ⟨gmL_second, in4 28 rfl rfl, in4 29 rfl rfl⟩
theorem uL_234 : CallV RL 234 mX5_second := ⟨gmX5_second, in7 225 rfl rfl, in7 226 rfl rfl, in7 227 rfl rfl⟩
theorem uL_235 : CallH RL 235 mL_untable := ⟨gmL_untable, in4 54 rfl rfl, in4 55 rfl rfl⟩
theorem uL_237 : CallV RL 237 mX5_untable := ⟨gmX5_untable, in8 5 rfl rfl, in8 6 rfl rfl, in8 7 rfl rfl⟩
theorem uL_238 : CallH RL 238 mL_withdraw := ⟨gmL_withdraw, in4 70 rfl rfl, in4 71 rfl rfl⟩
theorem uL_240 : CallV RL 240 mX5_withdraw := ⟨gmX5_withdraw, in8 21 rfl rfl, in8 22 rfl rfl, in8 23 rfl rfl⟩
theorem uL_241 : CallH RL 241 mL_vote := ⟨gmL_vote, in4 89 rfl rfl, in4 90 rfl rfl⟩
theorem uL_243 : CallV RL 243 mX5_vote := ⟨gmX5_vote, in8 37 rfl rfl, in8 38 rfl rfl, in8 39 rfl rfl⟩
theorem uL_244 : CallV RL 244 mX4_openMotions := ⟨gmX4_openMotions, in2 22 rfl rfl, in2 23 rfl rfl, in2 24 rfl rfl⟩
theorem uL_247 : CallV RL 247 mX5_openMotions := ⟨gmX5_openMotions, in8 151 rfl rfl, in8 152 rfl rfl, in8 153 rfl rfl⟩
theorem uL_248 : CallH RL 248 mL_motionAt := ⟨gmL_motionAt, in4 117 rfl rfl, in4 118 rfl rfl⟩
theorem uL_250 : CallV RL 250 mX5_motionAt := ⟨gmX5_motionAt, in8 155 rfl rfl, in8 156 rfl rfl, in8 157 rfl rfl⟩
theorem uL_251 : CallH RL 251 mL_moverOf := ⟨gmL_moverOf, in4 125 rfl rfl, in4 126 rfl rfl⟩
theorem uL_253 : CallV RL 253 mX5_moverOf := ⟨gmX5_moverOf, in8 159 rfl rfl, in8 160 rfl rfl, in8 161 rfl rfl⟩
theorem uL_254 : CallH RL 254 mL_isSeconded := ⟨gmL_isSeconded, in4 137 rfl rfl, in4 138 rfl rfl⟩
theorem uL_256 : CallV RL 256 mX5_isSeconded := ⟨gmX5_isSeconded, in8 167 rfl rfl, in8 168 rfl rfl, in8 169 rfl rfl⟩
theorem uL_257 : CallH RL 257 mL_seconderOf := ⟨gmL_seconderOf, in4 144 rfl rfl, in4 145 rfl rfl⟩
theorem uL_259 : CallV RL 259 mX5_seconderOf := ⟨gmX5_seconderOf, in8 171 rfl rfl, in8 172 rfl rfl, in8 173 rfl rfl⟩
theorem uL_260 : CallH RL 260 mL_isTabled := ⟨gmL_isTabled, in4 152 rfl rfl, in4 153 rfl rfl⟩
theorem uL_262 : CallV RL 262 mX5_isTabled := ⟨gmX5_isTabled, in8 175 rfl rfl, in8 176 rfl rfl, in8 177 rfl rfl⟩
theorem uL_263 : CallH RL 263 mL_votesFor := ⟨gmL_votesFor, in4 159 rfl rfl, in4 160 rfl rfl⟩
theorem uL_265 : CallV RL 265 mX5_votesFor := ⟨gmX5_votesFor, in8 179 rfl rfl, in8 180 rfl rfl, in8 181 rfl rfl⟩
theorem uL_266 : CallH RL 266 mL_votesForByMember := ⟨gmL_votesForByMember, in4 167 rfl rfl, in4 168 rfl rfl⟩
theorem uL_268 : CallV RL 268 mX5_votesForByMember := ⟨gmX5_votesForByMember, in8 183 rfl rfl, in8 184 rfl rfl, in8 185 rfl rfl⟩
theorem uL_269 : CallH RL 269 mL_votesAgainst := ⟨gmL_votesAgainst, in4 175 rfl rfl, in4 176 rfl rfl⟩
theorem uL_271 : CallV RL 271 mX5_votesAgainst := ⟨gmX5_votesAgainst, in8 188 rfl rfl, in8 189 rfl rfl, in8 190 rfl rfl⟩
theorem uL_272 : CallH RL 272 mL_gust := ⟨gmL_gust, in4 183 rfl rfl, in4 184 rfl rfl⟩
theorem uL_274 : CallV RL 274 mX5_gust := ⟨gmX5_gust, in8 73 rfl rfl, in8 74 rfl rfl, in8 75 rfl rfl⟩
theorem uL_275 : CallH RL 275 mL_pass := ⟨gmL_pass, in4 199 rfl rfl, in4 200 rfl rfl⟩
theorem uL_277 : CallV RL 277 mX5_pass := ⟨gmX5_pass, in8 88 rfl rfl, in8 89 rfl rfl, in8 90 rfl rfl⟩
theorem uL_278 : CallH RL 278 mL_arrearsAfter := ⟨gmL_arrearsAfter, in4 211 rfl rfl, in4 212 rfl rfl⟩
theorem uL_280 : CallV RL 280 mX5_arrearsAfter := ⟨gmX5_arrearsAfter, in8 192 rfl rfl, in8 193 rfl rfl, in8 194 rfl rfl⟩
theorem uL_281 : CallH RL 281 mL_arrearsAfterByRate := ⟨gmL_arrearsAfterByRate, in4 215 rfl rfl, in4 216 rfl rfl⟩
theorem uL_283 : CallV RL 283 mX5_arrearsAfterByRate := ⟨gmX5_arrearsAfterByRate, in8 196 rfl rfl, in8 197 rfl rfl, in8 198 rfl rfl⟩
theorem uL_284 : CallV RL 284 mX4_hour := ⟨gmX4_hour, in2 26 rfl rfl, in2 27 rfl rfl, in2 28 rfl rfl⟩
theorem uL_287 : CallV RL 287 mX5_hour := ⟨gmX5_hour, in8 201 rfl rfl, in8 202 rfl rfl, in8 203 rfl rfl⟩
theorem uL_288 : CallH RL 288 mL_committeeAtRank := ⟨gmL_committeeAtRank, in4 219 rfl rfl, in4 220 rfl rfl⟩
theorem uL_290 : CallV RL 290 mX5_committeeAtRank := ⟨gmX5_committeeAtRank, in8 205 rfl rfl, in8 206 rfl rfl, in8 207 rfl rfl⟩
theorem uL_291 : CallV RL 291 mX4_carriedCount := ⟨gmX4_carriedCount, in2 30 rfl rfl, in2 31 rfl rfl, in2 32 rfl rfl⟩
theorem uL_294 : CallV RL 294 mX5_carriedCount := ⟨gmX5_carriedCount, in8 213 rfl rfl, in8 214 rfl rfl, in8 215 rfl rfl⟩
theorem uL_295 : CallV RL 295 mX4_lostCount := ⟨gmX4_lostCount, in2 34 rfl rfl, in2 35 rfl rfl, in2 36 rfl rfl⟩
theorem uL_298 : CallV RL 298 mX5_lostCount := ⟨gmX5_lostCount, in8 217 rfl rfl, in8 218 rfl rfl, in8 219 rfl rfl⟩
theorem uL_299 : CallV RL 299 mX4_paidTotal := ⟨gmX4_paidTotal, in2 38 rfl rfl, in2 39 rfl rfl, in2 40 rfl rfl⟩
theorem uL_302 : CallV RL 302 mX5_paidTotal := ⟨gmX5_paidTotal, in8 221 rfl rfl, in8 222 rfl rfl, in8 223 rfl rfl⟩
theorem uL_303 : CallV RL 303 mX4_chargedTotal := ⟨gmX4_chargedTotal, in2 42 rfl rfl, in2 43 rfl rfl, in2 44 rfl rfl⟩
theorem uL_306 : CallV RL 306 mX5_chargedTotal := ⟨gmX5_chargedTotal, in8 225 rfl rfl, in8 226 rfl rfl, in8 227 rfl rfl⟩
theorem uL_307 : CallH RL 307 mL_append := ⟨gmL_append, in4 239 rfl rfl, in5 0 rfl rfl⟩
theorem uL_310 : CallV RL 310 mX5_append := ⟨gmX5_append, in9 29 rfl rfl, in9 30 rfl rfl, in9 31 rfl rfl⟩
theorem uL_311 : CallH RL 311 mL_run := ⟨gmL_run, in5 116 rfl rfl, in5 117 rfl rfl⟩
theorem uL_313 : CallV RL 313 mX5_run := ⟨gmX5_run, in9 33 rfl rfl, in9 34 rfl rfl, in9 35 rfl rfl⟩
theorem uL_314 : CallH RL 314 mL_errorPosition := ⟨gmL_errorPosition, in6 164 rfl rfl, in6 165 rfl rfl⟩
theorem uL_316 : CallV RL 316 mX5_errorPosition := ⟨gmX5_errorPosition, in9 113 rfl rfl, in9 114 rfl rfl, in9 115 rfl rfl⟩
theorem uL_317 : CallH RL 317 mL_failedCommand := ⟨gmL_failedCommand, in6 172 rfl rfl, in6 173 rfl rfl⟩
theorem uL_319 : CallV RL 319 mX5_failedCommand := ⟨gmX5_failedCommand, in9 117 rfl rfl, in9 118 rfl rfl, in9 119 rfl rfl⟩
theorem uL_320 : CallH RL 320 mL_failedException := ⟨gmL_failedException, in6 180 rfl rfl, in6 181 rfl rfl⟩
theorem uL_322 : CallV RL 322 mX5_failedException := ⟨gmX5_failedException, in9 121 rfl rfl, in9 122 rfl rfl, in9 123 rfl rfl⟩
theorem uL_323 : CallH RL 323 mL_describeCommittee := ⟨gmL_describeCommittee, in6 187 rfl rfl, in6 188 rfl rfl⟩
theorem uL_325 : CallV RL 325 mX5_describeCommittee := ⟨gmX5_describeCommittee, in9 9 rfl rfl, in9 10 rfl rfl, in9 11 rfl rfl⟩
theorem uL_326 : CallH RL 326 mL_describeMotion := ⟨gmL_describeMotion, in6 198 rfl rfl, in6 199 rfl rfl⟩
theorem uL_328 : CallV RL 328 mX5_describeMotion := ⟨gmX5_describeMotion, in9 21 rfl rfl, in9 22 rfl rfl, in9 23 rfl rfl⟩
theorem uL_329 : CallH RL 329 mL_lineAt := ⟨gmL_lineAt, in6 205 rfl rfl, in6 206 rfl rfl⟩
theorem uL_331 : CallV RL 331 mX5_lineAt := ⟨gmX5_lineAt, in9 25 rfl rfl, in9 26 rfl rfl, in9 27 rfl rfl⟩
theorem uL_332 : CallH RL 332 mL_meanArrears := ⟨gmL_meanArrears, in6 214 rfl rfl, in6 215 rfl rfl⟩
theorem uL_335 : CallV RL 335 mX5_meanArrears := ⟨gmX5_meanArrears, in8 229 rfl rfl, in8 230 rfl rfl, in8 231 rfl rfl⟩
theorem uL_336 : CallH RL 336 mL_rentedShare := ⟨gmL_rentedShare, in6 238 rfl rfl, in6 239 rfl rfl⟩
theorem uL_338 : CallV RL 338 mX5_rentedShare := ⟨gmX5_rentedShare, in8 237 rfl rfl, in8 238 rfl rfl, in8 239 rfl rfl⟩
theorem uL_339 : CallV RL 339 mX4_isConsistent := ⟨gmX4_isConsistent, in2 46 rfl rfl, in2 47 rfl rfl, in2 48 rfl rfl⟩
theorem uL_343 : CallV RL 343 mX5_isConsistent := ⟨gmX5_isConsistent, in9 5 rfl rfl, in9 6 rfl rfl, in9 7 rfl rfl⟩
theorem uL_344 : CallH RL 344 mL_undo := ⟨gmL_undo, in7 11 rfl rfl, in7 12 rfl rfl⟩
theorem uL_346 : CallV RL 346 mX5_undo := ⟨gmX5_undo, in9 125 rfl rfl, in9 126 rfl rfl, in9 127 rfl rfl⟩
theorem uL_347 : CallV RL 347 mX4_save := ⟨gmX4_save, in2 230 rfl rfl, in2 231 rfl rfl, in2 232 rfl rfl⟩
theorem uL_350 : CallV RL 350 mX5_save := ⟨gmX5_save, in9 129 rfl rfl, in9 130 rfl rfl, in9 131 rfl rfl⟩
theorem uL_351 : CallH RL 351 mL_restore := ⟨gmL_restore, in7 23 rfl rfl, in7 24 rfl rfl⟩
theorem uL_353 : CallV RL 353 mX5_restore := ⟨gmX5_restore, in9 133 rfl rfl, in9 134 rfl rfl, in9 135 rfl rfl⟩
abbrev mLw (nm : String) (tb : List (Nat × Nat × Nat × Nat)) : Mth := (⟨RL, nm, "([I)Z"⟩, cL_law, 9, some .boolean, 1, 1000, tb)
/-- the script -/
def Sc (E : Ev) (X : Cx0) (bs L : Nat) (xs : Nat → Int32) : Prop := va_X bs L xs X.2.2.2.1 X.2.2.2.1.heap ∧ bs < X.2.2.2.1.heap.size ∧ ¬ AE E bs
section LW
variable {E : Ev} {X : Cx0} {μ : Mth} {Q : State → Prop} {pc q : Nat} {ls st : List Value} {M : Hp} {nc ns : Nat} {bs L : Nat} {xs : Nat → Int32}
theorem gq_sld (hX : Cx E X μ) (hs : Sc E X bs L xs) {i v : Int32} (d : decode μ.2.1 pc = .ok (.iaload, 1)) (hq : pc + 1 = q) (hin : vp_in i L) (hv : xs i.toNatClampNeg = v) (kk : Gq E X μ Q q ls (.int v :: st) M nc ns) : Gq E X μ Q pc ls (.int i :: .ref bs :: st) M nc ns := by
  subst hq
  subst hv
  intro H locs cells slots lsR hR hS hL h1 h2
  exact va_sld hX.1 hX.2.1 hs.1 hs.2.1 hs.2.2 hS hin d (kk H locs cells slots lsR hR hS hL h1 h2)
theorem gq_slen (hX : Cx E X μ) (hs : Sc E X bs L xs) (d : decode μ.2.1 pc = .ok (.arraylength, 1)) (hq : pc + 1 = q) (kk : Gq E X μ Q q ls (.int (nI L) :: st) M nc ns) : Gq E X μ Q pc ls (.ref bs :: st) M nc ns := by
  subst hq
  intro H locs cells slots lsR hR hS hL h1 h2
  exact va_slen hX.1 hX.2.1 hs.1 hs.2.1 hs.2.2 hS d (kk H locs cells slots lsR hR hS hL h1 h2)
end LW
theorem Wd.c151 {E : Ev} {b : Nat → Nat} {K : Kt} {M : Hp} (hW : Wd E b K M) : ∃ fs, M (b 151) = some (.inr (9, fs)) := ⟨_, hW.1 151 ⟨by decide, by decide, by decide⟩⟩
theorem thr_wd {E : Ev} {b : Nat → Nat} {K : Kt} {M : Hp} (hb : Lay E 162 b) (hW : Wd E b K M) : Ct E mX5_thrown [.ref (b 151)] M (eqR (some (.int (K.2.2.2.2.1.1 0))) M) 0 0 := by
  have h := mt_thrown (E := E) (b := bM b) (T := K.2.2.2.2.1) (w := K.2.2.2.2.2.1) (M := M) hb.bM
  rw [hW.md hb] at h
  exact h
theorem lg_cmp_self (x : Int64) : lg_cmp x x = 0 := by
  unfold lg_cmp
  simp
theorem nI_kz {k : Nat} (h : k < 10) (h0 : ¬ k = 0) : ¬ nI k = 0 := fun e => h0 ((nI_eq (by omega) (by decide)).mp (show nI k = nI 0 from e))
theorem dcmp_0 {x : UInt64} (h : Jvm.FP.Core.dIsNaN x = false) : Op.cmpValue (FP.dcmp x x) .l = 0 := by
  have h2 := Jvm.FP.Core.dcmp_self ((Jvm.FP.Core.notNaN_iff x).mp h)
  rw [show FP.dcmp x x = some .eq from h2]
  rfl

set_option maxRecDepth 100000 in
set_option maxHeartbeats 4000000 in
theorem lk_0 {E : Ev} {X : Cx0} {nm : String} {tb : List (Nat × Nat × Nat × Nat)} {Q : State → Prop} {b : Nat → Nat} {K : Kt} {M : Hp} {B nc ns bs L i : Nat} {xs : Nat → Int32} (hX : Cx E X (mLw nm tb)) (hsc : Sc E X bs L xs) (hi : i + 2 < L) (hL : L ≤ 1536) (hb : Lay E 162 b) (hW : Wd E b K M) (hS : Sim K B) (hB9 : B + 200000 < 2 ^ 26) (kk : ∀ K2 M2, Wd E b K2 M2 → Sim K2 (B + 60000) → Gq E X (mLw nm tb) Q 2986 [.ref bs, .ref (b 0), .ref (b 151), .ref (b 160), .ref (b 161), .int (nI i), hole, hole, hole] [] M2 nc ns) : Gq E X (mLw nm tb) Q 280 [.ref bs, .ref (b 0), .ref (b 151), .ref (b 160), .ref (b 161), .int (nI i), hole, hole, hole] [] M (nc + 23) (ns + 3266) := by
  obtain ⟨p1, hp1⟩ : ∃ z, z = xs (nI (i + 1)).toNatClampNeg := ⟨_, rfl⟩
  obtain ⟨k, R, hk, hcw, hcm⟩ := pr_addCommittee hb hW hS hB9 p1
  refine gq_aload_n hX dL_law_280 rfl rfl rfl ?_
  refine gq_aload_n hX dL_law_281 rfl rfl rfl ?_
  refine gq_iload hX dL_law_282 rfl rfl ?_
  refine gq_iconst (v := nI 1) hX dL_law_284 rfl (by decide) ?_
  refine gq_iadd hX dL_law_285 rfl ?_
  rw [nI_add]
  refine gq_sld hX hsc dL_law_286 rfl (vp_in_nI (by omega) (by omega)) hp1.symm ?_
  refine gq_aload_n hX dL_law_287 rfl rfl rfl ?_
  refine gq_callH (mc := 23) (ms := 3266) (nc1 := nc) (ns1 := ns) hX dL_law_288 uL_168 hcw rfl rfl (Nat.le_of_ble_eq_true rfl) ⟨(Nat.le_of_ble_eq_true rfl), (Nat.le_of_ble_eq_true rfl)⟩ (Nat.add_comm _ _) (Nat.add_comm _ _) ?_
  rintro v M1 ⟨rfl, K1, hW1, hR1⟩
  obtain ⟨fs1, hfs1⟩ := hW1.c151
  refine gq_istore hX dL_law_291 rfl (Nat.le_of_ble_eq_true rfl) rfl ?_
  refine gq_aload_n hX dL_law_293 rfl rfl rfl ?_
  refine gq_aload_n hX dL_law_294 rfl rfl rfl ?_
  refine gq_iload hX dL_law_295 rfl rfl ?_
  refine gq_iconst (v := nI 1) hX dL_law_297 rfl (by decide) ?_
  refine gq_iadd hX dL_law_298 rfl ?_
  rw [nI_add]
  refine gq_sld hX hsc dL_law_299 rfl (vp_in_nI (by omega) (by omega)) hp1.symm ?_
  refine gq_callV (mc := 0) (ms := 0) hX dL_law_300 uL_173 (hcm K1 M1 hR1 hW1) rfl hfs1 rfl rfl (Nat.le_of_ble_eq_true rfl) ⟨(Nat.le_of_ble_eq_true rfl), (Nat.le_of_ble_eq_true rfl)⟩ (Nat.zero_add _) (Nat.zero_add _) ?_
  rintro v M2 ⟨r, K2, rfl, hW2, ht, hlo, hS9⟩
  obtain ⟨fs2, hfs2⟩ := hW2.c151
  refine gq_istore hX dL_law_303 rfl (Nat.le_of_ble_eq_true rfl) rfl ?_
  refine gq_aload_n hX dL_law_305 rfl rfl rfl ?_
  refine gq_callVe hX dL_law_306 rfl uL_174 (thr_wd hb hW2) rfl hfs2 rfl rfl (Nat.le_of_ble_eq_true rfl) ⟨(Nat.le_of_ble_eq_true rfl), (Nat.le_of_ble_eq_true rfl)⟩ (Nat.zero_add _) (Nat.zero_add _) ?_
  rw [ht]
  refine gq_iload hX dL_law_309 rfl rfl ?_
  refine gq_icmp_eqT (tgt := 316) hX dL_law_311 rfl rfl ?_
  refine gq_iload hX dL_law_316 rfl rfl ?_
  by_cases hk0 : k = 0
  · subst hk0
    refine gq_if_neF (tgt := 333) hX dL_law_318 rfl rfl rfl ?_
    refine gq_aload_n hX dL_law_321 rfl rfl rfl ?_
    refine gq_iconst (v := nI 0) hX dL_law_322 rfl (by decide) ?_
    refine gq_lald hX dL_law_323 rfl hW2.lo (vp_in_nI (by decide) (by decide)) ?_
    rw [show K2.2.2.2.2.2.2.1 (nI 0).toNatClampNeg = g0 r from hlo rfl]
    refine gq_iload hX dL_law_324 rfl rfl ?_
    refine gq_i2l hX dL_law_326 rfl ?_
    refine gq_lcmp hX dL_law_327 rfl ?_
    rw [show lg_cmp (g0 r) r.toInt64 = 0 from lg_cmp_self _]
    refine gq_if_eqT (tgt := 333) hX dL_law_328 rfl rfl ?_
    refine gq_goto (tgt := 2986) hX dL_law_333 rfl ?_
    exact gq_forget 6 (gq_forget 7 (gq_forget 8 (kk _ _ hW2 hS9)))
  · refine gq_if_neT (tgt := 333) hX dL_law_318 rfl (nI_kz hk hk0) ?_
    refine gq_goto (tgt := 2986) hX dL_law_333 rfl ?_
    exact gq_forget 6 (gq_forget 7 (gq_forget 8 (kk _ _ hW2 hS9)))

set_option maxRecDepth 100000 in
set_option maxHeartbeats 4000000 in
theorem lk_1 {E : Ev} {X : Cx0} {nm : String} {tb : List (Nat × Nat × Nat × Nat)} {Q : State → Prop} {b : Nat → Nat} {K : Kt} {M : Hp} {B nc ns bs L i : Nat} {xs : Nat → Int32} (hX : Cx E X (mLw nm tb)) (hsc : Sc E X bs L xs) (hi : i + 2 < L) (hL : L ≤ 1536) (hb : Lay E 162 b) (hW : Wd E b K M) (hS : Sim K B) (hB9 : B + 200000 < 2 ^ 26) (kk : ∀ K2 M2, Wd E b K2 M2 → Sim K2 (B + 60000) → Gq E X (mLw nm tb) Q 2986 [.ref bs, .ref (b 0), .ref (b 151), .ref (b 160), .ref (b 161), .int (nI i), hole, hole, hole] [] M2 nc ns) : Gq E X (mLw nm tb) Q 336 [.ref bs, .ref (b 0), .ref (b 151), .ref (b 160), .ref (b 161), .int (nI i), hole, hole, hole] [] M (nc + 23) (ns + 3266) := by
  obtain ⟨p1, hp1⟩ : ∃ z, z = xs (nI (i + 1)).toNatClampNeg := ⟨_, rfl⟩
  obtain ⟨k, R, hk, hcw, hcm⟩ := pr_addTail hb hW hS hB9 p1
  refine gq_aload_n hX dL_law_336 rfl rfl rfl ?_
  refine gq_aload_n hX dL_law_337 rfl rfl rfl ?_
  refine gq_iload hX dL_law_338 rfl rfl ?_
  refine gq_iconst (v := nI 1) hX dL_law_340 rfl (by decide) ?_
  refine gq_iadd hX dL_law_341 rfl ?_
  rw [nI_add]
  refine gq_sld hX hsc dL_law_342 rfl (vp_in_nI (by omega) (by omega)) hp1.symm ?_
  refine gq_aload_n hX dL_law_343 rfl rfl rfl ?_
  refine gq_callH (mc := 23) (ms := 3266) (nc1 := nc) (ns1 := ns) hX dL_law_344 uL_177 hcw rfl rfl (Nat.le_of_ble_eq_true rfl) ⟨(Nat.le_of_ble_eq_true rfl), (Nat.le_of_ble_eq_true rfl)⟩ (Nat.add_comm _ _) (Nat.add_comm _ _) ?_
  rintro v M1 ⟨rfl, K1, hW1, hR1⟩
  obtain ⟨fs1, hfs1⟩ := hW1.c151
  refine gq_istore hX dL_law_347 rfl (Nat.le_of_ble_eq_true rfl) rfl ?_
  refine gq_aload_n hX dL_law_349 rfl rfl rfl ?_
  refine gq_aload_n hX dL_law_350 rfl rfl rfl ?_
  refine gq_iload hX dL_law_351 rfl rfl ?_
  refine gq_iconst (v := nI 1) hX dL_law_353 rfl (by decide) ?_
  refine gq_iadd hX dL_law_354 rfl ?_
  rw [nI_add]
  refine gq_sld hX hsc dL_law_355 rfl (vp_in_nI (by omega) (by omega)) hp1.symm ?_
  refine gq_callV (mc := 0) (ms := 0) hX dL_law_356 uL_179 (hcm K1 M1 hR1 hW1) rfl hfs1 rfl rfl (Nat.le_of_ble_eq_true rfl) ⟨(Nat.le_of_ble_eq_true rfl), (Nat.le_of_ble_eq_true rfl)⟩ (Nat.zero_add _) (Nat.zero_add _) ?_
  rintro v M2 ⟨r, K2, rfl, hW2, ht, hlo, hS9⟩
  obtain ⟨fs2, hfs2⟩ := hW2.c151
  refine gq_istore hX dL_law_359 rfl (Nat.le_of_ble_eq_true rfl) rfl ?_
  refine gq_aload_n hX dL_law_361 rfl rfl rfl ?_
  refine gq_callVe hX dL_law_362 rfl uL_174 (thr_wd hb hW2) rfl hfs2 rfl rfl (Nat.le_of_ble_eq_true rfl) ⟨(Nat.le_of_ble_eq_true rfl), (Nat.le_of_ble_eq_true rfl)⟩ (Nat.zero_add _) (Nat.zero_add _) ?_
  rw [ht]
  refine gq_iload hX dL_law_365 rfl rfl ?_
  refine gq_icmp_eqT (tgt := 372) hX dL_law_367 rfl rfl ?_
  refine gq_iload hX dL_law_372 rfl rfl ?_
  by_cases hk0 : k = 0
  · subst hk0
    refine gq_if_neF (tgt := 389) hX dL_law_374 rfl rfl rfl ?_
    refine gq_aload_n hX dL_law_377 rfl rfl rfl ?_
    refine gq_iconst (v := nI 0) hX dL_law_378 rfl (by decide) ?_
    refine gq_lald hX dL_law_379 rfl hW2.lo (vp_in_nI (by decide) (by decide)) ?_
    rw [show K2.2.2.2.2.2.2.1 (nI 0).toNatClampNeg = g0 r from hlo rfl]
    refine gq_iload hX dL_law_380 rfl rfl ?_
    refine gq_i2l hX dL_law_382 rfl ?_
    refine gq_lcmp hX dL_law_383 rfl ?_
    rw [show lg_cmp (g0 r) r.toInt64 = 0 from lg_cmp_self _]
    refine gq_if_eqT (tgt := 389) hX dL_law_384 rfl rfl ?_
    refine gq_goto (tgt := 2986) hX dL_law_389 rfl ?_
    exact gq_forget 6 (gq_forget 7 (gq_forget 8 (kk _ _ hW2 hS9)))
  · refine gq_if_neT (tgt := 389) hX dL_law_374 rfl (nI_kz hk hk0) ?_
    refine gq_goto (tgt := 2986) hX dL_law_389 rfl ?_
    exact gq_forget 6 (gq_forget 7 (gq_forget 8 (kk _ _ hW2 hS9)))

set_option maxRecDepth 100000 in
set_option maxHeartbeats 4000000 in
theorem lk_2 {E : Ev} {X : Cx0} {nm : String} {tb : List (Nat × Nat × Nat × Nat)} {Q : State → Prop} {b : Nat → Nat} {K : Kt} {M : Hp} {B nc ns bs L i : Nat} {xs : Nat → Int32} (hX : Cx E X (mLw nm tb)) (hsc : Sc E X bs L xs) (hi : i + 2 < L) (hL : L ≤ 1536) (hb : Lay E 162 b) (hW : Wd E b K M) (hS : Sim K B) (hB9 : B + 200000 < 2 ^ 26) (kk : ∀ K2 M2, Wd E b K2 M2 → Sim K2 (B + 60000) → Gq E X (mLw nm tb) Q 2986 [.ref bs, .ref (b 0), .ref (b 151), .ref (b 160), .ref (b 161), .int (nI i), hole, hole, hole] [] M2 nc ns) : Gq E X (mLw nm tb) Q 392 [.ref bs, .ref (b 0), .ref (b 151), .ref (b 160), .ref (b 161), .int (nI i), hole, hole, hole] [] M (nc + 23) (ns + 3266) := by
  obtain ⟨p1, hp1⟩ : ∃ z, z = xs (nI (i + 1)).toNatClampNeg := ⟨_, rfl⟩
  obtain ⟨p2, hp2⟩ : ∃ z, z = xs (nI (i + 2)).toNatClampNeg := ⟨_, rfl⟩
  obtain ⟨k, R, hk, hcw, hcm⟩ := pr_pay hb hW hS hB9 p1 p2
  refine gq_aload_n hX dL_law_392 rfl rfl rfl ?_
  refine gq_aload_n hX dL_law_393 rfl rfl rfl ?_
  refine gq_iload hX dL_law_394 rfl rfl ?_
  refine gq_iconst (v := nI 1) hX dL_law_396 rfl (by decide) ?_
  refine gq_iadd hX dL_law_397 rfl ?_
  rw [nI_add]
  refine gq_sld hX hsc dL_law_398 rfl (vp_in_nI (by omega) (by omega)) hp1.symm ?_
  refine gq_aload_n hX dL_law_399 rfl rfl rfl ?_
  refine gq_iload hX dL_law_400 rfl rfl ?_
  refine gq_iconst (v := nI 2) hX dL_law_402 rfl (by decide) ?_
  refine gq_iadd hX dL_law_403 rfl ?_
  rw [nI_add]
  refine gq_sld hX hsc dL_law_404 rfl (vp_in_nI (by omega) (by omega)) hp2.symm ?_
  refine gq_aload_n hX dL_law_405 rfl rfl rfl ?_
  refine gq_callH (mc := 23) (ms := 3266) (nc1 := nc) (ns1 := ns) hX dL_law_406 uL_180 hcw rfl rfl (Nat.le_of_ble_eq_true rfl) ⟨(Nat.le_of_ble_eq_true rfl), (Nat.le_of_ble_eq_true rfl)⟩ (Nat.add_comm _ _) (Nat.add_comm _ _) ?_
  rintro v M1 ⟨rfl, K1, hW1, hR1⟩
  obtain ⟨fs1, hfs1⟩ := hW1.c151
  refine gq_istore hX dL_law_409 rfl (Nat.le_of_ble_eq_true rfl) rfl ?_
  refine gq_aload_n hX dL_law_411 rfl rfl rfl ?_
  refine gq_aload_n hX dL_law_412 rfl rfl rfl ?_
  refine gq_iload hX dL_law_413 rfl rfl ?_
  refine gq_iconst (v := nI 1) hX dL_law_415 rfl (by decide) ?_
  refine gq_iadd hX dL_law_416 rfl ?_
  rw [nI_add]
  refine gq_sld hX hsc dL_law_417 rfl (vp_in_nI (by omega) (by omega)) hp1.symm ?_
  refine gq_aload_n hX dL_law_418 rfl rfl rfl ?_
  refine gq_iload hX dL_law_419 rfl rfl ?_
  refine gq_iconst (v := nI 2) hX dL_law_421 rfl (by decide) ?_
  refine gq_iadd hX dL_law_422 rfl ?_
  rw [nI_add]
  refine gq_sld hX hsc dL_law_423 rfl (vp_in_nI (by omega) (by omega)) hp2.symm ?_
  refine gq_callV (mc := 0) (ms := 0) hX dL_law_424 uL_183 (hcm K1 M1 hR1 hW1) rfl hfs1 rfl rfl (Nat.le_of_ble_eq_true rfl) ⟨(Nat.le_of_ble_eq_true rfl), (Nat.le_of_ble_eq_true rfl)⟩ (Nat.zero_add _) (Nat.zero_add _) ?_
  rintro v M2 ⟨r, K2, rfl, hW2, ht, hlo, hS9⟩
  obtain ⟨fs2, hfs2⟩ := hW2.c151
  refine gq_istore hX dL_law_427 rfl (Nat.le_of_ble_eq_true rfl) rfl ?_
  refine gq_aload_n hX dL_law_429 rfl rfl rfl ?_
  refine gq_callVe hX dL_law_430 rfl uL_174 (thr_wd hb hW2) rfl hfs2 rfl rfl (Nat.le_of_ble_eq_true rfl) ⟨(Nat.le_of_ble_eq_true rfl), (Nat.le_of_ble_eq_true rfl)⟩ (Nat.zero_add _) (Nat.zero_add _) ?_
  rw [ht]
  refine gq_iload hX dL_law_433 rfl rfl ?_
  refine gq_icmp_eqT (tgt := 440) hX dL_law_435 rfl rfl ?_
  refine gq_iload hX dL_law_440 rfl rfl ?_
  by_cases hk0 : k = 0
  · subst hk0
    refine gq_if_neF (tgt := 457) hX dL_law_442 rfl rfl rfl ?_
    refine gq_aload_n hX dL_law_445 rfl rfl rfl ?_
    refine gq_iconst (v := nI 0) hX dL_law_446 rfl (by decide) ?_
    refine gq_lald hX dL_law_447 rfl hW2.lo (vp_in_nI (by decide) (by decide)) ?_
    rw [show K2.2.2.2.2.2.2.1 (nI 0).toNatClampNeg = g0 r from hlo rfl]
    refine gq_iload hX dL_law_448 rfl rfl ?_
    refine gq_i2l hX dL_law_450 rfl ?_
    refine gq_lcmp hX dL_law_451 rfl ?_
    rw [show lg_cmp (g0 r) r.toInt64 = 0 from lg_cmp_self _]
    refine gq_if_eqT (tgt := 457) hX dL_law_452 rfl rfl ?_
    refine gq_goto (tgt := 2986) hX dL_law_457 rfl ?_
    exact gq_forget 6 (gq_forget 7 (gq_forget 8 (kk _ _ hW2 hS9)))
  · refine gq_if_neT (tgt := 457) hX dL_law_442 rfl (nI_kz hk hk0) ?_
    refine gq_goto (tgt := 2986) hX dL_law_457 rfl ?_
    exact gq_forget 6 (gq_forget 7 (gq_forget 8 (kk _ _ hW2 hS9)))

set_option maxRecDepth 100000 in
set_option maxHeartbeats 4000000 in
theorem lk_3 {E : Ev} {X : Cx0} {nm : String} {tb : List (Nat × Nat × Nat × Nat)} {Q : State → Prop} {b : Nat → Nat} {K : Kt} {M : Hp} {B nc ns bs L i : Nat} {xs : Nat → Int32} (hX : Cx E X (mLw nm tb)) (hsc : Sc E X bs L xs) (hi : i + 2 < L) (hL : L ≤ 1536) (hb : Lay E 162 b) (hW : Wd E b K M) (hS : Sim K B) (hB9 : B + 200000 < 2 ^ 26) (kk : ∀ K2 M2, Wd E b K2 M2 → Sim K2 (B + 60000) → Gq E X (mLw nm tb) Q 2986 [.ref bs, .ref (b 0), .ref (b 151), .ref (b 160), .ref (b 161), .int (nI i), hole, hole, hole] [] M2 nc ns) : Gq E X (mLw nm tb) Q 460 [.ref bs, .ref (b 0), .ref (b 151), .ref (b 160), .ref (b 161), .int (nI i), hole, hole, hole] [] M (nc + 23) (ns + 3266) := by
  obtain ⟨p1, hp1⟩ : ∃ z, z = xs (nI (i + 1)).toNatClampNeg := ⟨_, rfl⟩
  obtain ⟨k, R, hk, hcw, hcm⟩ := pr_launch hb hW hS hB9 p1
  refine gq_aload_n hX dL_law_460 rfl rfl rfl ?_
  refine gq_aload_n hX dL_law_461 rfl rfl rfl ?_
  refine gq_iload hX dL_law_462 rfl rfl ?_
  refine gq_iconst (v := nI 1) hX dL_law_464 rfl (by decide) ?_
  refine gq_iadd hX dL_law_465 rfl ?_
  rw [nI_add]
  refine gq_sld hX hsc dL_law_466 rfl (vp_in_nI (by omega) (by omega)) hp1.symm ?_
  refine gq_aload_n hX dL_law_467 rfl rfl rfl ?_
  refine gq_callH (mc := 23) (ms := 3266) (nc1 := nc) (ns1 := ns) hX dL_law_468 uL_184 hcw rfl rfl (Nat.le_of_ble_eq_true rfl) ⟨(Nat.le_of_ble_eq_true rfl), (Nat.le_of_ble_eq_true rfl)⟩ (Nat.add_comm _ _) (Nat.add_comm _ _) ?_
  rintro v M1 ⟨rfl, K1, hW1, hR1⟩
  obtain ⟨fs1, hfs1⟩ := hW1.c151
  refine gq_istore hX dL_law_471 rfl (Nat.le_of_ble_eq_true rfl) rfl ?_
  refine gq_aload_n hX dL_law_473 rfl rfl rfl ?_
  refine gq_aload_n hX dL_law_474 rfl rfl rfl ?_
  refine gq_iload hX dL_law_475 rfl rfl ?_
  refine gq_iconst (v := nI 1) hX dL_law_477 rfl (by decide) ?_
  refine gq_iadd hX dL_law_478 rfl ?_
  rw [nI_add]
  refine gq_sld hX hsc dL_law_479 rfl (vp_in_nI (by omega) (by omega)) hp1.symm ?_
  refine gq_callV (mc := 0) (ms := 0) hX dL_law_480 uL_186 (hcm K1 M1 hR1 hW1) rfl hfs1 rfl rfl (Nat.le_of_ble_eq_true rfl) ⟨(Nat.le_of_ble_eq_true rfl), (Nat.le_of_ble_eq_true rfl)⟩ (Nat.zero_add _) (Nat.zero_add _) ?_
  rintro v M2 ⟨r, K2, rfl, hW2, ht, hlo, hS9⟩
  obtain ⟨fs2, hfs2⟩ := hW2.c151
  refine gq_istore hX dL_law_483 rfl (Nat.le_of_ble_eq_true rfl) rfl ?_
  refine gq_aload_n hX dL_law_485 rfl rfl rfl ?_
  refine gq_callVe hX dL_law_486 rfl uL_174 (thr_wd hb hW2) rfl hfs2 rfl rfl (Nat.le_of_ble_eq_true rfl) ⟨(Nat.le_of_ble_eq_true rfl), (Nat.le_of_ble_eq_true rfl)⟩ (Nat.zero_add _) (Nat.zero_add _) ?_
  rw [ht]
  refine gq_iload hX dL_law_489 rfl rfl ?_
  refine gq_icmp_eqT (tgt := 496) hX dL_law_491 rfl rfl ?_
  refine gq_iload hX dL_law_496 rfl rfl ?_
  by_cases hk0 : k = 0
  · subst hk0
    refine gq_if_neF (tgt := 513) hX dL_law_498 rfl rfl rfl ?_
    refine gq_aload_n hX dL_law_501 rfl rfl rfl ?_
    refine gq_iconst (v := nI 0) hX dL_law_502 rfl (by decide) ?_
    refine gq_lald hX dL_law_503 rfl hW2.lo (vp_in_nI (by decide) (by decide)) ?_
    rw [show K2.2.2.2.2.2.2.1 (nI 0).toNatClampNeg = g0 r from hlo rfl]
    refine gq_iload hX dL_law_504 rfl rfl ?_
    refine gq_i2l hX dL_law_506 rfl ?_
    refine gq_lcmp hX dL_law_507 rfl ?_
    rw [show lg_cmp (g0 r) r.toInt64 = 0 from lg_cmp_self _]
    refine gq_if_eqT (tgt := 513) hX dL_law_508 rfl rfl ?_
    refine gq_goto (tgt := 2986) hX dL_law_513 rfl ?_
    exact gq_forget 6 (gq_forget 7 (gq_forget 8 (kk _ _ hW2 hS9)))
  · refine gq_if_neT (tgt := 513) hX dL_law_498 rfl (nI_kz hk hk0) ?_
    refine gq_goto (tgt := 2986) hX dL_law_513 rfl ?_
    exact gq_forget 6 (gq_forget 7 (gq_forget 8 (kk _ _ hW2 hS9)))

set_option maxRecDepth 100000 in
set_option maxHeartbeats 4000000 in
theorem lk_4 {E : Ev} {X : Cx0} {nm : String} {tb : List (Nat × Nat × Nat × Nat)} {Q : State → Prop} {b : Nat → Nat} {K : Kt} {M : Hp} {B nc ns bs L i : Nat} {xs : Nat → Int32} (hX : Cx E X (mLw nm tb)) (hsc : Sc E X bs L xs) (hi : i + 2 < L) (hL : L ≤ 1536) (hb : Lay E 162 b) (hW : Wd E b K M) (hS : Sim K B) (hB9 : B + 200000 < 2 ^ 26) (kk : ∀ K2 M2, Wd E b K2 M2 → Sim K2 (B + 60000) → Gq E X (mLw nm tb) Q 2986 [.ref bs, .ref (b 0), .ref (b 151), .ref (b 160), .ref (b 161), .int (nI i), hole, hole, hole] [] M2 nc ns) : Gq E X (mLw nm tb) Q 516 [.ref bs, .ref (b 0), .ref (b 151), .ref (b 160), .ref (b 161), .int (nI i), hole, hole, hole] [] M (nc + 23) (ns + 3266) := by
  obtain ⟨r, R, hc1, hc2⟩ := pr_committeeCount hb hW hS hB9
  refine gq_aload_n hX dL_law_516 rfl rfl rfl ?_
  refine gq_callV (mc := 0) (ms := 0) hX dL_law_517 uL_187 hc1 rfl hW.c0 rfl rfl (Nat.le_of_ble_eq_true rfl) ⟨(Nat.le_of_ble_eq_true rfl), (Nat.le_of_ble_eq_true rfl)⟩ (Nat.zero_add _) (Nat.zero_add _) ?_
  rintro v M1 ⟨rfl, K1, hW1, hR1⟩
  obtain ⟨fs1, hfs1⟩ := hW1.c151
  refine gq_aload_n hX dL_law_520 rfl rfl rfl ?_
  refine gq_callV (mc := 0) (ms := 0) hX dL_law_521 uL_190 (hc2 K1 M1 hR1 hW1) rfl hfs1 rfl rfl (Nat.le_of_ble_eq_true rfl) ⟨(Nat.le_of_ble_eq_true rfl), (Nat.le_of_ble_eq_true rfl)⟩ (Nat.zero_add _) (Nat.zero_add _) ?_
  rintro v M2 ⟨rfl, K2, hW2, hS9⟩
  refine gq_icmp_eqT (tgt := 2986) hX dL_law_524 rfl rfl ?_
  refine gq_bud (nc1 := nc) (ns1 := ns) (by omega) (by omega) ?_
  exact gq_forget 6 (gq_forget 7 (gq_forget 8 (kk _ _ hW2 hS9)))

set_option maxRecDepth 100000 in
set_option maxHeartbeats 4000000 in
theorem lk_5 {E : Ev} {X : Cx0} {nm : String} {tb : List (Nat × Nat × Nat × Nat)} {Q : State → Prop} {b : Nat → Nat} {K : Kt} {M : Hp} {B nc ns bs L i : Nat} {xs : Nat → Int32} (hX : Cx E X (mLw nm tb)) (hsc : Sc E X bs L xs) (hi : i + 2 < L) (hL : L ≤ 1536) (hb : Lay E 162 b) (hW : Wd E b K M) (hS : Sim K B) (hB9 : B + 200000 < 2 ^ 26) (kk : ∀ K2 M2, Wd E b K2 M2 → Sim K2 (B + 60000) → Gq E X (mLw nm tb) Q 2986 [.ref bs, .ref (b 0), .ref (b 151), .ref (b 160), .ref (b 161), .int (nI i), hole, hole, hole] [] M2 nc ns) : Gq E X (mLw nm tb) Q 529 [.ref bs, .ref (b 0), .ref (b 151), .ref (b 160), .ref (b 161), .int (nI i), hole, hole, hole] [] M (nc + 23) (ns + 3266) := by
  obtain ⟨p1, hp1⟩ : ∃ z, z = xs (nI (i + 1)).toNatClampNeg := ⟨_, rfl⟩
  obtain ⟨k, R, hk, hcw, hcm⟩ := pr_members hb hW hS hB9 p1
  refine gq_aload_n hX dL_law_529 rfl rfl rfl ?_
  refine gq_aload_n hX dL_law_530 rfl rfl rfl ?_
  refine gq_iload hX dL_law_531 rfl rfl ?_
  refine gq_iconst (v := nI 1) hX dL_law_533 rfl (by decide) ?_
  refine gq_iadd hX dL_law_534 rfl ?_
  rw [nI_add]
  refine gq_sld hX hsc dL_law_535 rfl (vp_in_nI (by omega) (by omega)) hp1.symm ?_
  refine gq_aload_n hX dL_law_536 rfl rfl rfl ?_
  refine gq_callH (mc := 23) (ms := 3266) (nc1 := nc) (ns1 := ns) hX dL_law_537 uL_191 hcw rfl rfl (Nat.le_of_ble_eq_true rfl) ⟨(Nat.le_of_ble_eq_true rfl), (Nat.le_of_ble_eq_true rfl)⟩ (Nat.add_comm _ _) (Nat.add_comm _ _) ?_
  rintro v M1 ⟨rfl, K1, hW1, hR1⟩
  obtain ⟨fs1, hfs1⟩ := hW1.c151
  refine gq_istore hX dL_law_540 rfl (Nat.le_of_ble_eq_true rfl) rfl ?_
  refine gq_aload_n hX dL_law_542 rfl rfl rfl ?_
  refine gq_aload_n hX dL_law_543 rfl rfl rfl ?_
  refine gq_iload hX dL_law_544 rfl rfl ?_
  refine gq_iconst (v := nI 1) hX dL_law_546 rfl (by decide) ?_
  refine gq_iadd hX dL_law_547 rfl ?_
  rw [nI_add]
  refine gq_sld hX hsc dL_law_548 rfl (vp_in_nI (by omega) (by omega)) hp1.symm ?_
  refine gq_callV (mc := 0) (ms := 0) hX dL_law_549 uL_193 (hcm K1 M1 hR1 hW1) rfl hfs1 rfl rfl (Nat.le_of_ble_eq_true rfl) ⟨(Nat.le_of_ble_eq_true rfl), (Nat.le_of_ble_eq_true rfl)⟩ (Nat.zero_add _) (Nat.zero_add _) ?_
  rintro v M2 ⟨r, K2, rfl, hW2, ht, hlo, hS9⟩
  obtain ⟨fs2, hfs2⟩ := hW2.c151
  refine gq_istore hX dL_law_552 rfl (Nat.le_of_ble_eq_true rfl) rfl ?_
  refine gq_aload_n hX dL_law_554 rfl rfl rfl ?_
  refine gq_callVe hX dL_law_555 rfl uL_174 (thr_wd hb hW2) rfl hfs2 rfl rfl (Nat.le_of_ble_eq_true rfl) ⟨(Nat.le_of_ble_eq_true rfl), (Nat.le_of_ble_eq_true rfl)⟩ (Nat.zero_add _) (Nat.zero_add _) ?_
  rw [ht]
  refine gq_iload hX dL_law_558 rfl rfl ?_
  refine gq_icmp_eqT (tgt := 565) hX dL_law_560 rfl rfl ?_
  refine gq_iload hX dL_law_565 rfl rfl ?_
  by_cases hk0 : k = 0
  · subst hk0
    refine gq_if_neF (tgt := 582) hX dL_law_567 rfl rfl rfl ?_
    refine gq_aload_n hX dL_law_570 rfl rfl rfl ?_
    refine gq_iconst (v := nI 0) hX dL_law_571 rfl (by decide) ?_
    refine gq_lald hX dL_law_572 rfl hW2.lo (vp_in_nI (by decide) (by decide)) ?_
    rw [show K2.2.2.2.2.2.2.1 (nI 0).toNatClampNeg = g0 r from hlo rfl]
    refine gq_iload hX dL_law_573 rfl rfl ?_
    refine gq_i2l hX dL_law_575 rfl ?_
    refine gq_lcmp hX dL_law_576 rfl ?_
    rw [show lg_cmp (g0 r) r.toInt64 = 0 from lg_cmp_self _]
    refine gq_if_eqT (tgt := 582) hX dL_law_577 rfl rfl ?_
    refine gq_goto (tgt := 2986) hX dL_law_582 rfl ?_
    exact gq_forget 6 (gq_forget 7 (gq_forget 8 (kk _ _ hW2 hS9)))
  · refine gq_if_neT (tgt := 582) hX dL_law_567 rfl (nI_kz hk hk0) ?_
    refine gq_goto (tgt := 2986) hX dL_law_582 rfl ?_
    exact gq_forget 6 (gq_forget 7 (gq_forget 8 (kk _ _ hW2 hS9)))

set_option maxRecDepth 100000 in
set_option maxHeartbeats 4000000 in
theorem lk_6 {E : Ev} {X : Cx0} {nm : String} {tb : List (Nat × Nat × Nat × Nat)} {Q : State → Prop} {b : Nat → Nat} {K : Kt} {M : Hp} {B nc ns bs L i : Nat} {xs : Nat → Int32} (hX : Cx E X (mLw nm tb)) (hsc : Sc E X bs L xs) (hi : i + 2 < L) (hL : L ≤ 1536) (hb : Lay E 162 b) (hW : Wd E b K M) (hS : Sim K B) (hB9 : B + 200000 < 2 ^ 26) (kk : ∀ K2 M2, Wd E b K2 M2 → Sim K2 (B + 60000) → Gq E X (mLw nm tb) Q 2986 [.ref bs, .ref (b 0), .ref (b 151), .ref (b 160), .ref (b 161), .int (nI i), hole, hole, hole] [] M2 nc ns) : Gq E X (mLw nm tb) Q 585 [.ref bs, .ref (b 0), .ref (b 151), .ref (b 160), .ref (b 161), .int (nI i), hole, hole, hole] [] M (nc + 23) (ns + 3266) := by
  obtain ⟨p1, hp1⟩ : ∃ z, z = xs (nI (i + 1)).toNatClampNeg := ⟨_, rfl⟩
  obtain ⟨k, R, hk, hcw, hcm⟩ := pr_arrears hb hW hS hB9 p1
  refine gq_aload_n hX dL_law_585 rfl rfl rfl ?_
  refine gq_aload_n hX dL_law_586 rfl rfl rfl ?_
  refine gq_iload hX dL_law_587 rfl rfl ?_
  refine gq_iconst (v := nI 1) hX dL_law_589 rfl (by decide) ?_
  refine gq_iadd hX dL_law_590 rfl ?_
  rw [nI_add]
  refine gq_sld hX hsc dL_law_591 rfl (vp_in_nI (by omega) (by omega)) hp1.symm ?_
  refine gq_aload_n hX dL_law_592 rfl rfl rfl ?_
  refine gq_callH (mc := 23) (ms := 3266) (nc1 := nc) (ns1 := ns) hX dL_law_593 uL_194 hcw rfl rfl (Nat.le_of_ble_eq_true rfl) ⟨(Nat.le_of_ble_eq_true rfl), (Nat.le_of_ble_eq_true rfl)⟩ (Nat.add_comm _ _) (Nat.add_comm _ _) ?_
  rintro v M1 ⟨rfl, K1, hW1, hR1⟩
  obtain ⟨fs1, hfs1⟩ := hW1.c151
  refine gq_istore hX dL_law_596 rfl (Nat.le_of_ble_eq_true rfl) rfl ?_
  refine gq_aload_n hX dL_law_598 rfl rfl rfl ?_
  refine gq_aload_n hX dL_law_599 rfl rfl rfl ?_
  refine gq_iload hX dL_law_600 rfl rfl ?_
  refine gq_iconst (v := nI 1) hX dL_law_602 rfl (by decide) ?_
  refine gq_iadd hX dL_law_603 rfl ?_
  rw [nI_add]
  refine gq_sld hX hsc dL_law_604 rfl (vp_in_nI (by omega) (by omega)) hp1.symm ?_
  refine gq_callV (mc := 0) (ms := 0) hX dL_law_605 uL_196 (hcm K1 M1 hR1 hW1) rfl hfs1 rfl rfl (Nat.le_of_ble_eq_true rfl) ⟨(Nat.le_of_ble_eq_true rfl), (Nat.le_of_ble_eq_true rfl)⟩ (Nat.zero_add _) (Nat.zero_add _) ?_
  rintro v M2 ⟨r, K2, rfl, hW2, ht, hlo, hS9⟩
  obtain ⟨fs2, hfs2⟩ := hW2.c151
  refine gq_istore hX dL_law_608 rfl (Nat.le_of_ble_eq_true rfl) rfl ?_
  refine gq_aload_n hX dL_law_610 rfl rfl rfl ?_
  refine gq_callVe hX dL_law_611 rfl uL_174 (thr_wd hb hW2) rfl hfs2 rfl rfl (Nat.le_of_ble_eq_true rfl) ⟨(Nat.le_of_ble_eq_true rfl), (Nat.le_of_ble_eq_true rfl)⟩ (Nat.zero_add _) (Nat.zero_add _) ?_
  rw [ht]
  refine gq_iload hX dL_law_614 rfl rfl ?_
  refine gq_icmp_eqT (tgt := 621) hX dL_law_616 rfl rfl ?_
  refine gq_iload hX dL_law_621 rfl rfl ?_
  by_cases hk0 : k = 0
  · subst hk0
    refine gq_if_neF (tgt := 638) hX dL_law_623 rfl rfl rfl ?_
    refine gq_aload_n hX dL_law_626 rfl rfl rfl ?_
    refine gq_iconst (v := nI 0) hX dL_law_627 rfl (by decide) ?_
    refine gq_lald hX dL_law_628 rfl hW2.lo (vp_in_nI (by decide) (by decide)) ?_
    rw [show K2.2.2.2.2.2.2.1 (nI 0).toNatClampNeg = g0 r from hlo rfl]
    refine gq_iload hX dL_law_629 rfl rfl ?_
    refine gq_i2l hX dL_law_631 rfl ?_
    refine gq_lcmp hX dL_law_632 rfl ?_
    rw [show lg_cmp (g0 r) r.toInt64 = 0 from lg_cmp_self _]
    refine gq_if_eqT (tgt := 638) hX dL_law_633 rfl rfl ?_
    refine gq_goto (tgt := 2986) hX dL_law_638 rfl ?_
    exact gq_forget 6 (gq_forget 7 (gq_forget 8 (kk _ _ hW2 hS9)))
  · refine gq_if_neT (tgt := 638) hX dL_law_623 rfl (nI_kz hk hk0) ?_
    refine gq_goto (tgt := 2986) hX dL_law_638 rfl ?_
    exact gq_forget 6 (gq_forget 7 (gq_forget 8 (kk _ _ hW2 hS9)))

set_option maxRecDepth 100000 in
set_option maxHeartbeats 4000000 in
theorem lk_7 {E : Ev} {X : Cx0} {nm : String} {tb : List (Nat × Nat × Nat × Nat)} {Q : State → Prop} {b : Nat → Nat} {K : Kt} {M : Hp} {B nc ns bs L i : Nat} {xs : Nat → Int32} (hX : Cx E X (mLw nm tb)) (hsc : Sc E X bs L xs) (hi : i + 2 < L) (hL : L ≤ 1536) (hb : Lay E 162 b) (hW : Wd E b K M) (hS : Sim K B) (hB9 : B + 200000 < 2 ^ 26) (kk : ∀ K2 M2, Wd E b K2 M2 → Sim K2 (B + 60000) → Gq E X (mLw nm tb) Q 2986 [.ref bs, .ref (b 0), .ref (b 151), .ref (b 160), .ref (b 161), .int (nI i), hole, hole, hole] [] M2 nc ns) : Gq E X (mLw nm tb) Q 641 [.ref bs, .ref (b 0), .ref (b 151), .ref (b 160), .ref (b 161), .int (nI i), hole, hole, hole] [] M (nc + 23) (ns + 3266) := by
  obtain ⟨p1, hp1⟩ : ∃ z, z = xs (nI (i + 1)).toNatClampNeg := ⟨_, rfl⟩
  obtain ⟨k, R, hk, hcw, hcm⟩ := pr_isFlying hb hW hS hB9 p1
  refine gq_aload_n hX dL_law_641 rfl rfl rfl ?_
  refine gq_aload_n hX dL_law_642 rfl rfl rfl ?_
  refine gq_iload hX dL_law_643 rfl rfl ?_
  refine gq_iconst (v := nI 1) hX dL_law_645 rfl (by decide) ?_
  refine gq_iadd hX dL_law_646 rfl ?_
  rw [nI_add]
  refine gq_sld hX hsc dL_law_647 rfl (vp_in_nI (by omega) (by omega)) hp1.symm ?_
  refine gq_aload_n hX dL_law_648 rfl rfl rfl ?_
  refine gq_callH (mc := 23) (ms := 3266) (nc1 := nc) (ns1 := ns) hX dL_law_649 uL_197 hcw rfl rfl (Nat.le_of_ble_eq_true rfl) ⟨(Nat.le_of_ble_eq_true rfl), (Nat.le_of_ble_eq_true rfl)⟩ (Nat.add_comm _ _) (Nat.add_comm _ _) ?_
  rintro v M1 ⟨rfl, K1, hW1, hR1⟩
  obtain ⟨fs1, hfs1⟩ := hW1.c151
  refine gq_istore hX dL_law_652 rfl (Nat.le_of_ble_eq_true rfl) rfl ?_
  refine gq_aload_n hX dL_law_654 rfl rfl rfl ?_
  refine gq_aload_n hX dL_law_655 rfl rfl rfl ?_
  refine gq_iload hX dL_law_656 rfl rfl ?_
  refine gq_iconst (v := nI 1) hX dL_law_658 rfl (by decide) ?_
  refine gq_iadd hX dL_law_659 rfl ?_
  rw [nI_add]
  refine gq_sld hX hsc dL_law_660 rfl (vp_in_nI (by omega) (by omega)) hp1.symm ?_
  refine gq_callV (mc := 0) (ms := 0) hX dL_law_661 uL_199 (hcm K1 M1 hR1 hW1) rfl hfs1 rfl rfl (Nat.le_of_ble_eq_true rfl) ⟨(Nat.le_of_ble_eq_true rfl), (Nat.le_of_ble_eq_true rfl)⟩ (Nat.zero_add _) (Nat.zero_add _) ?_
  rintro v M2 ⟨r, K2, rfl, hW2, ht, hlo, hS9⟩
  obtain ⟨fs2, hfs2⟩ := hW2.c151
  refine gq_istore hX dL_law_664 rfl (Nat.le_of_ble_eq_true rfl) rfl ?_
  refine gq_aload_n hX dL_law_666 rfl rfl rfl ?_
  refine gq_callVe hX dL_law_667 rfl uL_174 (thr_wd hb hW2) rfl hfs2 rfl rfl (Nat.le_of_ble_eq_true rfl) ⟨(Nat.le_of_ble_eq_true rfl), (Nat.le_of_ble_eq_true rfl)⟩ (Nat.zero_add _) (Nat.zero_add _) ?_
  rw [ht]
  refine gq_iload hX dL_law_670 rfl rfl ?_
  refine gq_icmp_eqT (tgt := 677) hX dL_law_672 rfl rfl ?_
  refine gq_iload hX dL_law_677 rfl rfl ?_
  by_cases hk0 : k = 0
  · subst hk0
    refine gq_if_neF (tgt := 701) hX dL_law_679 rfl rfl rfl ?_
    refine gq_aload_n hX dL_law_682 rfl rfl rfl ?_
    refine gq_iconst (v := nI 0) hX dL_law_683 rfl (by decide) ?_
    refine gq_lald hX dL_law_684 rfl hW2.lo (vp_in_nI (by decide) (by decide)) ?_
    rw [show K2.2.2.2.2.2.2.1 (nI 0).toNatClampNeg = g1 r from hlo rfl]
    refine gq_iload hX dL_law_685 rfl rfl ?_
    by_cases hr0 : r = 0
    · refine gq_if_eqT (tgt := 694) hX dL_law_687 rfl hr0 ?_
      refine gq_lconst (v := 0) hX dL_law_694 rfl (by decide) ?_
      refine gq_lcmp hX dL_law_695 rfl ?_
      rw [show g1 r = 0 from if_pos hr0, show lg_cmp (0 : Int64) 0 = 0 from lg_cmp_self _]
      refine gq_if_eqT (tgt := 701) hX dL_law_696 rfl rfl ?_
      refine gq_goto (tgt := 2986) hX dL_law_701 rfl ?_
      exact gq_forget 6 (gq_forget 7 (gq_forget 8 (kk _ _ hW2 hS9)))
    · refine gq_if_eqF (tgt := 694) hX dL_law_687 rfl rfl hr0 ?_
      refine gq_lconst (v := 1) hX dL_law_690 rfl (by decide) ?_
      refine gq_goto (tgt := 695) hX dL_law_691 rfl ?_
      refine gq_lcmp hX dL_law_695 rfl ?_
      rw [show g1 r = 1 from if_neg hr0, show lg_cmp (1 : Int64) 1 = 0 from lg_cmp_self _]
      refine gq_if_eqT (tgt := 701) hX dL_law_696 rfl rfl ?_
      refine gq_goto (tgt := 2986) hX dL_law_701 rfl ?_
      exact gq_forget 6 (gq_forget 7 (gq_forget 8 (kk _ _ hW2 hS9)))
  · refine gq_if_neT (tgt := 701) hX dL_law_679 rfl (nI_kz hk hk0) ?_
    refine gq_goto (tgt := 2986) hX dL_law_701 rfl ?_
    exact gq_forget 6 (gq_forget 7 (gq_forget 8 (kk _ _ hW2 hS9)))

set_option maxRecDepth 100000 in
set_option maxHeartbeats 4000000 in
theorem lk_8 {E : Ev} {X : Cx0} {nm : String} {tb : List (Nat × Nat × Nat × Nat)} {Q : State → Prop} {b : Nat → Nat} {K : Kt} {M : Hp} {B nc ns bs L i : Nat} {xs : Nat → Int32} (hX : Cx E X (mLw nm tb)) (hsc : Sc E X bs L xs) (hi : i + 2 < L) (hL : L ≤ 1536) (hb : Lay E 162 b) (hW : Wd E b K M) (hS : Sim K B) (hB9 : B + 200000 < 2 ^ 26) (kk : ∀ K2 M2, Wd E b K2 M2 → Sim K2 (B + 60000) → Gq E X (mLw nm tb) Q 2986 [.ref bs, .ref (b 0), .ref (b 151), .ref (b 160), .ref (b 161), .int (nI i), hole, hole, hole] [] M2 nc ns) : Gq E X (mLw nm tb) Q 704 [.ref bs, .ref (b 0), .ref (b 151), .ref (b 160), .ref (b 161), .int (nI i), hole, hole, hole] [] M (nc + 23) (ns + 3266) := by
  obtain ⟨p1, hp1⟩ : ∃ z, z = xs (nI (i + 1)).toNatClampNeg := ⟨_, rfl⟩
  obtain ⟨k, R, hk, hcw, hcm⟩ := pr_tailLength hb hW hS hB9 p1
  refine gq_aload_n hX dL_law_704 rfl rfl rfl ?_
  refine gq_aload_n hX dL_law_705 rfl rfl rfl ?_
  refine gq_iload hX dL_law_706 rfl rfl ?_
  refine gq_iconst (v := nI 1) hX dL_law_708 rfl (by decide) ?_
  refine gq_iadd hX dL_law_709 rfl ?_
  rw [nI_add]
  refine gq_sld hX hsc dL_law_710 rfl (vp_in_nI (by omega) (by omega)) hp1.symm ?_
  refine gq_aload_n hX dL_law_711 rfl rfl rfl ?_
  refine gq_callH (mc := 23) (ms := 3266) (nc1 := nc) (ns1 := ns) hX dL_law_712 uL_200 hcw rfl rfl (Nat.le_of_ble_eq_true rfl) ⟨(Nat.le_of_ble_eq_true rfl), (Nat.le_of_ble_eq_true rfl)⟩ (Nat.add_comm _ _) (Nat.add_comm _ _) ?_
  rintro v M1 ⟨rfl, K1, hW1, hR1⟩
  obtain ⟨fs1, hfs1⟩ := hW1.c151
  refine gq_istore hX dL_law_715 rfl (Nat.le_of_ble_eq_true rfl) rfl ?_
  refine gq_aload_n hX dL_law_717 rfl rfl rfl ?_
  refine gq_aload_n hX dL_law_718 rfl rfl rfl ?_
  refine gq_iload hX dL_law_719 rfl rfl ?_
  refine gq_iconst (v := nI 1) hX dL_law_721 rfl (by decide) ?_
  refine gq_iadd hX dL_law_722 rfl ?_
  rw [nI_add]
  refine gq_sld hX hsc dL_law_723 rfl (vp_in_nI (by omega) (by omega)) hp1.symm ?_
  refine gq_callV (mc := 0) (ms := 0) hX dL_law_724 uL_202 (hcm K1 M1 hR1 hW1) rfl hfs1 rfl rfl (Nat.le_of_ble_eq_true rfl) ⟨(Nat.le_of_ble_eq_true rfl), (Nat.le_of_ble_eq_true rfl)⟩ (Nat.zero_add _) (Nat.zero_add _) ?_
  rintro v M2 ⟨r, K2, rfl, hW2, ht, hlo, hS9⟩
  obtain ⟨fs2, hfs2⟩ := hW2.c151
  refine gq_istore hX dL_law_727 rfl (Nat.le_of_ble_eq_true rfl) rfl ?_
  refine gq_aload_n hX dL_law_729 rfl rfl rfl ?_
  refine gq_callVe hX dL_law_730 rfl uL_174 (thr_wd hb hW2) rfl hfs2 rfl rfl (Nat.le_of_ble_eq_true rfl) ⟨(Nat.le_of_ble_eq_true rfl), (Nat.le_of_ble_eq_true rfl)⟩ (Nat.zero_add _) (Nat.zero_add _) ?_
  rw [ht]
  refine gq_iload hX dL_law_733 rfl rfl ?_
  refine gq_icmp_eqT (tgt := 740) hX dL_law_735 rfl rfl ?_
  refine gq_iload hX dL_law_740 rfl rfl ?_
  by_cases hk0 : k = 0
  · subst hk0
    refine gq_if_neF (tgt := 757) hX dL_law_742 rfl rfl rfl ?_
    refine gq_aload_n hX dL_law_745 rfl rfl rfl ?_
    refine gq_iconst (v := nI 0) hX dL_law_746 rfl (by decide) ?_
    refine gq_lald hX dL_law_747 rfl hW2.lo (vp_in_nI (by decide) (by decide)) ?_
    rw [show K2.2.2.2.2.2.2.1 (nI 0).toNatClampNeg = g0 r from hlo rfl]
    refine gq_iload hX dL_law_748 rfl rfl ?_
    refine gq_i2l hX dL_law_750 rfl ?_
    refine gq_lcmp hX dL_law_751 rfl ?_
    rw [show lg_cmp (g0 r) r.toInt64 = 0 from lg_cmp_self _]
    refine gq_if_eqT (tgt := 757) hX dL_law_752 rfl rfl ?_
    refine gq_goto (tgt := 2986) hX dL_law_757 rfl ?_
    exact gq_forget 6 (gq_forget 7 (gq_forget 8 (kk _ _ hW2 hS9)))
  · refine gq_if_neT (tgt := 757) hX dL_law_742 rfl (nI_kz hk hk0) ?_
    refine gq_goto (tgt := 2986) hX dL_law_757 rfl ?_
    exact gq_forget 6 (gq_forget 7 (gq_forget 8 (kk _ _ hW2 hS9)))

set_option maxRecDepth 100000 in
set_option maxHeartbeats 4000000 in
theorem lk_9 {E : Ev} {X : Cx0} {nm : String} {tb : List (Nat × Nat × Nat × Nat)} {Q : State → Prop} {b : Nat → Nat} {K : Kt} {M : Hp} {B nc ns bs L i : Nat} {xs : Nat → Int32} (hX : Cx E X (mLw nm tb)) (hsc : Sc E X bs L xs) (hi : i + 2 < L) (hL : L ≤ 1536) (hb : Lay E 162 b) (hW : Wd E b K M) (hS : Sim K B) (hB9 : B + 200000 < 2 ^ 26) (kk : ∀ K2 M2, Wd E b K2 M2 → Sim K2 (B + 60000) → Gq E X (mLw nm tb) Q 2986 [.ref bs, .ref (b 0), .ref (b 151), .ref (b 160), .ref (b 161), .int (nI i), hole, hole, hole] [] M2 nc ns) : Gq E X (mLw nm tb) Q 760 [.ref bs, .ref (b 0), .ref (b 151), .ref (b 160), .ref (b 161), .int (nI i), hole, hole, hole] [] M (nc + 23) (ns + 3266) := by
  obtain ⟨p1, hp1⟩ : ∃ z, z = xs (nI (i + 1)).toNatClampNeg := ⟨_, rfl⟩
  obtain ⟨k, R, hk, hcw, hcm⟩ := pr_tailsOf hb hW hS hB9 p1
  refine gq_aload_n hX dL_law_760 rfl rfl rfl ?_
  refine gq_aload_n hX dL_law_761 rfl rfl rfl ?_
  refine gq_iload hX dL_law_762 rfl rfl ?_
  refine gq_iconst (v := nI 1) hX dL_law_764 rfl (by decide) ?_
  refine gq_iadd hX dL_law_765 rfl ?_
  rw [nI_add]
  refine gq_sld hX hsc dL_law_766 rfl (vp_in_nI (by omega) (by omega)) hp1.symm ?_
  refine gq_aload_n hX dL_law_767 rfl rfl rfl ?_
  refine gq_callH (mc := 23) (ms := 3266) (nc1 := nc) (ns1 := ns) hX dL_law_768 uL_203 hcw rfl rfl (Nat.le_of_ble_eq_true rfl) ⟨(Nat.le_of_ble_eq_true rfl), (Nat.le_of_ble_eq_true rfl)⟩ (Nat.add_comm _ _) (Nat.add_comm _ _) ?_
  rintro v M1 ⟨rfl, K1, hW1, hR1⟩
  obtain ⟨fs1, hfs1⟩ := hW1.c151
  refine gq_istore hX dL_law_771 rfl (Nat.le_of_ble_eq_true rfl) rfl ?_
  refine gq_aload_n hX dL_law_773 rfl rfl rfl ?_
  refine gq_aload_n hX dL_law_774 rfl rfl rfl ?_
  refine gq_iload hX dL_law_775 rfl rfl ?_
  refine gq_iconst (v := nI 1) hX dL_law_777 rfl (by decide) ?_
  refine gq_iadd hX dL_law_778 rfl ?_
  rw [nI_add]
  refine gq_sld hX hsc dL_law_779 rfl (vp_in_nI (by omega) (by omega)) hp1.symm ?_
  refine gq_callV (mc := 0) (ms := 0) hX dL_law_780 uL_205 (hcm K1 M1 hR1 hW1) rfl hfs1 rfl rfl (Nat.le_of_ble_eq_true rfl) ⟨(Nat.le_of_ble_eq_true rfl), (Nat.le_of_ble_eq_true rfl)⟩ (Nat.zero_add _) (Nat.zero_add _) ?_
  rintro v M2 ⟨r, K2, rfl, hW2, ht, hlo, hS9⟩
  obtain ⟨fs2, hfs2⟩ := hW2.c151
  refine gq_istore hX dL_law_783 rfl (Nat.le_of_ble_eq_true rfl) rfl ?_
  refine gq_aload_n hX dL_law_785 rfl rfl rfl ?_
  refine gq_callVe hX dL_law_786 rfl uL_174 (thr_wd hb hW2) rfl hfs2 rfl rfl (Nat.le_of_ble_eq_true rfl) ⟨(Nat.le_of_ble_eq_true rfl), (Nat.le_of_ble_eq_true rfl)⟩ (Nat.zero_add _) (Nat.zero_add _) ?_
  rw [ht]
  refine gq_iload hX dL_law_789 rfl rfl ?_
  refine gq_icmp_eqT (tgt := 796) hX dL_law_791 rfl rfl ?_
  refine gq_iload hX dL_law_796 rfl rfl ?_
  by_cases hk0 : k = 0
  · subst hk0
    refine gq_if_neF (tgt := 813) hX dL_law_798 rfl rfl rfl ?_
    refine gq_aload_n hX dL_law_801 rfl rfl rfl ?_
    refine gq_iconst (v := nI 0) hX dL_law_802 rfl (by decide) ?_
    refine gq_lald hX dL_law_803 rfl hW2.lo (vp_in_nI (by decide) (by decide)) ?_
    rw [show K2.2.2.2.2.2.2.1 (nI 0).toNatClampNeg = g0 r from hlo rfl]
    refine gq_iload hX dL_law_804 rfl rfl ?_
    refine gq_i2l hX dL_law_806 rfl ?_
    refine gq_lcmp hX dL_law_807 rfl ?_
    rw [show lg_cmp (g0 r) r.toInt64 = 0 from lg_cmp_self _]
    refine gq_if_eqT (tgt := 813) hX dL_law_808 rfl rfl ?_
    refine gq_goto (tgt := 2986) hX dL_law_813 rfl ?_
    exact gq_forget 6 (gq_forget 7 (gq_forget 8 (kk _ _ hW2 hS9)))
  · refine gq_if_neT (tgt := 813) hX dL_law_798 rfl (nI_kz hk hk0) ?_
    refine gq_goto (tgt := 2986) hX dL_law_813 rfl ?_
    exact gq_forget 6 (gq_forget 7 (gq_forget 8 (kk _ _ hW2 hS9)))

set_option maxRecDepth 100000 in
set_option maxHeartbeats 4000000 in
theorem lk_10 {E : Ev} {X : Cx0} {nm : String} {tb : List (Nat × Nat × Nat × Nat)} {Q : State → Prop} {b : Nat → Nat} {K : Kt} {M : Hp} {B nc ns bs L i : Nat} {xs : Nat → Int32} (hX : Cx E X (mLw nm tb)) (hsc : Sc E X bs L xs) (hi : i + 2 < L) (hL : L ≤ 1536) (hb : Lay E 162 b) (hW : Wd E b K M) (hS : Sim K B) (hB9 : B + 200000 < 2 ^ 26) (kk : ∀ K2 M2, Wd E b K2 M2 → Sim K2 (B + 60000) → Gq E X (mLw nm tb) Q 2986 [.ref bs, .ref (b 0), .ref (b 151), .ref (b 160), .ref (b 161), .int (nI i), hole, hole, hole] [] M2 nc ns) : Gq E X (mLw nm tb) Q 816 [.ref bs, .ref (b 0), .ref (b 151), .ref (b 160), .ref (b 161), .int (nI i), hole, hole, hole] [] M (nc + 23) (ns + 3266) := by
  obtain ⟨r, R, hc1, hc2⟩ := pr_tailCount hb hW hS hB9
  refine gq_aload_n hX dL_law_816 rfl rfl rfl ?_
  refine gq_callV (mc := 0) (ms := 0) hX dL_law_817 uL_206 hc1 rfl hW.c0 rfl rfl (Nat.le_of_ble_eq_true rfl) ⟨(Nat.le_of_ble_eq_true rfl), (Nat.le_of_ble_eq_true rfl)⟩ (Nat.zero_add _) (Nat.zero_add _) ?_
  rintro v M1 ⟨rfl, K1, hW1, hR1⟩
  obtain ⟨fs1, hfs1⟩ := hW1.c151
  refine gq_aload_n hX dL_law_820 rfl rfl rfl ?_
  refine gq_callV (mc := 0) (ms := 0) hX dL_law_821 uL_209 (hc2 K1 M1 hR1 hW1) rfl hfs1 rfl rfl (Nat.le_of_ble_eq_true rfl) ⟨(Nat.le_of_ble_eq_true rfl), (Nat.le_of_ble_eq_true rfl)⟩ (Nat.zero_add _) (Nat.zero_add _) ?_
  rintro v M2 ⟨rfl, K2, hW2, hS9⟩
  refine gq_icmp_eqT (tgt := 2986) hX dL_law_824 rfl rfl ?_
  refine gq_bud (nc1 := nc) (ns1 := ns) (by omega) (by omega) ?_
  exact gq_forget 6 (gq_forget 7 (gq_forget 8 (kk _ _ hW2 hS9)))

set_option maxRecDepth 100000 in
set_option maxHeartbeats 4000000 in
theorem lk_11 {E : Ev} {X : Cx0} {nm : String} {tb : List (Nat × Nat × Nat × Nat)} {Q : State → Prop} {b : Nat → Nat} {K : Kt} {M : Hp} {B nc ns bs L i : Nat} {xs : Nat → Int32} (hX : Cx E X (mLw nm tb)) (hsc : Sc E X bs L xs) (hi : i + 2 < L) (hL : L ≤ 1536) (hb : Lay E 162 b) (hW : Wd E b K M) (hS : Sim K B) (hB9 : B + 200000 < 2 ^ 26) (kk : ∀ K2 M2, Wd E b K2 M2 → Sim K2 (B + 60000) → Gq E X (mLw nm tb) Q 2986 [.ref bs, .ref (b 0), .ref (b 151), .ref (b 160), .ref (b 161), .int (nI i), hole, hole, hole] [] M2 nc ns) : Gq E X (mLw nm tb) Q 829 [.ref bs, .ref (b 0), .ref (b 151), .ref (b 160), .ref (b 161), .int (nI i), hole, hole, hole] [] M (nc + 23) (ns + 3266) := by
  obtain ⟨p1, hp1⟩ : ∃ z, z = xs (nI (i + 1)).toNatClampNeg := ⟨_, rfl⟩
  obtain ⟨k, R, hk, hcw, hcm⟩ := pr_length hb hW hS hB9 p1
  refine gq_aload_n hX dL_law_829 rfl rfl rfl ?_
  refine gq_aload_n hX dL_law_830 rfl rfl rfl ?_
  refine gq_iload hX dL_law_831 rfl rfl ?_
  refine gq_iconst (v := nI 1) hX dL_law_833 rfl (by decide) ?_
  refine gq_iadd hX dL_law_834 rfl ?_
  rw [nI_add]
  refine gq_sld hX hsc dL_law_835 rfl (vp_in_nI (by omega) (by omega)) hp1.symm ?_
  refine gq_aload_n hX dL_law_836 rfl rfl rfl ?_
  refine gq_callH (mc := 23) (ms := 3266) (nc1 := nc) (ns1 := ns) hX dL_law_837 uL_210 hcw rfl rfl (Nat.le_of_ble_eq_true rfl) ⟨(Nat.le_of_ble_eq_true rfl), (Nat.le_of_ble_eq_true rfl)⟩ (Nat.add_comm _ _) (Nat.add_comm _ _) ?_
  rintro v M1 ⟨rfl, K1, hW1, hR1⟩
  obtain ⟨fs1, hfs1⟩ := hW1.c151
  refine gq_istore hX dL_law_840 rfl (Nat.le_of_ble_eq_true rfl) rfl ?_
  refine gq_aload_n hX dL_law_842 rfl rfl rfl ?_
  refine gq_aload_n hX dL_law_843 rfl rfl rfl ?_
  refine gq_iload hX dL_law_844 rfl rfl ?_
  refine gq_iconst (v := nI 1) hX dL_law_846 rfl (by decide) ?_
  refine gq_iadd hX dL_law_847 rfl ?_
  rw [nI_add]
  refine gq_sld hX hsc dL_law_848 rfl (vp_in_nI (by omega) (by omega)) hp1.symm ?_
  refine gq_callV (mc := 0) (ms := 0) hX dL_law_849 uL_212 (hcm K1 M1 hR1 hW1) rfl hfs1 rfl rfl (Nat.le_of_ble_eq_true rfl) ⟨(Nat.le_of_ble_eq_true rfl), (Nat.le_of_ble_eq_true rfl)⟩ (Nat.zero_add _) (Nat.zero_add _) ?_
  rintro v M2 ⟨r, K2, rfl, hW2, ht, hlo, hS9⟩
  obtain ⟨fs2, hfs2⟩ := hW2.c151
  refine gq_istore hX dL_law_852 rfl (Nat.le_of_ble_eq_true rfl) rfl ?_
  refine gq_aload_n hX dL_law_854 rfl rfl rfl ?_
  refine gq_callVe hX dL_law_855 rfl uL_174 (thr_wd hb hW2) rfl hfs2 rfl rfl (Nat.le_of_ble_eq_true rfl) ⟨(Nat.le_of_ble_eq_true rfl), (Nat.le_of_ble_eq_true rfl)⟩ (Nat.zero_add _) (Nat.zero_add _) ?_
  rw [ht]
  refine gq_iload hX dL_law_858 rfl rfl ?_
  refine gq_icmp_eqT (tgt := 865) hX dL_law_860 rfl rfl ?_
  refine gq_iload hX dL_law_865 rfl rfl ?_
  by_cases hk0 : k = 0
  · subst hk0
    refine gq_if_neF (tgt := 882) hX dL_law_867 rfl rfl rfl ?_
    refine gq_aload_n hX dL_law_870 rfl rfl rfl ?_
    refine gq_iconst (v := nI 0) hX dL_law_871 rfl (by decide) ?_
    refine gq_lald hX dL_law_872 rfl hW2.lo (vp_in_nI (by decide) (by decide)) ?_
    rw [show K2.2.2.2.2.2.2.1 (nI 0).toNatClampNeg = g0 r from hlo rfl]
    refine gq_iload hX dL_law_873 rfl rfl ?_
    refine gq_i2l hX dL_law_875 rfl ?_
    refine gq_lcmp hX dL_law_876 rfl ?_
    rw [show lg_cmp (g0 r) r.toInt64 = 0 from lg_cmp_self _]
    refine gq_if_eqT (tgt := 882) hX dL_law_877 rfl rfl ?_
    refine gq_goto (tgt := 2986) hX dL_law_882 rfl ?_
    exact gq_forget 6 (gq_forget 7 (gq_forget 8 (kk _ _ hW2 hS9)))
  · refine gq_if_neT (tgt := 882) hX dL_law_867 rfl (nI_kz hk hk0) ?_
    refine gq_goto (tgt := 2986) hX dL_law_882 rfl ?_
    exact gq_forget 6 (gq_forget 7 (gq_forget 8 (kk _ _ hW2 hS9)))

set_option maxRecDepth 100000 in
set_option maxHeartbeats 4000000 in
theorem lk_12 {E : Ev} {X : Cx0} {nm : String} {tb : List (Nat × Nat × Nat × Nat)} {Q : State → Prop} {b : Nat → Nat} {K : Kt} {M : Hp} {B nc ns bs L i : Nat} {xs : Nat → Int32} (hX : Cx E X (mLw nm tb)) (hsc : Sc E X bs L xs) (hi : i + 2 < L) (hL : L ≤ 1536) (hb : Lay E 162 b) (hW : Wd E b K M) (hS : Sim K B) (hB9 : B + 200000 < 2 ^ 26) (kk : ∀ K2 M2, Wd E b K2 M2 → Sim K2 (B + 60000) → Gq E X (mLw nm tb) Q 2986 [.ref bs, .ref (b 0), .ref (b 151), .ref (b 160), .ref (b 161), .int (nI i), hole, hole, hole] [] M2 nc ns) : Gq E X (mLw nm tb) Q 885 [.ref bs, .ref (b 0), .ref (b 151), .ref (b 160), .ref (b 161), .int (nI i), hole, hole, hole] [] M (nc + 23) (ns + 3266) := by
  obtain ⟨p1, hp1⟩ : ∃ z, z = xs (nI (i + 1)).toNatClampNeg := ⟨_, rfl⟩
  obtain ⟨k, R, hk, hcw, hcm⟩ := pr_isFree hb hW hS hB9 p1
  refine gq_aload_n hX dL_law_885 rfl rfl rfl ?_
  refine gq_aload_n hX dL_law_886 rfl rfl rfl ?_
  refine gq_iload hX dL_law_887 rfl rfl ?_
  refine gq_iconst (v := nI 1) hX dL_law_889 rfl (by decide) ?_
  refine gq_iadd hX dL_law_890 rfl ?_
  rw [nI_add]
  refine gq_sld hX hsc dL_law_891 rfl (vp_in_nI (by omega) (by omega)) hp1.symm ?_
  refine gq_aload_n hX dL_law_892 rfl rfl rfl ?_
  refine gq_callH (mc := 23) (ms := 3266) (nc1 := nc) (ns1 := ns) hX dL_law_893 uL_213 hcw rfl rfl (Nat.le_of_ble_eq_true rfl) ⟨(Nat.le_of_ble_eq_true rfl), (Nat.le_of_ble_eq_true rfl)⟩ (Nat.add_comm _ _) (Nat.add_comm _ _) ?_
  rintro v M1 ⟨rfl, K1, hW1, hR1⟩
  obtain ⟨fs1, hfs1⟩ := hW1.c151
  refine gq_istore hX dL_law_896 rfl (Nat.le_of_ble_eq_true rfl) rfl ?_
  refine gq_aload_n hX dL_law_898 rfl rfl rfl ?_
  refine gq_aload_n hX dL_law_899 rfl rfl rfl ?_
  refine gq_iload hX dL_law_900 rfl rfl ?_
  refine gq_iconst (v := nI 1) hX dL_law_902 rfl (by decide) ?_
  refine gq_iadd hX dL_law_903 rfl ?_
  rw [nI_add]
  refine gq_sld hX hsc dL_law_904 rfl (vp_in_nI (by omega) (by omega)) hp1.symm ?_
  refine gq_callV (mc := 0) (ms := 0) hX dL_law_905 uL_215 (hcm K1 M1 hR1 hW1) rfl hfs1 rfl rfl (Nat.le_of_ble_eq_true rfl) ⟨(Nat.le_of_ble_eq_true rfl), (Nat.le_of_ble_eq_true rfl)⟩ (Nat.zero_add _) (Nat.zero_add _) ?_
  rintro v M2 ⟨r, K2, rfl, hW2, ht, hlo, hS9⟩
  obtain ⟨fs2, hfs2⟩ := hW2.c151
  refine gq_istore hX dL_law_908 rfl (Nat.le_of_ble_eq_true rfl) rfl ?_
  refine gq_aload_n hX dL_law_910 rfl rfl rfl ?_
  refine gq_callVe hX dL_law_911 rfl uL_174 (thr_wd hb hW2) rfl hfs2 rfl rfl (Nat.le_of_ble_eq_true rfl) ⟨(Nat.le_of_ble_eq_true rfl), (Nat.le_of_ble_eq_true rfl)⟩ (Nat.zero_add _) (Nat.zero_add _) ?_
  rw [ht]
  refine gq_iload hX dL_law_914 rfl rfl ?_
  refine gq_icmp_eqT (tgt := 921) hX dL_law_916 rfl rfl ?_
  refine gq_iload hX dL_law_921 rfl rfl ?_
  by_cases hk0 : k = 0
  · subst hk0
    refine gq_if_neF (tgt := 945) hX dL_law_923 rfl rfl rfl ?_
    refine gq_aload_n hX dL_law_926 rfl rfl rfl ?_
    refine gq_iconst (v := nI 0) hX dL_law_927 rfl (by decide) ?_
    refine gq_lald hX dL_law_928 rfl hW2.lo (vp_in_nI (by decide) (by decide)) ?_
    rw [show K2.2.2.2.2.2.2.1 (nI 0).toNatClampNeg = g1 r from hlo rfl]
    refine gq_iload hX dL_law_929 rfl rfl ?_
    by_cases hr0 : r = 0
    · refine gq_if_eqT (tgt := 938) hX dL_law_931 rfl hr0 ?_
      refine gq_lconst (v := 0) hX dL_law_938 rfl (by decide) ?_
      refine gq_lcmp hX dL_law_939 rfl ?_
      rw [show g1 r = 0 from if_pos hr0, show lg_cmp (0 : Int64) 0 = 0 from lg_cmp_self _]
      refine gq_if_eqT (tgt := 945) hX dL_law_940 rfl rfl ?_
      refine gq_goto (tgt := 2986) hX dL_law_945 rfl ?_
      exact gq_forget 6 (gq_forget 7 (gq_forget 8 (kk _ _ hW2 hS9)))
    · refine gq_if_eqF (tgt := 938) hX dL_law_931 rfl rfl hr0 ?_
      refine gq_lconst (v := 1) hX dL_law_934 rfl (by decide) ?_
      refine gq_goto (tgt := 939) hX dL_law_935 rfl ?_
      refine gq_lcmp hX dL_law_939 rfl ?_
      rw [show g1 r = 1 from if_neg hr0, show lg_cmp (1 : Int64) 1 = 0 from lg_cmp_self _]
      refine gq_if_eqT (tgt := 945) hX dL_law_940 rfl rfl ?_
      refine gq_goto (tgt := 2986) hX dL_law_945 rfl ?_
      exact gq_forget 6 (gq_forget 7 (gq_forget 8 (kk _ _ hW2 hS9)))
  · refine gq_if_neT (tgt := 945) hX dL_law_923 rfl (nI_kz hk hk0) ?_
    refine gq_goto (tgt := 2986) hX dL_law_945 rfl ?_
    exact gq_forget 6 (gq_forget 7 (gq_forget 8 (kk _ _ hW2 hS9)))

set_option maxRecDepth 100000 in
set_option maxHeartbeats 4000000 in
theorem lk_13 {E : Ev} {X : Cx0} {nm : String} {tb : List (Nat × Nat × Nat × Nat)} {Q : State → Prop} {b : Nat → Nat} {K : Kt} {M : Hp} {B nc ns bs L i : Nat} {xs : Nat → Int32} (hX : Cx E X (mLw nm tb)) (hsc : Sc E X bs L xs) (hi : i + 2 < L) (hL : L ≤ 1536) (hb : Lay E 162 b) (hW : Wd E b K M) (hS : Sim K B) (hB9 : B + 200000 < 2 ^ 26) (kk : ∀ K2 M2, Wd E b K2 M2 → Sim K2 (B + 60000) → Gq E X (mLw nm tb) Q 2986 [.ref bs, .ref (b 0), .ref (b 151), .ref (b 160), .ref (b 161), .int (nI i), hole, hole, hole] [] M2 nc ns) : Gq E X (mLw nm tb) Q 948 [.ref bs, .ref (b 0), .ref (b 151), .ref (b 160), .ref (b 161), .int (nI i), hole, hole, hole] [] M (nc + 23) (ns + 3266) := by
  obtain ⟨p1, hp1⟩ : ∃ z, z = xs (nI (i + 1)).toNatClampNeg := ⟨_, rfl⟩
  obtain ⟨k, R, hk, hcw, hcm⟩ := pr_renterOf hb hW hS hB9 p1
  refine gq_aload_n hX dL_law_948 rfl rfl rfl ?_
  refine gq_aload_n hX dL_law_949 rfl rfl rfl ?_
  refine gq_iload hX dL_law_950 rfl rfl ?_
  refine gq_iconst (v := nI 1) hX dL_law_952 rfl (by decide) ?_
  refine gq_iadd hX dL_law_953 rfl ?_
  rw [nI_add]
  refine gq_sld hX hsc dL_law_954 rfl (vp_in_nI (by omega) (by omega)) hp1.symm ?_
  refine gq_aload_n hX dL_law_955 rfl rfl rfl ?_
  refine gq_callH (mc := 23) (ms := 3266) (nc1 := nc) (ns1 := ns) hX dL_law_956 uL_216 hcw rfl rfl (Nat.le_of_ble_eq_true rfl) ⟨(Nat.le_of_ble_eq_true rfl), (Nat.le_of_ble_eq_true rfl)⟩ (Nat.add_comm _ _) (Nat.add_comm _ _) ?_
  rintro v M1 ⟨rfl, K1, hW1, hR1⟩
  obtain ⟨fs1, hfs1⟩ := hW1.c151
  refine gq_istore hX dL_law_959 rfl (Nat.le_of_ble_eq_true rfl) rfl ?_
  refine gq_aload_n hX dL_law_961 rfl rfl rfl ?_
  refine gq_aload_n hX dL_law_962 rfl rfl rfl ?_
  refine gq_iload hX dL_law_963 rfl rfl ?_
  refine gq_iconst (v := nI 1) hX dL_law_965 rfl (by decide) ?_
  refine gq_iadd hX dL_law_966 rfl ?_
  rw [nI_add]
  refine gq_sld hX hsc dL_law_967 rfl (vp_in_nI (by omega) (by omega)) hp1.symm ?_
  refine gq_callV (mc := 0) (ms := 0) hX dL_law_968 uL_218 (hcm K1 M1 hR1 hW1) rfl hfs1 rfl rfl (Nat.le_of_ble_eq_true rfl) ⟨(Nat.le_of_ble_eq_true rfl), (Nat.le_of_ble_eq_true rfl)⟩ (Nat.zero_add _) (Nat.zero_add _) ?_
  rintro v M2 ⟨r, K2, rfl, hW2, ht, hlo, hS9⟩
  obtain ⟨fs2, hfs2⟩ := hW2.c151
  refine gq_istore hX dL_law_971 rfl (Nat.le_of_ble_eq_true rfl) rfl ?_
  refine gq_aload_n hX dL_law_973 rfl rfl rfl ?_
  refine gq_callVe hX dL_law_974 rfl uL_174 (thr_wd hb hW2) rfl hfs2 rfl rfl (Nat.le_of_ble_eq_true rfl) ⟨(Nat.le_of_ble_eq_true rfl), (Nat.le_of_ble_eq_true rfl)⟩ (Nat.zero_add _) (Nat.zero_add _) ?_
  rw [ht]
  refine gq_iload hX dL_law_977 rfl rfl ?_
  refine gq_icmp_eqT (tgt := 984) hX dL_law_979 rfl rfl ?_
  refine gq_iload hX dL_law_984 rfl rfl ?_
  by_cases hk0 : k = 0
  · subst hk0
    refine gq_if_neF (tgt := 1001) hX dL_law_986 rfl rfl rfl ?_
    refine gq_aload_n hX dL_law_989 rfl rfl rfl ?_
    refine gq_iconst (v := nI 0) hX dL_law_990 rfl (by decide) ?_
    refine gq_lald hX dL_law_991 rfl hW2.lo (vp_in_nI (by decide) (by decide)) ?_
    rw [show K2.2.2.2.2.2.2.1 (nI 0).toNatClampNeg = g0 r from hlo rfl]
    refine gq_iload hX dL_law_992 rfl rfl ?_
    refine gq_i2l hX dL_law_994 rfl ?_
    refine gq_lcmp hX dL_law_995 rfl ?_
    rw [show lg_cmp (g0 r) r.toInt64 = 0 from lg_cmp_self _]
    refine gq_if_eqT (tgt := 1001) hX dL_law_996 rfl rfl ?_
    refine gq_goto (tgt := 2986) hX dL_law_1001 rfl ?_
    exact gq_forget 6 (gq_forget 7 (gq_forget 8 (kk _ _ hW2 hS9)))
  · refine gq_if_neT (tgt := 1001) hX dL_law_986 rfl (nI_kz hk hk0) ?_
    refine gq_goto (tgt := 2986) hX dL_law_1001 rfl ?_
    exact gq_forget 6 (gq_forget 7 (gq_forget 8 (kk _ _ hW2 hS9)))

set_option maxRecDepth 100000 in
set_option maxHeartbeats 4000000 in
theorem lk_14 {E : Ev} {X : Cx0} {nm : String} {tb : List (Nat × Nat × Nat × Nat)} {Q : State → Prop} {b : Nat → Nat} {K : Kt} {M : Hp} {B nc ns bs L i : Nat} {xs : Nat → Int32} (hX : Cx E X (mLw nm tb)) (hsc : Sc E X bs L xs) (hi : i + 2 < L) (hL : L ≤ 1536) (hb : Lay E 162 b) (hW : Wd E b K M) (hS : Sim K B) (hB9 : B + 200000 < 2 ^ 26) (kk : ∀ K2 M2, Wd E b K2 M2 → Sim K2 (B + 60000) → Gq E X (mLw nm tb) Q 2986 [.ref bs, .ref (b 0), .ref (b 151), .ref (b 160), .ref (b 161), .int (nI i), hole, hole, hole] [] M2 nc ns) : Gq E X (mLw nm tb) Q 1004 [.ref bs, .ref (b 0), .ref (b 151), .ref (b 160), .ref (b 161), .int (nI i), hole, hole, hole] [] M (nc + 23) (ns + 3266) := by
  obtain ⟨k, R, hk, hcw, hcm⟩ := pr_shortestFreeTail hb hW hS hB9
  refine gq_aload_n hX dL_law_1004 rfl rfl rfl ?_
  refine gq_aload_n hX dL_law_1005 rfl rfl rfl ?_
  refine gq_callH (mc := 23) (ms := 3266) (nc1 := nc) (ns1 := ns) hX dL_law_1006 uL_219 hcw rfl rfl (Nat.le_of_ble_eq_true rfl) ⟨(Nat.le_of_ble_eq_true rfl), (Nat.le_of_ble_eq_true rfl)⟩ (Nat.add_comm _ _) (Nat.add_comm _ _) ?_
  rintro v M1 ⟨rfl, K1, hW1, hR1⟩
  obtain ⟨fs1, hfs1⟩ := hW1.c151
  refine gq_istore hX dL_law_1009 rfl (Nat.le_of_ble_eq_true rfl) rfl ?_
  refine gq_aload_n hX dL_law_1011 rfl rfl rfl ?_
  refine gq_callV (mc := 0) (ms := 0) hX dL_law_1012 uL_222 (hcm K1 M1 hR1 hW1) rfl hfs1 rfl rfl (Nat.le_of_ble_eq_true rfl) ⟨(Nat.le_of_ble_eq_true rfl), (Nat.le_of_ble_eq_true rfl)⟩ (Nat.zero_add _) (Nat.zero_add _) ?_
  rintro v M2 ⟨r, K2, rfl, hW2, ht, hlo, hS9⟩
  obtain ⟨fs2, hfs2⟩ := hW2.c151
  refine gq_istore hX dL_law_1015 rfl (Nat.le_of_ble_eq_true rfl) rfl ?_
  refine gq_aload_n hX dL_law_1017 rfl rfl rfl ?_
  refine gq_callVe hX dL_law_1018 rfl uL_174 (thr_wd hb hW2) rfl hfs2 rfl rfl (Nat.le_of_ble_eq_true rfl) ⟨(Nat.le_of_ble_eq_true rfl), (Nat.le_of_ble_eq_true rfl)⟩ (Nat.zero_add _) (Nat.zero_add _) ?_
  rw [ht]
  refine gq_iload hX dL_law_1021 rfl rfl ?_
  refine gq_icmp_eqT (tgt := 1028) hX dL_law_1023 rfl rfl ?_
  refine gq_iload hX dL_law_1028 rfl rfl ?_
  by_cases hk0 : k = 0
  · subst hk0
    refine gq_if_neF (tgt := 1045) hX dL_law_1030 rfl rfl rfl ?_
    refine gq_aload_n hX dL_law_1033 rfl rfl rfl ?_
    refine gq_iconst (v := nI 0) hX dL_law_1034 rfl (by decide) ?_
    refine gq_lald hX dL_law_1035 rfl hW2.lo (vp_in_nI (by decide) (by decide)) ?_
    rw [show K2.2.2.2.2.2.2.1 (nI 0).toNatClampNeg = g0 r from hlo rfl]
    refine gq_iload hX dL_law_1036 rfl rfl ?_
    refine gq_i2l hX dL_law_1038 rfl ?_
    refine gq_lcmp hX dL_law_1039 rfl ?_
    rw [show lg_cmp (g0 r) r.toInt64 = 0 from lg_cmp_self _]
    refine gq_if_eqT (tgt := 1045) hX dL_law_1040 rfl rfl ?_
    refine gq_goto (tgt := 2986) hX dL_law_1045 rfl ?_
    exact gq_forget 6 (gq_forget 7 (gq_forget 8 (kk _ _ hW2 hS9)))
  · refine gq_if_neT (tgt := 1045) hX dL_law_1030 rfl (nI_kz hk hk0) ?_
    refine gq_goto (tgt := 2986) hX dL_law_1045 rfl ?_
    exact gq_forget 6 (gq_forget 7 (gq_forget 8 (kk _ _ hW2 hS9)))

set_option maxRecDepth 100000 in
set_option maxHeartbeats 4000000 in
theorem lk_15 {E : Ev} {X : Cx0} {nm : String} {tb : List (Nat × Nat × Nat × Nat)} {Q : State → Prop} {b : Nat → Nat} {K : Kt} {M : Hp} {B nc ns bs L i : Nat} {xs : Nat → Int32} (hX : Cx E X (mLw nm tb)) (hsc : Sc E X bs L xs) (hi : i + 2 < L) (hL : L ≤ 1536) (hb : Lay E 162 b) (hW : Wd E b K M) (hS : Sim K B) (hB9 : B + 200000 < 2 ^ 26) (kk : ∀ K2 M2, Wd E b K2 M2 → Sim K2 (B + 60000) → Gq E X (mLw nm tb) Q 2986 [.ref bs, .ref (b 0), .ref (b 151), .ref (b 160), .ref (b 161), .int (nI i), hole, hole, hole] [] M2 nc ns) : Gq E X (mLw nm tb) Q 1048 [.ref bs, .ref (b 0), .ref (b 151), .ref (b 160), .ref (b 161), .int (nI i), hole, hole, hole] [] M (nc + 23) (ns + 3266) := by
  obtain ⟨p1, hp1⟩ : ∃ z, z = xs (nI (i + 1)).toNatClampNeg := ⟨_, rfl⟩
  obtain ⟨p2, hp2⟩ : ∃ z, z = xs (nI (i + 2)).toNatClampNeg := ⟨_, rfl⟩
  obtain ⟨k, R, hk, hcw, hcm⟩ := pr_moveToRent hb hW hS hB9 p1 p2
  refine gq_aload_n hX dL_law_1048 rfl rfl rfl ?_
  refine gq_aload_n hX dL_law_1049 rfl rfl rfl ?_
  refine gq_iload hX dL_law_1050 rfl rfl ?_
  refine gq_iconst (v := nI 1) hX dL_law_1052 rfl (by decide) ?_
  refine gq_iadd hX dL_law_1053 rfl ?_
  rw [nI_add]
  refine gq_sld hX hsc dL_law_1054 rfl (vp_in_nI (by omega) (by omega)) hp1.symm ?_
  refine gq_aload_n hX dL_law_1055 rfl rfl rfl ?_
  refine gq_iload hX dL_law_1056 rfl rfl ?_
  refine gq_iconst (v := nI 2) hX dL_law_1058 rfl (by decide) ?_
  refine gq_iadd hX dL_law_1059 rfl ?_
  rw [nI_add]
  refine gq_sld hX hsc dL_law_1060 rfl (vp_in_nI (by omega) (by omega)) hp2.symm ?_
  refine gq_aload_n hX dL_law_1061 rfl rfl rfl ?_
  refine gq_callH (mc := 23) (ms := 3266) (nc1 := nc) (ns1 := ns) hX dL_law_1062 uL_223 hcw rfl rfl (Nat.le_of_ble_eq_true rfl) ⟨(Nat.le_of_ble_eq_true rfl), (Nat.le_of_ble_eq_true rfl)⟩ (Nat.add_comm _ _) (Nat.add_comm _ _) ?_
  rintro v M1 ⟨rfl, K1, hW1, hR1⟩
  obtain ⟨fs1, hfs1⟩ := hW1.c151
  refine gq_istore hX dL_law_1065 rfl (Nat.le_of_ble_eq_true rfl) rfl ?_
  refine gq_aload_n hX dL_law_1067 rfl rfl rfl ?_
  refine gq_aload_n hX dL_law_1068 rfl rfl rfl ?_
  refine gq_iload hX dL_law_1069 rfl rfl ?_
  refine gq_iconst (v := nI 1) hX dL_law_1071 rfl (by decide) ?_
  refine gq_iadd hX dL_law_1072 rfl ?_
  rw [nI_add]
  refine gq_sld hX hsc dL_law_1073 rfl (vp_in_nI (by omega) (by omega)) hp1.symm ?_
  refine gq_aload_n hX dL_law_1074 rfl rfl rfl ?_
  refine gq_iload hX dL_law_1075 rfl rfl ?_
  refine gq_iconst (v := nI 2) hX dL_law_1077 rfl (by decide) ?_
  refine gq_iadd hX dL_law_1078 rfl ?_
  rw [nI_add]
  refine gq_sld hX hsc dL_law_1079 rfl (vp_in_nI (by omega) (by omega)) hp2.symm ?_
  refine gq_callV (mc := 0) (ms := 0) hX dL_law_1080 uL_225 (hcm K1 M1 hR1 hW1) rfl hfs1 rfl rfl (Nat.le_of_ble_eq_true rfl) ⟨(Nat.le_of_ble_eq_true rfl), (Nat.le_of_ble_eq_true rfl)⟩ (Nat.zero_add _) (Nat.zero_add _) ?_
  rintro v M2 ⟨r, K2, rfl, hW2, ht, hlo, hS9⟩
  obtain ⟨fs2, hfs2⟩ := hW2.c151
  refine gq_istore hX dL_law_1083 rfl (Nat.le_of_ble_eq_true rfl) rfl ?_
  refine gq_aload_n hX dL_law_1085 rfl rfl rfl ?_
  refine gq_callVe hX dL_law_1086 rfl uL_174 (thr_wd hb hW2) rfl hfs2 rfl rfl (Nat.le_of_ble_eq_true rfl) ⟨(Nat.le_of_ble_eq_true rfl), (Nat.le_of_ble_eq_true rfl)⟩ (Nat.zero_add _) (Nat.zero_add _) ?_
  rw [ht]
  refine gq_iload hX dL_law_1089 rfl rfl ?_
  refine gq_icmp_eqT (tgt := 1096) hX dL_law_1091 rfl rfl ?_
  refine gq_iload hX dL_law_1096 rfl rfl ?_
  by_cases hk0 : k = 0
  · subst hk0
    refine gq_if_neF (tgt := 1113) hX dL_law_1098 rfl rfl rfl ?_
    refine gq_aload_n hX dL_law_1101 rfl rfl rfl ?_
    refine gq_iconst (v := nI 0) hX dL_law_1102 rfl (by decide) ?_
    refine gq_lald hX dL_law_1103 rfl hW2.lo (vp_in_nI (by decide) (by decide)) ?_
    rw [show K2.2.2.2.2.2.2.1 (nI 0).toNatClampNeg = g0 r from hlo rfl]
    refine gq_iload hX dL_law_1104 rfl rfl ?_
    refine gq_i2l hX dL_law_1106 rfl ?_
    refine gq_lcmp hX dL_law_1107 rfl ?_
    rw [show lg_cmp (g0 r) r.toInt64 = 0 from lg_cmp_self _]
    refine gq_if_eqT (tgt := 1113) hX dL_law_1108 rfl rfl ?_
    refine gq_goto (tgt := 2986) hX dL_law_1113 rfl ?_
    exact gq_forget 6 (gq_forget 7 (gq_forget 8 (kk _ _ hW2 hS9)))
  · refine gq_if_neT (tgt := 1113) hX dL_law_1098 rfl (nI_kz hk hk0) ?_
    refine gq_goto (tgt := 2986) hX dL_law_1113 rfl ?_
    exact gq_forget 6 (gq_forget 7 (gq_forget 8 (kk _ _ hW2 hS9)))

set_option maxRecDepth 100000 in
set_option maxHeartbeats 4000000 in
theorem lk_16 {E : Ev} {X : Cx0} {nm : String} {tb : List (Nat × Nat × Nat × Nat)} {Q : State → Prop} {b : Nat → Nat} {K : Kt} {M : Hp} {B nc ns bs L i : Nat} {xs : Nat → Int32} (hX : Cx E X (mLw nm tb)) (hsc : Sc E X bs L xs) (hi : i + 2 < L) (hL : L ≤ 1536) (hb : Lay E 162 b) (hW : Wd E b K M) (hS : Sim K B) (hB9 : B + 200000 < 2 ^ 26) (kk : ∀ K2 M2, Wd E b K2 M2 → Sim K2 (B + 60000) → Gq E X (mLw nm tb) Q 2986 [.ref bs, .ref (b 0), .ref (b 151), .ref (b 160), .ref (b 161), .int (nI i), hole, hole, hole] [] M2 nc ns) : Gq E X (mLw nm tb) Q 1116 [.ref bs, .ref (b 0), .ref (b 151), .ref (b 160), .ref (b 161), .int (nI i), hole, hole, hole] [] M (nc + 23) (ns + 3266) := by
  obtain ⟨p1, hp1⟩ : ∃ z, z = xs (nI (i + 1)).toNatClampNeg := ⟨_, rfl⟩
  obtain ⟨p2, hp2⟩ : ∃ z, z = xs (nI (i + 2)).toNatClampNeg := ⟨_, rfl⟩
  obtain ⟨k, R, hk, hcw, hcm⟩ := pr_moveToReturn hb hW hS hB9 p1 p2
  refine gq_aload_n hX dL_law_1116 rfl rfl rfl ?_
  refine gq_aload_n hX dL_law_1117 rfl rfl rfl ?_
  refine gq_iload hX dL_law_1118 rfl rfl ?_
  refine gq_iconst (v := nI 1) hX dL_law_1120 rfl (by decide) ?_
  refine gq_iadd hX dL_law_1121 rfl ?_
  rw [nI_add]
  refine gq_sld hX hsc dL_law_1122 rfl (vp_in_nI (by omega) (by omega)) hp1.symm ?_
  refine gq_aload_n hX dL_law_1123 rfl rfl rfl ?_
  refine gq_iload hX dL_law_1124 rfl rfl ?_
  refine gq_iconst (v := nI 2) hX dL_law_1126 rfl (by decide) ?_
  refine gq_iadd hX dL_law_1127 rfl ?_
  rw [nI_add]
  refine gq_sld hX hsc dL_law_1128 rfl (vp_in_nI (by omega) (by omega)) hp2.symm ?_
  refine gq_aload_n hX dL_law_1129 rfl rfl rfl ?_
  refine gq_callH (mc := 23) (ms := 3266) (nc1 := nc) (ns1 := ns) hX dL_law_1130 uL_226 hcw rfl rfl (Nat.le_of_ble_eq_true rfl) ⟨(Nat.le_of_ble_eq_true rfl), (Nat.le_of_ble_eq_true rfl)⟩ (Nat.add_comm _ _) (Nat.add_comm _ _) ?_
  rintro v M1 ⟨rfl, K1, hW1, hR1⟩
  obtain ⟨fs1, hfs1⟩ := hW1.c151
  refine gq_istore hX dL_law_1133 rfl (Nat.le_of_ble_eq_true rfl) rfl ?_
  refine gq_aload_n hX dL_law_1135 rfl rfl rfl ?_
  refine gq_aload_n hX dL_law_1136 rfl rfl rfl ?_
  refine gq_iload hX dL_law_1137 rfl rfl ?_
  refine gq_iconst (v := nI 1) hX dL_law_1139 rfl (by decide) ?_
  refine gq_iadd hX dL_law_1140 rfl ?_
  rw [nI_add]
  refine gq_sld hX hsc dL_law_1141 rfl (vp_in_nI (by omega) (by omega)) hp1.symm ?_
  refine gq_aload_n hX dL_law_1142 rfl rfl rfl ?_
  refine gq_iload hX dL_law_1143 rfl rfl ?_
  refine gq_iconst (v := nI 2) hX dL_law_1145 rfl (by decide) ?_
  refine gq_iadd hX dL_law_1146 rfl ?_
  rw [nI_add]
  refine gq_sld hX hsc dL_law_1147 rfl (vp_in_nI (by omega) (by omega)) hp2.symm ?_
  refine gq_callV (mc := 0) (ms := 0) hX dL_law_1148 uL_228 (hcm K1 M1 hR1 hW1) rfl hfs1 rfl rfl (Nat.le_of_ble_eq_true rfl) ⟨(Nat.le_of_ble_eq_true rfl), (Nat.le_of_ble_eq_true rfl)⟩ (Nat.zero_add _) (Nat.zero_add _) ?_
  rintro v M2 ⟨r, K2, rfl, hW2, ht, hlo, hS9⟩
  obtain ⟨fs2, hfs2⟩ := hW2.c151
  refine gq_istore hX dL_law_1151 rfl (Nat.le_of_ble_eq_true rfl) rfl ?_
  refine gq_aload_n hX dL_law_1153 rfl rfl rfl ?_
  refine gq_callVe hX dL_law_1154 rfl uL_174 (thr_wd hb hW2) rfl hfs2 rfl rfl (Nat.le_of_ble_eq_true rfl) ⟨(Nat.le_of_ble_eq_true rfl), (Nat.le_of_ble_eq_true rfl)⟩ (Nat.zero_add _) (Nat.zero_add _) ?_
  rw [ht]
  refine gq_iload hX dL_law_1157 rfl rfl ?_
  refine gq_icmp_eqT (tgt := 1164) hX dL_law_1159 rfl rfl ?_
  refine gq_iload hX dL_law_1164 rfl rfl ?_
  by_cases hk0 : k = 0
  · subst hk0
    refine gq_if_neF (tgt := 1181) hX dL_law_1166 rfl rfl rfl ?_
    refine gq_aload_n hX dL_law_1169 rfl rfl rfl ?_
    refine gq_iconst (v := nI 0) hX dL_law_1170 rfl (by decide) ?_
    refine gq_lald hX dL_law_1171 rfl hW2.lo (vp_in_nI (by decide) (by decide)) ?_
    rw [show K2.2.2.2.2.2.2.1 (nI 0).toNatClampNeg = g0 r from hlo rfl]
    refine gq_iload hX dL_law_1172 rfl rfl ?_
    refine gq_i2l hX dL_law_1174 rfl ?_
    refine gq_lcmp hX dL_law_1175 rfl ?_
    rw [show lg_cmp (g0 r) r.toInt64 = 0 from lg_cmp_self _]
    refine gq_if_eqT (tgt := 1181) hX dL_law_1176 rfl rfl ?_
    refine gq_goto (tgt := 2986) hX dL_law_1181 rfl ?_
    exact gq_forget 6 (gq_forget 7 (gq_forget 8 (kk _ _ hW2 hS9)))
  · refine gq_if_neT (tgt := 1181) hX dL_law_1166 rfl (nI_kz hk hk0) ?_
    refine gq_goto (tgt := 2986) hX dL_law_1181 rfl ?_
    exact gq_forget 6 (gq_forget 7 (gq_forget 8 (kk _ _ hW2 hS9)))

set_option maxRecDepth 100000 in
set_option maxHeartbeats 4000000 in
theorem lk_17 {E : Ev} {X : Cx0} {nm : String} {tb : List (Nat × Nat × Nat × Nat)} {Q : State → Prop} {b : Nat → Nat} {K : Kt} {M : Hp} {B nc ns bs L i : Nat} {xs : Nat → Int32} (hX : Cx E X (mLw nm tb)) (hsc : Sc E X bs L xs) (hi : i + 2 < L) (hL : L ≤ 1536) (hb : Lay E 162 b) (hW : Wd E b K M) (hS : Sim K B) (hB9 : B + 200000 < 2 ^ 26) (kk : ∀ K2 M2, Wd E b K2 M2 → Sim K2 (B + 60000) → Gq E X (mLw nm tb) Q 2986 [.ref bs, .ref (b 0), .ref (b 151), .ref (b 160), .ref (b 161), .int (nI i), hole, hole, hole] [] M2 nc ns) : Gq E X (mLw nm tb) Q 1184 [.ref bs, .ref (b 0), .ref (b 151), .ref (b 160), .ref (b 161), .int (nI i), hole, hole, hole] [] M (nc + 23) (ns + 3266) := by
  obtain ⟨p1, hp1⟩ : ∃ z, z = xs (nI (i + 1)).toNatClampNeg := ⟨_, rfl⟩
  obtain ⟨p2, hp2⟩ : ∃ z, z = xs (nI (i + 2)).toNatClampNeg := ⟨_, rfl⟩
  obtain ⟨k, R, hk, hcw, hcm⟩ := pr_moveToGround hb hW hS hB9 p1 p2
  refine gq_aload_n hX dL_law_1184 rfl rfl rfl ?_
  refine gq_aload_n hX dL_law_1185 rfl rfl rfl ?_
  refine gq_iload hX dL_law_1186 rfl rfl ?_
  refine gq_iconst (v := nI 1) hX dL_law_1188 rfl (by decide) ?_
  refine gq_iadd hX dL_law_1189 rfl ?_
  rw [nI_add]
  refine gq_sld hX hsc dL_law_1190 rfl (vp_in_nI (by omega) (by omega)) hp1.symm ?_
  refine gq_aload_n hX dL_law_1191 rfl rfl rfl ?_
  refine gq_iload hX dL_law_1192 rfl rfl ?_
  refine gq_iconst (v := nI 2) hX dL_law_1194 rfl (by decide) ?_
  refine gq_iadd hX dL_law_1195 rfl ?_
  rw [nI_add]
  refine gq_sld hX hsc dL_law_1196 rfl (vp_in_nI (by omega) (by omega)) hp2.symm ?_
  refine gq_aload_n hX dL_law_1197 rfl rfl rfl ?_
  refine gq_callH (mc := 23) (ms := 3266) (nc1 := nc) (ns1 := ns) hX dL_law_1198 uL_229 hcw rfl rfl (Nat.le_of_ble_eq_true rfl) ⟨(Nat.le_of_ble_eq_true rfl), (Nat.le_of_ble_eq_true rfl)⟩ (Nat.add_comm _ _) (Nat.add_comm _ _) ?_
  rintro v M1 ⟨rfl, K1, hW1, hR1⟩
  obtain ⟨fs1, hfs1⟩ := hW1.c151
  refine gq_istore hX dL_law_1201 rfl (Nat.le_of_ble_eq_true rfl) rfl ?_
  refine gq_aload_n hX dL_law_1203 rfl rfl rfl ?_
  refine gq_aload_n hX dL_law_1204 rfl rfl rfl ?_
  refine gq_iload hX dL_law_1205 rfl rfl ?_
  refine gq_iconst (v := nI 1) hX dL_law_1207 rfl (by decide) ?_
  refine gq_iadd hX dL_law_1208 rfl ?_
  rw [nI_add]
  refine gq_sld hX hsc dL_law_1209 rfl (vp_in_nI (by omega) (by omega)) hp1.symm ?_
  refine gq_aload_n hX dL_law_1210 rfl rfl rfl ?_
  refine gq_iload hX dL_law_1211 rfl rfl ?_
  refine gq_iconst (v := nI 2) hX dL_law_1213 rfl (by decide) ?_
  refine gq_iadd hX dL_law_1214 rfl ?_
  rw [nI_add]
  refine gq_sld hX hsc dL_law_1215 rfl (vp_in_nI (by omega) (by omega)) hp2.symm ?_
  refine gq_callV (mc := 0) (ms := 0) hX dL_law_1216 uL_231 (hcm K1 M1 hR1 hW1) rfl hfs1 rfl rfl (Nat.le_of_ble_eq_true rfl) ⟨(Nat.le_of_ble_eq_true rfl), (Nat.le_of_ble_eq_true rfl)⟩ (Nat.zero_add _) (Nat.zero_add _) ?_
  rintro v M2 ⟨r, K2, rfl, hW2, ht, hlo, hS9⟩
  obtain ⟨fs2, hfs2⟩ := hW2.c151
  refine gq_istore hX dL_law_1219 rfl (Nat.le_of_ble_eq_true rfl) rfl ?_
  refine gq_aload_n hX dL_law_1221 rfl rfl rfl ?_
  refine gq_callVe hX dL_law_1222 rfl uL_174 (thr_wd hb hW2) rfl hfs2 rfl rfl (Nat.le_of_ble_eq_true rfl) ⟨(Nat.le_of_ble_eq_true rfl), (Nat.le_of_ble_eq_true rfl)⟩ (Nat.zero_add _) (Nat.zero_add _) ?_
  rw [ht]
  refine gq_iload hX dL_law_1225 rfl rfl ?_
  refine gq_icmp_eqT (tgt := 1232) hX dL_law_1227 rfl rfl ?_
  refine gq_iload hX dL_law_1232 rfl rfl ?_
  by_cases hk0 : k = 0
  · subst hk0
    refine gq_if_neF (tgt := 1249) hX dL_law_1234 rfl rfl rfl ?_
    refine gq_aload_n hX dL_law_1237 rfl rfl rfl ?_
    refine gq_iconst (v := nI 0) hX dL_law_1238 rfl (by decide) ?_
    refine gq_lald hX dL_law_1239 rfl hW2.lo (vp_in_nI (by decide) (by decide)) ?_
    rw [show K2.2.2.2.2.2.2.1 (nI 0).toNatClampNeg = g0 r from hlo rfl]
    refine gq_iload hX dL_law_1240 rfl rfl ?_
    refine gq_i2l hX dL_law_1242 rfl ?_
    refine gq_lcmp hX dL_law_1243 rfl ?_
    rw [show lg_cmp (g0 r) r.toInt64 = 0 from lg_cmp_self _]
    refine gq_if_eqT (tgt := 1249) hX dL_law_1244 rfl rfl ?_
    refine gq_goto (tgt := 2986) hX dL_law_1249 rfl ?_
    exact gq_forget 6 (gq_forget 7 (gq_forget 8 (kk _ _ hW2 hS9)))
  · refine gq_if_neT (tgt := 1249) hX dL_law_1234 rfl (nI_kz hk hk0) ?_
    refine gq_goto (tgt := 2986) hX dL_law_1249 rfl ?_
    exact gq_forget 6 (gq_forget 7 (gq_forget 8 (kk _ _ hW2 hS9)))

set_option maxRecDepth 100000 in
set_option maxHeartbeats 4000000 in
theorem lk_18 {E : Ev} {X : Cx0} {nm : String} {tb : List (Nat × Nat × Nat × Nat)} {Q : State → Prop} {b : Nat → Nat} {K : Kt} {M : Hp} {B nc ns bs L i : Nat} {xs : Nat → Int32} (hX : Cx E X (mLw nm tb)) (hsc : Sc E X bs L xs) (hi : i + 2 < L) (hL : L ≤ 1536) (hb : Lay E 162 b) (hW : Wd E b K M) (hS : Sim K B) (hB9 : B + 200000 < 2 ^ 26) (kk : ∀ K2 M2, Wd E b K2 M2 → Sim K2 (B + 60000) → Gq E X (mLw nm tb) Q 2986 [.ref bs, .ref (b 0), .ref (b 151), .ref (b 160), .ref (b 161), .int (nI i), hole, hole, hole] [] M2 nc ns) : Gq E X (mLw nm tb) Q 1252 [.ref bs, .ref (b 0), .ref (b 151), .ref (b 160), .ref (b 161), .int (nI i), hole, hole, hole] [] M (nc + 23) (ns + 3266) := by
  obtain ⟨p1, hp1⟩ : ∃ z, z = xs (nI (i + 1)).toNatClampNeg := ⟨_, rfl⟩
  obtain ⟨p2, hp2⟩ : ∃ z, z = xs (nI (i + 2)).toNatClampNeg := ⟨_, rfl⟩
  obtain ⟨k, R, hk, hcw, hcm⟩ := pr_second hb hW hS hB9 p1 p2
  refine gq_aload_n hX dL_law_1252 rfl rfl rfl ?_
  refine gq_aload_n hX dL_law_1253 rfl rfl rfl ?_
  refine gq_iload hX dL_law_1254 rfl rfl ?_
  refine gq_iconst (v := nI 1) hX dL_law_1256 rfl (by decide) ?_
  refine gq_iadd hX dL_law_1257 rfl ?_
  rw [nI_add]
  refine gq_sld hX hsc dL_law_1258 rfl (vp_in_nI (by omega) (by omega)) hp1.symm ?_
  refine gq_aload_n hX dL_law_1259 rfl rfl rfl ?_
  refine gq_iload hX dL_law_1260 rfl rfl ?_
  refine gq_iconst (v := nI 2) hX dL_law_1262 rfl (by decide) ?_
  refine gq_iadd hX dL_law_1263 rfl ?_
  rw [nI_add]
  refine gq_sld hX hsc dL_law_1264 rfl (vp_in_nI (by omega) (by omega)) hp2.symm ?_
  refine gq_aload_n hX dL_law_1265 rfl rfl rfl ?_
  refine gq_callH (mc := 23) (ms := 3266) (nc1 := nc) (ns1 := ns) hX dL_law_1266 uL_232 hcw rfl rfl (Nat.le_of_ble_eq_true rfl) ⟨(Nat.le_of_ble_eq_true rfl), (Nat.le_of_ble_eq_true rfl)⟩ (Nat.add_comm _ _) (Nat.add_comm _ _) ?_
  rintro v M1 ⟨rfl, K1, hW1, hR1⟩
  obtain ⟨fs1, hfs1⟩ := hW1.c151
  refine gq_istore hX dL_law_1269 rfl (Nat.le_of_ble_eq_true rfl) rfl ?_
  refine gq_aload_n hX dL_law_1271 rfl rfl rfl ?_
  refine gq_aload_n hX dL_law_1272 rfl rfl rfl ?_
  refine gq_iload hX dL_law_1273 rfl rfl ?_
  refine gq_iconst (v := nI 1) hX dL_law_1275 rfl (by decide) ?_
  refine gq_iadd hX dL_law_1276 rfl ?_
  rw [nI_add]
  refine gq_sld hX hsc dL_law_1277 rfl (vp_in_nI (by omega) (by omega)) hp1.symm ?_
  refine gq_aload_n hX dL_law_1278 rfl rfl rfl ?_
  refine gq_iload hX dL_law_1279 rfl rfl ?_
  refine gq_iconst (v := nI 2) hX dL_law_1281 rfl (by decide) ?_
  refine gq_iadd hX dL_law_1282 rfl ?_
  rw [nI_add]
  refine gq_sld hX hsc dL_law_1283 rfl (vp_in_nI (by omega) (by omega)) hp2.symm ?_
  refine gq_callV (mc := 0) (ms := 0) hX dL_law_1284 uL_234 (hcm K1 M1 hR1 hW1) rfl hfs1 rfl rfl (Nat.le_of_ble_eq_true rfl) ⟨(Nat.le_of_ble_eq_true rfl), (Nat.le_of_ble_eq_true rfl)⟩ (Nat.zero_add _) (Nat.zero_add _) ?_
  rintro v M2 ⟨r, K2, rfl, hW2, ht, hlo, hS9⟩
  obtain ⟨fs2, hfs2⟩ := hW2.c151
  refine gq_istore hX dL_law_1287 rfl (Nat.le_of_ble_eq_true rfl) rfl ?_
  refine gq_aload_n hX dL_law_1289 rfl rfl rfl ?_
  refine gq_callVe hX dL_law_1290 rfl uL_174 (thr_wd hb hW2) rfl hfs2 rfl rfl (Nat.le_of_ble_eq_true rfl) ⟨(Nat.le_of_ble_eq_true rfl), (Nat.le_of_ble_eq_true rfl)⟩ (Nat.zero_add _) (Nat.zero_add _) ?_
  rw [ht]
  refine gq_iload hX dL_law_1293 rfl rfl ?_
  refine gq_icmp_eqT (tgt := 1300) hX dL_law_1295 rfl rfl ?_
  refine gq_iload hX dL_law_1300 rfl rfl ?_
  by_cases hk0 : k = 0
  · subst hk0
    refine gq_if_neF (tgt := 1317) hX dL_law_1302 rfl rfl rfl ?_
    refine gq_aload_n hX dL_law_1305 rfl rfl rfl ?_
    refine gq_iconst (v := nI 0) hX dL_law_1306 rfl (by decide) ?_
    refine gq_lald hX dL_law_1307 rfl hW2.lo (vp_in_nI (by decide) (by decide)) ?_
    rw [show K2.2.2.2.2.2.2.1 (nI 0).toNatClampNeg = g0 r from hlo rfl]
    refine gq_iload hX dL_law_1308 rfl rfl ?_
    refine gq_i2l hX dL_law_1310 rfl ?_
    refine gq_lcmp hX dL_law_1311 rfl ?_
    rw [show lg_cmp (g0 r) r.toInt64 = 0 from lg_cmp_self _]
    refine gq_if_eqT (tgt := 1317) hX dL_law_1312 rfl rfl ?_
    refine gq_goto (tgt := 2986) hX dL_law_1317 rfl ?_
    exact gq_forget 6 (gq_forget 7 (gq_forget 8 (kk _ _ hW2 hS9)))
  · refine gq_if_neT (tgt := 1317) hX dL_law_1302 rfl (nI_kz hk hk0) ?_
    refine gq_goto (tgt := 2986) hX dL_law_1317 rfl ?_
    exact gq_forget 6 (gq_forget 7 (gq_forget 8 (kk _ _ hW2 hS9)))

set_option maxRecDepth 100000 in
set_option maxHeartbeats 4000000 in
theorem lk_19 {E : Ev} {X : Cx0} {nm : String} {tb : List (Nat × Nat × Nat × Nat)} {Q : State → Prop} {b : Nat → Nat} {K : Kt} {M : Hp} {B nc ns bs L i : Nat} {xs : Nat → Int32} (hX : Cx E X (mLw nm tb)) (hsc : Sc E X bs L xs) (hi : i + 2 < L) (hL : L ≤ 1536) (hb : Lay E 162 b) (hW : Wd E b K M) (hS : Sim K B) (hB9 : B + 200000 < 2 ^ 26) (kk : ∀ K2 M2, Wd E b K2 M2 → Sim K2 (B + 60000) → Gq E X (mLw nm tb) Q 2986 [.ref bs, .ref (b 0), .ref (b 151), .ref (b 160), .ref (b 161), .int (nI i), hole, hole, hole] [] M2 nc ns) : Gq E X (mLw nm tb) Q 1320 [.ref bs, .ref (b 0), .ref (b 151), .ref (b 160), .ref (b 161), .int (nI i), hole, hole, hole] [] M (nc + 23) (ns + 3266) := by
  obtain ⟨p1, hp1⟩ : ∃ z, z = xs (nI (i + 1)).toNatClampNeg := ⟨_, rfl⟩
  obtain ⟨k, R, hk, hcw, hcm⟩ := pr_untable hb hW hS hB9 p1
  refine gq_aload_n hX dL_law_1320 rfl rfl rfl ?_
  refine gq_aload_n hX dL_law_1321 rfl rfl rfl ?_
  refine gq_iload hX dL_law_1322 rfl rfl ?_
  refine gq_iconst (v := nI 1) hX dL_law_1324 rfl (by decide) ?_
  refine gq_iadd hX dL_law_1325 rfl ?_
  rw [nI_add]
  refine gq_sld hX hsc dL_law_1326 rfl (vp_in_nI (by omega) (by omega)) hp1.symm ?_
  refine gq_aload_n hX dL_law_1327 rfl rfl rfl ?_
  refine gq_callH (mc := 23) (ms := 3266) (nc1 := nc) (ns1 := ns) hX dL_law_1328 uL_235 hcw rfl rfl (Nat.le_of_ble_eq_true rfl) ⟨(Nat.le_of_ble_eq_true rfl), (Nat.le_of_ble_eq_true rfl)⟩ (Nat.add_comm _ _) (Nat.add_comm _ _) ?_
  rintro v M1 ⟨rfl, K1, hW1, hR1⟩
  obtain ⟨fs1, hfs1⟩ := hW1.c151
  refine gq_istore hX dL_law_1331 rfl (Nat.le_of_ble_eq_true rfl) rfl ?_
  refine gq_aload_n hX dL_law_1333 rfl rfl rfl ?_
  refine gq_aload_n hX dL_law_1334 rfl rfl rfl ?_
  refine gq_iload hX dL_law_1335 rfl rfl ?_
  refine gq_iconst (v := nI 1) hX dL_law_1337 rfl (by decide) ?_
  refine gq_iadd hX dL_law_1338 rfl ?_
  rw [nI_add]
  refine gq_sld hX hsc dL_law_1339 rfl (vp_in_nI (by omega) (by omega)) hp1.symm ?_
  refine gq_callV (mc := 0) (ms := 0) hX dL_law_1340 uL_237 (hcm K1 M1 hR1 hW1) rfl hfs1 rfl rfl (Nat.le_of_ble_eq_true rfl) ⟨(Nat.le_of_ble_eq_true rfl), (Nat.le_of_ble_eq_true rfl)⟩ (Nat.zero_add _) (Nat.zero_add _) ?_
  rintro v M2 ⟨r, K2, rfl, hW2, ht, hlo, hS9⟩
  obtain ⟨fs2, hfs2⟩ := hW2.c151
  refine gq_istore hX dL_law_1343 rfl (Nat.le_of_ble_eq_true rfl) rfl ?_
  refine gq_aload_n hX dL_law_1345 rfl rfl rfl ?_
  refine gq_callVe hX dL_law_1346 rfl uL_174 (thr_wd hb hW2) rfl hfs2 rfl rfl (Nat.le_of_ble_eq_true rfl) ⟨(Nat.le_of_ble_eq_true rfl), (Nat.le_of_ble_eq_true rfl)⟩ (Nat.zero_add _) (Nat.zero_add _) ?_
  rw [ht]
  refine gq_iload hX dL_law_1349 rfl rfl ?_
  refine gq_icmp_eqT (tgt := 1356) hX dL_law_1351 rfl rfl ?_
  refine gq_iload hX dL_law_1356 rfl rfl ?_
  by_cases hk0 : k = 0
  · subst hk0
    refine gq_if_neF (tgt := 1373) hX dL_law_1358 rfl rfl rfl ?_
    refine gq_aload_n hX dL_law_1361 rfl rfl rfl ?_
    refine gq_iconst (v := nI 0) hX dL_law_1362 rfl (by decide) ?_
    refine gq_lald hX dL_law_1363 rfl hW2.lo (vp_in_nI (by decide) (by decide)) ?_
    rw [show K2.2.2.2.2.2.2.1 (nI 0).toNatClampNeg = g0 r from hlo rfl]
    refine gq_iload hX dL_law_1364 rfl rfl ?_
    refine gq_i2l hX dL_law_1366 rfl ?_
    refine gq_lcmp hX dL_law_1367 rfl ?_
    rw [show lg_cmp (g0 r) r.toInt64 = 0 from lg_cmp_self _]
    refine gq_if_eqT (tgt := 1373) hX dL_law_1368 rfl rfl ?_
    refine gq_goto (tgt := 2986) hX dL_law_1373 rfl ?_
    exact gq_forget 6 (gq_forget 7 (gq_forget 8 (kk _ _ hW2 hS9)))
  · refine gq_if_neT (tgt := 1373) hX dL_law_1358 rfl (nI_kz hk hk0) ?_
    refine gq_goto (tgt := 2986) hX dL_law_1373 rfl ?_
    exact gq_forget 6 (gq_forget 7 (gq_forget 8 (kk _ _ hW2 hS9)))

set_option maxRecDepth 100000 in
set_option maxHeartbeats 4000000 in
theorem lk_20 {E : Ev} {X : Cx0} {nm : String} {tb : List (Nat × Nat × Nat × Nat)} {Q : State → Prop} {b : Nat → Nat} {K : Kt} {M : Hp} {B nc ns bs L i : Nat} {xs : Nat → Int32} (hX : Cx E X (mLw nm tb)) (hsc : Sc E X bs L xs) (hi : i + 2 < L) (hL : L ≤ 1536) (hb : Lay E 162 b) (hW : Wd E b K M) (hS : Sim K B) (hB9 : B + 200000 < 2 ^ 26) (kk : ∀ K2 M2, Wd E b K2 M2 → Sim K2 (B + 60000) → Gq E X (mLw nm tb) Q 2986 [.ref bs, .ref (b 0), .ref (b 151), .ref (b 160), .ref (b 161), .int (nI i), hole, hole, hole] [] M2 nc ns) : Gq E X (mLw nm tb) Q 1376 [.ref bs, .ref (b 0), .ref (b 151), .ref (b 160), .ref (b 161), .int (nI i), hole, hole, hole] [] M (nc + 23) (ns + 3266) := by
  obtain ⟨p1, hp1⟩ : ∃ z, z = xs (nI (i + 1)).toNatClampNeg := ⟨_, rfl⟩
  obtain ⟨k, R, hk, hcw, hcm⟩ := pr_withdraw hb hW hS hB9 p1
  refine gq_aload_n hX dL_law_1376 rfl rfl rfl ?_
  refine gq_aload_n hX dL_law_1377 rfl rfl rfl ?_
  refine gq_iload hX dL_law_1378 rfl rfl ?_
  refine gq_iconst (v := nI 1) hX dL_law_1380 rfl (by decide) ?_
  refine gq_iadd hX dL_law_1381 rfl ?_
  rw [nI_add]
  refine gq_sld hX hsc dL_law_1382 rfl (vp_in_nI (by omega) (by omega)) hp1.symm ?_
  refine gq_aload_n hX dL_law_1383 rfl rfl rfl ?_
  refine gq_callH (mc := 23) (ms := 3266) (nc1 := nc) (ns1 := ns) hX dL_law_1384 uL_238 hcw rfl rfl (Nat.le_of_ble_eq_true rfl) ⟨(Nat.le_of_ble_eq_true rfl), (Nat.le_of_ble_eq_true rfl)⟩ (Nat.add_comm _ _) (Nat.add_comm _ _) ?_
  rintro v M1 ⟨rfl, K1, hW1, hR1⟩
  obtain ⟨fs1, hfs1⟩ := hW1.c151
  refine gq_istore hX dL_law_1387 rfl (Nat.le_of_ble_eq_true rfl) rfl ?_
  refine gq_aload_n hX dL_law_1389 rfl rfl rfl ?_
  refine gq_aload_n hX dL_law_1390 rfl rfl rfl ?_
  refine gq_iload hX dL_law_1391 rfl rfl ?_
  refine gq_iconst (v := nI 1) hX dL_law_1393 rfl (by decide) ?_
  refine gq_iadd hX dL_law_1394 rfl ?_
  rw [nI_add]
  refine gq_sld hX hsc dL_law_1395 rfl (vp_in_nI (by omega) (by omega)) hp1.symm ?_
  refine gq_callV (mc := 0) (ms := 0) hX dL_law_1396 uL_240 (hcm K1 M1 hR1 hW1) rfl hfs1 rfl rfl (Nat.le_of_ble_eq_true rfl) ⟨(Nat.le_of_ble_eq_true rfl), (Nat.le_of_ble_eq_true rfl)⟩ (Nat.zero_add _) (Nat.zero_add _) ?_
  rintro v M2 ⟨r, K2, rfl, hW2, ht, hlo, hS9⟩
  obtain ⟨fs2, hfs2⟩ := hW2.c151
  refine gq_istore hX dL_law_1399 rfl (Nat.le_of_ble_eq_true rfl) rfl ?_
  refine gq_aload_n hX dL_law_1401 rfl rfl rfl ?_
  refine gq_callVe hX dL_law_1402 rfl uL_174 (thr_wd hb hW2) rfl hfs2 rfl rfl (Nat.le_of_ble_eq_true rfl) ⟨(Nat.le_of_ble_eq_true rfl), (Nat.le_of_ble_eq_true rfl)⟩ (Nat.zero_add _) (Nat.zero_add _) ?_
  rw [ht]
  refine gq_iload hX dL_law_1405 rfl rfl ?_
  refine gq_icmp_eqT (tgt := 1412) hX dL_law_1407 rfl rfl ?_
  refine gq_iload hX dL_law_1412 rfl rfl ?_
  by_cases hk0 : k = 0
  · subst hk0
    refine gq_if_neF (tgt := 1429) hX dL_law_1414 rfl rfl rfl ?_
    refine gq_aload_n hX dL_law_1417 rfl rfl rfl ?_
    refine gq_iconst (v := nI 0) hX dL_law_1418 rfl (by decide) ?_
    refine gq_lald hX dL_law_1419 rfl hW2.lo (vp_in_nI (by decide) (by decide)) ?_
    rw [show K2.2.2.2.2.2.2.1 (nI 0).toNatClampNeg = g0 r from hlo rfl]
    refine gq_iload hX dL_law_1420 rfl rfl ?_
    refine gq_i2l hX dL_law_1422 rfl ?_
    refine gq_lcmp hX dL_law_1423 rfl ?_
    rw [show lg_cmp (g0 r) r.toInt64 = 0 from lg_cmp_self _]
    refine gq_if_eqT (tgt := 1429) hX dL_law_1424 rfl rfl ?_
    refine gq_goto (tgt := 2986) hX dL_law_1429 rfl ?_
    exact gq_forget 6 (gq_forget 7 (gq_forget 8 (kk _ _ hW2 hS9)))
  · refine gq_if_neT (tgt := 1429) hX dL_law_1414 rfl (nI_kz hk hk0) ?_
    refine gq_goto (tgt := 2986) hX dL_law_1429 rfl ?_
    exact gq_forget 6 (gq_forget 7 (gq_forget 8 (kk _ _ hW2 hS9)))

set_option maxRecDepth 100000 in
set_option maxHeartbeats 4000000 in
theorem lk_21 {E : Ev} {X : Cx0} {nm : String} {tb : List (Nat × Nat × Nat × Nat)} {Q : State → Prop} {b : Nat → Nat} {K : Kt} {M : Hp} {B nc ns bs L i : Nat} {xs : Nat → Int32} (hX : Cx E X (mLw nm tb)) (hsc : Sc E X bs L xs) (hi : i + 2 < L) (hL : L ≤ 1536) (hb : Lay E 162 b) (hW : Wd E b K M) (hS : Sim K B) (hB9 : B + 200000 < 2 ^ 26) (kk : ∀ K2 M2, Wd E b K2 M2 → Sim K2 (B + 60000) → Gq E X (mLw nm tb) Q 2986 [.ref bs, .ref (b 0), .ref (b 151), .ref (b 160), .ref (b 161), .int (nI i), hole, hole, hole] [] M2 nc ns) : Gq E X (mLw nm tb) Q 1432 [.ref bs, .ref (b 0), .ref (b 151), .ref (b 160), .ref (b 161), .int (nI i), hole, hole, hole] [] M (nc + 23) (ns + 3266) := by
  obtain ⟨p1, hp1⟩ : ∃ z, z = xs (nI (i + 1)).toNatClampNeg := ⟨_, rfl⟩
  obtain ⟨k, R, hk, hcw, hcm⟩ := pr_vote hb hW hS hB9 p1
  refine gq_aload_n hX dL_law_1432 rfl rfl rfl ?_
  refine gq_aload_n hX dL_law_1433 rfl rfl rfl ?_
  refine gq_iload hX dL_law_1434 rfl rfl ?_
  refine gq_iconst (v := nI 1) hX dL_law_1436 rfl (by decide) ?_
  refine gq_iadd hX dL_law_1437 rfl ?_
  rw [nI_add]
  refine gq_sld hX hsc dL_law_1438 rfl (vp_in_nI (by omega) (by omega)) hp1.symm ?_
  refine gq_aload_n hX dL_law_1439 rfl rfl rfl ?_
  refine gq_callH (mc := 23) (ms := 3266) (nc1 := nc) (ns1 := ns) hX dL_law_1440 uL_241 hcw rfl rfl (Nat.le_of_ble_eq_true rfl) ⟨(Nat.le_of_ble_eq_true rfl), (Nat.le_of_ble_eq_true rfl)⟩ (Nat.add_comm _ _) (Nat.add_comm _ _) ?_
  rintro v M1 ⟨rfl, K1, hW1, hR1⟩
  obtain ⟨fs1, hfs1⟩ := hW1.c151
  refine gq_istore hX dL_law_1443 rfl (Nat.le_of_ble_eq_true rfl) rfl ?_
  refine gq_aload_n hX dL_law_1445 rfl rfl rfl ?_
  refine gq_aload_n hX dL_law_1446 rfl rfl rfl ?_
  refine gq_iload hX dL_law_1447 rfl rfl ?_
  refine gq_iconst (v := nI 1) hX dL_law_1449 rfl (by decide) ?_
  refine gq_iadd hX dL_law_1450 rfl ?_
  rw [nI_add]
  refine gq_sld hX hsc dL_law_1451 rfl (vp_in_nI (by omega) (by omega)) hp1.symm ?_
  refine gq_callV (mc := 0) (ms := 0) hX dL_law_1452 uL_243 (hcm K1 M1 hR1 hW1) rfl hfs1 rfl rfl (Nat.le_of_ble_eq_true rfl) ⟨(Nat.le_of_ble_eq_true rfl), (Nat.le_of_ble_eq_true rfl)⟩ (Nat.zero_add _) (Nat.zero_add _) ?_
  rintro v M2 ⟨r, K2, rfl, hW2, ht, hlo, hS9⟩
  obtain ⟨fs2, hfs2⟩ := hW2.c151
  refine gq_istore hX dL_law_1455 rfl (Nat.le_of_ble_eq_true rfl) rfl ?_
  refine gq_aload_n hX dL_law_1457 rfl rfl rfl ?_
  refine gq_callVe hX dL_law_1458 rfl uL_174 (thr_wd hb hW2) rfl hfs2 rfl rfl (Nat.le_of_ble_eq_true rfl) ⟨(Nat.le_of_ble_eq_true rfl), (Nat.le_of_ble_eq_true rfl)⟩ (Nat.zero_add _) (Nat.zero_add _) ?_
  rw [ht]
  refine gq_iload hX dL_law_1461 rfl rfl ?_
  refine gq_icmp_eqT (tgt := 1468) hX dL_law_1463 rfl rfl ?_
  refine gq_iload hX dL_law_1468 rfl rfl ?_
  by_cases hk0 : k = 0
  · subst hk0
    refine gq_if_neF (tgt := 1492) hX dL_law_1470 rfl rfl rfl ?_
    refine gq_aload_n hX dL_law_1473 rfl rfl rfl ?_
    refine gq_iconst (v := nI 0) hX dL_law_1474 rfl (by decide) ?_
    refine gq_lald hX dL_law_1475 rfl hW2.lo (vp_in_nI (by decide) (by decide)) ?_
    rw [show K2.2.2.2.2.2.2.1 (nI 0).toNatClampNeg = g1 r from hlo rfl]
    refine gq_iload hX dL_law_1476 rfl rfl ?_
    by_cases hr0 : r = 0
    · refine gq_if_eqT (tgt := 1485) hX dL_law_1478 rfl hr0 ?_
      refine gq_lconst (v := 0) hX dL_law_1485 rfl (by decide) ?_
      refine gq_lcmp hX dL_law_1486 rfl ?_
      rw [show g1 r = 0 from if_pos hr0, show lg_cmp (0 : Int64) 0 = 0 from lg_cmp_self _]
      refine gq_if_eqT (tgt := 1492) hX dL_law_1487 rfl rfl ?_
      refine gq_goto (tgt := 2986) hX dL_law_1492 rfl ?_
      exact gq_forget 6 (gq_forget 7 (gq_forget 8 (kk _ _ hW2 hS9)))
    · refine gq_if_eqF (tgt := 1485) hX dL_law_1478 rfl rfl hr0 ?_
      refine gq_lconst (v := 1) hX dL_law_1481 rfl (by decide) ?_
      refine gq_goto (tgt := 1486) hX dL_law_1482 rfl ?_
      refine gq_lcmp hX dL_law_1486 rfl ?_
      rw [show g1 r = 1 from if_neg hr0, show lg_cmp (1 : Int64) 1 = 0 from lg_cmp_self _]
      refine gq_if_eqT (tgt := 1492) hX dL_law_1487 rfl rfl ?_
      refine gq_goto (tgt := 2986) hX dL_law_1492 rfl ?_
      exact gq_forget 6 (gq_forget 7 (gq_forget 8 (kk _ _ hW2 hS9)))
  · refine gq_if_neT (tgt := 1492) hX dL_law_1470 rfl (nI_kz hk hk0) ?_
    refine gq_goto (tgt := 2986) hX dL_law_1492 rfl ?_
    exact gq_forget 6 (gq_forget 7 (gq_forget 8 (kk _ _ hW2 hS9)))

set_option maxRecDepth 100000 in
set_option maxHeartbeats 4000000 in
theorem lk_22 {E : Ev} {X : Cx0} {nm : String} {tb : List (Nat × Nat × Nat × Nat)} {Q : State → Prop} {b : Nat → Nat} {K : Kt} {M : Hp} {B nc ns bs L i : Nat} {xs : Nat → Int32} (hX : Cx E X (mLw nm tb)) (hsc : Sc E X bs L xs) (hi : i + 2 < L) (hL : L ≤ 1536) (hb : Lay E 162 b) (hW : Wd E b K M) (hS : Sim K B) (hB9 : B + 200000 < 2 ^ 26) (kk : ∀ K2 M2, Wd E b K2 M2 → Sim K2 (B + 60000) → Gq E X (mLw nm tb) Q 2986 [.ref bs, .ref (b 0), .ref (b 151), .ref (b 160), .ref (b 161), .int (nI i), hole, hole, hole] [] M2 nc ns) : Gq E X (mLw nm tb) Q 1495 [.ref bs, .ref (b 0), .ref (b 151), .ref (b 160), .ref (b 161), .int (nI i), hole, hole, hole] [] M (nc + 23) (ns + 3266) := by
  obtain ⟨r, R, hc1, hc2⟩ := pr_openMotions hb hW hS hB9
  refine gq_aload_n hX dL_law_1495 rfl rfl rfl ?_
  refine gq_callV (mc := 0) (ms := 0) hX dL_law_1496 uL_244 hc1 rfl hW.c0 rfl rfl (Nat.le_of_ble_eq_true rfl) ⟨(Nat.le_of_ble_eq_true rfl), (Nat.le_of_ble_eq_true rfl)⟩ (Nat.zero_add _) (Nat.zero_add _) ?_
  rintro v M1 ⟨rfl, K1, hW1, hR1⟩
  obtain ⟨fs1, hfs1⟩ := hW1.c151
  refine gq_aload_n hX dL_law_1499 rfl rfl rfl ?_
  refine gq_callV (mc := 0) (ms := 0) hX dL_law_1500 uL_247 (hc2 K1 M1 hR1 hW1) rfl hfs1 rfl rfl (Nat.le_of_ble_eq_true rfl) ⟨(Nat.le_of_ble_eq_true rfl), (Nat.le_of_ble_eq_true rfl)⟩ (Nat.zero_add _) (Nat.zero_add _) ?_
  rintro v M2 ⟨rfl, K2, hW2, hS9⟩
  refine gq_icmp_eqT (tgt := 2986) hX dL_law_1503 rfl rfl ?_
  refine gq_bud (nc1 := nc) (ns1 := ns) (by omega) (by omega) ?_
  exact gq_forget 6 (gq_forget 7 (gq_forget 8 (kk _ _ hW2 hS9)))

set_option maxRecDepth 100000 in
set_option maxHeartbeats 4000000 in
theorem lk_23 {E : Ev} {X : Cx0} {nm : String} {tb : List (Nat × Nat × Nat × Nat)} {Q : State → Prop} {b : Nat → Nat} {K : Kt} {M : Hp} {B nc ns bs L i : Nat} {xs : Nat → Int32} (hX : Cx E X (mLw nm tb)) (hsc : Sc E X bs L xs) (hi : i + 2 < L) (hL : L ≤ 1536) (hb : Lay E 162 b) (hW : Wd E b K M) (hS : Sim K B) (hB9 : B + 200000 < 2 ^ 26) (kk : ∀ K2 M2, Wd E b K2 M2 → Sim K2 (B + 60000) → Gq E X (mLw nm tb) Q 2986 [.ref bs, .ref (b 0), .ref (b 151), .ref (b 160), .ref (b 161), .int (nI i), hole, hole, hole] [] M2 nc ns) : Gq E X (mLw nm tb) Q 1508 [.ref bs, .ref (b 0), .ref (b 151), .ref (b 160), .ref (b 161), .int (nI i), hole, hole, hole] [] M (nc + 23) (ns + 3266) := by
  obtain ⟨p1, hp1⟩ : ∃ z, z = xs (nI (i + 1)).toNatClampNeg := ⟨_, rfl⟩
  obtain ⟨k, R, hk, hcw, hcm⟩ := pr_motionAt hb hW hS hB9 p1
  refine gq_aload_n hX dL_law_1508 rfl rfl rfl ?_
  refine gq_aload_n hX dL_law_1509 rfl rfl rfl ?_
  refine gq_iload hX dL_law_1510 rfl rfl ?_
  refine gq_iconst (v := nI 1) hX dL_law_1512 rfl (by decide) ?_
  refine gq_iadd hX dL_law_1513 rfl ?_
  rw [nI_add]
  refine gq_sld hX hsc dL_law_1514 rfl (vp_in_nI (by omega) (by omega)) hp1.symm ?_
  refine gq_aload_n hX dL_law_1515 rfl rfl rfl ?_
  refine gq_callH (mc := 23) (ms := 3266) (nc1 := nc) (ns1 := ns) hX dL_law_1516 uL_248 hcw rfl rfl (Nat.le_of_ble_eq_true rfl) ⟨(Nat.le_of_ble_eq_true rfl), (Nat.le_of_ble_eq_true rfl)⟩ (Nat.add_comm _ _) (Nat.add_comm _ _) ?_
  rintro v M1 ⟨rfl, K1, hW1, hR1⟩
  obtain ⟨fs1, hfs1⟩ := hW1.c151
  refine gq_istore hX dL_law_1519 rfl (Nat.le_of_ble_eq_true rfl) rfl ?_
  refine gq_aload_n hX dL_law_1521 rfl rfl rfl ?_
  refine gq_aload_n hX dL_law_1522 rfl rfl rfl ?_
  refine gq_iload hX dL_law_1523 rfl rfl ?_
  refine gq_iconst (v := nI 1) hX dL_law_1525 rfl (by decide) ?_
  refine gq_iadd hX dL_law_1526 rfl ?_
  rw [nI_add]
  refine gq_sld hX hsc dL_law_1527 rfl (vp_in_nI (by omega) (by omega)) hp1.symm ?_
  refine gq_callV (mc := 0) (ms := 0) hX dL_law_1528 uL_250 (hcm K1 M1 hR1 hW1) rfl hfs1 rfl rfl (Nat.le_of_ble_eq_true rfl) ⟨(Nat.le_of_ble_eq_true rfl), (Nat.le_of_ble_eq_true rfl)⟩ (Nat.zero_add _) (Nat.zero_add _) ?_
  rintro v M2 ⟨r, K2, rfl, hW2, ht, hlo, hS9⟩
  obtain ⟨fs2, hfs2⟩ := hW2.c151
  refine gq_istore hX dL_law_1531 rfl (Nat.le_of_ble_eq_true rfl) rfl ?_
  refine gq_aload_n hX dL_law_1533 rfl rfl rfl ?_
  refine gq_callVe hX dL_law_1534 rfl uL_174 (thr_wd hb hW2) rfl hfs2 rfl rfl (Nat.le_of_ble_eq_true rfl) ⟨(Nat.le_of_ble_eq_true rfl), (Nat.le_of_ble_eq_true rfl)⟩ (Nat.zero_add _) (Nat.zero_add _) ?_
  rw [ht]
  refine gq_iload hX dL_law_1537 rfl rfl ?_
  refine gq_icmp_eqT (tgt := 1544) hX dL_law_1539 rfl rfl ?_
  refine gq_iload hX dL_law_1544 rfl rfl ?_
  by_cases hk0 : k = 0
  · subst hk0
    refine gq_if_neF (tgt := 1561) hX dL_law_1546 rfl rfl rfl ?_
    refine gq_aload_n hX dL_law_1549 rfl rfl rfl ?_
    refine gq_iconst (v := nI 0) hX dL_law_1550 rfl (by decide) ?_
    refine gq_lald hX dL_law_1551 rfl hW2.lo (vp_in_nI (by decide) (by decide)) ?_
    rw [show K2.2.2.2.2.2.2.1 (nI 0).toNatClampNeg = g0 r from hlo rfl]
    refine gq_iload hX dL_law_1552 rfl rfl ?_
    refine gq_i2l hX dL_law_1554 rfl ?_
    refine gq_lcmp hX dL_law_1555 rfl ?_
    rw [show lg_cmp (g0 r) r.toInt64 = 0 from lg_cmp_self _]
    refine gq_if_eqT (tgt := 1561) hX dL_law_1556 rfl rfl ?_
    refine gq_goto (tgt := 2986) hX dL_law_1561 rfl ?_
    exact gq_forget 6 (gq_forget 7 (gq_forget 8 (kk _ _ hW2 hS9)))
  · refine gq_if_neT (tgt := 1561) hX dL_law_1546 rfl (nI_kz hk hk0) ?_
    refine gq_goto (tgt := 2986) hX dL_law_1561 rfl ?_
    exact gq_forget 6 (gq_forget 7 (gq_forget 8 (kk _ _ hW2 hS9)))

set_option maxRecDepth 100000 in
set_option maxHeartbeats 4000000 in
theorem lk_24 {E : Ev} {X : Cx0} {nm : String} {tb : List (Nat × Nat × Nat × Nat)} {Q : State → Prop} {b : Nat → Nat} {K : Kt} {M : Hp} {B nc ns bs L i : Nat} {xs : Nat → Int32} (hX : Cx E X (mLw nm tb)) (hsc : Sc E X bs L xs) (hi : i + 2 < L) (hL : L ≤ 1536) (hb : Lay E 162 b) (hW : Wd E b K M) (hS : Sim K B) (hB9 : B + 200000 < 2 ^ 26) (kk : ∀ K2 M2, Wd E b K2 M2 → Sim K2 (B + 60000) → Gq E X (mLw nm tb) Q 2986 [.ref bs, .ref (b 0), .ref (b 151), .ref (b 160), .ref (b 161), .int (nI i), hole, hole, hole] [] M2 nc ns) : Gq E X (mLw nm tb) Q 1564 [.ref bs, .ref (b 0), .ref (b 151), .ref (b 160), .ref (b 161), .int (nI i), hole, hole, hole] [] M (nc + 23) (ns + 3266) := by
  obtain ⟨p1, hp1⟩ : ∃ z, z = xs (nI (i + 1)).toNatClampNeg := ⟨_, rfl⟩
  obtain ⟨k, R, hk, hcw, hcm⟩ := pr_moverOf hb hW hS hB9 p1
  refine gq_aload_n hX dL_law_1564 rfl rfl rfl ?_
  refine gq_aload_n hX dL_law_1565 rfl rfl rfl ?_
  refine gq_iload hX dL_law_1566 rfl rfl ?_
  refine gq_iconst (v := nI 1) hX dL_law_1568 rfl (by decide) ?_
  refine gq_iadd hX dL_law_1569 rfl ?_
  rw [nI_add]
  refine gq_sld hX hsc dL_law_1570 rfl (vp_in_nI (by omega) (by omega)) hp1.symm ?_
  refine gq_aload_n hX dL_law_1571 rfl rfl rfl ?_
  refine gq_callH (mc := 23) (ms := 3266) (nc1 := nc) (ns1 := ns) hX dL_law_1572 uL_251 hcw rfl rfl (Nat.le_of_ble_eq_true rfl) ⟨(Nat.le_of_ble_eq_true rfl), (Nat.le_of_ble_eq_true rfl)⟩ (Nat.add_comm _ _) (Nat.add_comm _ _) ?_
  rintro v M1 ⟨rfl, K1, hW1, hR1⟩
  obtain ⟨fs1, hfs1⟩ := hW1.c151
  refine gq_istore hX dL_law_1575 rfl (Nat.le_of_ble_eq_true rfl) rfl ?_
  refine gq_aload_n hX dL_law_1577 rfl rfl rfl ?_
  refine gq_aload_n hX dL_law_1578 rfl rfl rfl ?_
  refine gq_iload hX dL_law_1579 rfl rfl ?_
  refine gq_iconst (v := nI 1) hX dL_law_1581 rfl (by decide) ?_
  refine gq_iadd hX dL_law_1582 rfl ?_
  rw [nI_add]
  refine gq_sld hX hsc dL_law_1583 rfl (vp_in_nI (by omega) (by omega)) hp1.symm ?_
  refine gq_callV (mc := 0) (ms := 0) hX dL_law_1584 uL_253 (hcm K1 M1 hR1 hW1) rfl hfs1 rfl rfl (Nat.le_of_ble_eq_true rfl) ⟨(Nat.le_of_ble_eq_true rfl), (Nat.le_of_ble_eq_true rfl)⟩ (Nat.zero_add _) (Nat.zero_add _) ?_
  rintro v M2 ⟨r, K2, rfl, hW2, ht, hlo, hS9⟩
  obtain ⟨fs2, hfs2⟩ := hW2.c151
  refine gq_istore hX dL_law_1587 rfl (Nat.le_of_ble_eq_true rfl) rfl ?_
  refine gq_aload_n hX dL_law_1589 rfl rfl rfl ?_
  refine gq_callVe hX dL_law_1590 rfl uL_174 (thr_wd hb hW2) rfl hfs2 rfl rfl (Nat.le_of_ble_eq_true rfl) ⟨(Nat.le_of_ble_eq_true rfl), (Nat.le_of_ble_eq_true rfl)⟩ (Nat.zero_add _) (Nat.zero_add _) ?_
  rw [ht]
  refine gq_iload hX dL_law_1593 rfl rfl ?_
  refine gq_icmp_eqT (tgt := 1600) hX dL_law_1595 rfl rfl ?_
  refine gq_iload hX dL_law_1600 rfl rfl ?_
  by_cases hk0 : k = 0
  · subst hk0
    refine gq_if_neF (tgt := 1617) hX dL_law_1602 rfl rfl rfl ?_
    refine gq_aload_n hX dL_law_1605 rfl rfl rfl ?_
    refine gq_iconst (v := nI 0) hX dL_law_1606 rfl (by decide) ?_
    refine gq_lald hX dL_law_1607 rfl hW2.lo (vp_in_nI (by decide) (by decide)) ?_
    rw [show K2.2.2.2.2.2.2.1 (nI 0).toNatClampNeg = g0 r from hlo rfl]
    refine gq_iload hX dL_law_1608 rfl rfl ?_
    refine gq_i2l hX dL_law_1610 rfl ?_
    refine gq_lcmp hX dL_law_1611 rfl ?_
    rw [show lg_cmp (g0 r) r.toInt64 = 0 from lg_cmp_self _]
    refine gq_if_eqT (tgt := 1617) hX dL_law_1612 rfl rfl ?_
    refine gq_goto (tgt := 2986) hX dL_law_1617 rfl ?_
    exact gq_forget 6 (gq_forget 7 (gq_forget 8 (kk _ _ hW2 hS9)))
  · refine gq_if_neT (tgt := 1617) hX dL_law_1602 rfl (nI_kz hk hk0) ?_
    refine gq_goto (tgt := 2986) hX dL_law_1617 rfl ?_
    exact gq_forget 6 (gq_forget 7 (gq_forget 8 (kk _ _ hW2 hS9)))

set_option maxRecDepth 100000 in
set_option maxHeartbeats 4000000 in
theorem lk_25 {E : Ev} {X : Cx0} {nm : String} {tb : List (Nat × Nat × Nat × Nat)} {Q : State → Prop} {b : Nat → Nat} {K : Kt} {M : Hp} {B nc ns bs L i : Nat} {xs : Nat → Int32} (hX : Cx E X (mLw nm tb)) (hsc : Sc E X bs L xs) (hi : i + 2 < L) (hL : L ≤ 1536) (hb : Lay E 162 b) (hW : Wd E b K M) (hS : Sim K B) (hB9 : B + 200000 < 2 ^ 26) (kk : ∀ K2 M2, Wd E b K2 M2 → Sim K2 (B + 60000) → Gq E X (mLw nm tb) Q 2986 [.ref bs, .ref (b 0), .ref (b 151), .ref (b 160), .ref (b 161), .int (nI i), hole, hole, hole] [] M2 nc ns) : Gq E X (mLw nm tb) Q 1620 [.ref bs, .ref (b 0), .ref (b 151), .ref (b 160), .ref (b 161), .int (nI i), hole, hole, hole] [] M (nc + 23) (ns + 3266) := by
  obtain ⟨p1, hp1⟩ : ∃ z, z = xs (nI (i + 1)).toNatClampNeg := ⟨_, rfl⟩
  obtain ⟨k, R, hk, hcw, hcm⟩ := pr_isSeconded hb hW hS hB9 p1
  refine gq_aload_n hX dL_law_1620 rfl rfl rfl ?_
  refine gq_aload_n hX dL_law_1621 rfl rfl rfl ?_
  refine gq_iload hX dL_law_1622 rfl rfl ?_
  refine gq_iconst (v := nI 1) hX dL_law_1624 rfl (by decide) ?_
  refine gq_iadd hX dL_law_1625 rfl ?_
  rw [nI_add]
  refine gq_sld hX hsc dL_law_1626 rfl (vp_in_nI (by omega) (by omega)) hp1.symm ?_
  refine gq_aload_n hX dL_law_1627 rfl rfl rfl ?_
  refine gq_callH (mc := 23) (ms := 3266) (nc1 := nc) (ns1 := ns) hX dL_law_1628 uL_254 hcw rfl rfl (Nat.le_of_ble_eq_true rfl) ⟨(Nat.le_of_ble_eq_true rfl), (Nat.le_of_ble_eq_true rfl)⟩ (Nat.add_comm _ _) (Nat.add_comm _ _) ?_
  rintro v M1 ⟨rfl, K1, hW1, hR1⟩
  obtain ⟨fs1, hfs1⟩ := hW1.c151
  refine gq_istore hX dL_law_1631 rfl (Nat.le_of_ble_eq_true rfl) rfl ?_
  refine gq_aload_n hX dL_law_1633 rfl rfl rfl ?_
  refine gq_aload_n hX dL_law_1634 rfl rfl rfl ?_
  refine gq_iload hX dL_law_1635 rfl rfl ?_
  refine gq_iconst (v := nI 1) hX dL_law_1637 rfl (by decide) ?_
  refine gq_iadd hX dL_law_1638 rfl ?_
  rw [nI_add]
  refine gq_sld hX hsc dL_law_1639 rfl (vp_in_nI (by omega) (by omega)) hp1.symm ?_
  refine gq_callV (mc := 0) (ms := 0) hX dL_law_1640 uL_256 (hcm K1 M1 hR1 hW1) rfl hfs1 rfl rfl (Nat.le_of_ble_eq_true rfl) ⟨(Nat.le_of_ble_eq_true rfl), (Nat.le_of_ble_eq_true rfl)⟩ (Nat.zero_add _) (Nat.zero_add _) ?_
  rintro v M2 ⟨r, K2, rfl, hW2, ht, hlo, hS9⟩
  obtain ⟨fs2, hfs2⟩ := hW2.c151
  refine gq_istore hX dL_law_1643 rfl (Nat.le_of_ble_eq_true rfl) rfl ?_
  refine gq_aload_n hX dL_law_1645 rfl rfl rfl ?_
  refine gq_callVe hX dL_law_1646 rfl uL_174 (thr_wd hb hW2) rfl hfs2 rfl rfl (Nat.le_of_ble_eq_true rfl) ⟨(Nat.le_of_ble_eq_true rfl), (Nat.le_of_ble_eq_true rfl)⟩ (Nat.zero_add _) (Nat.zero_add _) ?_
  rw [ht]
  refine gq_iload hX dL_law_1649 rfl rfl ?_
  refine gq_icmp_eqT (tgt := 1656) hX dL_law_1651 rfl rfl ?_
  refine gq_iload hX dL_law_1656 rfl rfl ?_
  by_cases hk0 : k = 0
  · subst hk0
    refine gq_if_neF (tgt := 1680) hX dL_law_1658 rfl rfl rfl ?_
    refine gq_aload_n hX dL_law_1661 rfl rfl rfl ?_
    refine gq_iconst (v := nI 0) hX dL_law_1662 rfl (by decide) ?_
    refine gq_lald hX dL_law_1663 rfl hW2.lo (vp_in_nI (by decide) (by decide)) ?_
    rw [show K2.2.2.2.2.2.2.1 (nI 0).toNatClampNeg = g1 r from hlo rfl]
    refine gq_iload hX dL_law_1664 rfl rfl ?_
    by_cases hr0 : r = 0
    · refine gq_if_eqT (tgt := 1673) hX dL_law_1666 rfl hr0 ?_
      refine gq_lconst (v := 0) hX dL_law_1673 rfl (by decide) ?_
      refine gq_lcmp hX dL_law_1674 rfl ?_
      rw [show g1 r = 0 from if_pos hr0, show lg_cmp (0 : Int64) 0 = 0 from lg_cmp_self _]
      refine gq_if_eqT (tgt := 1680) hX dL_law_1675 rfl rfl ?_
      refine gq_goto (tgt := 2986) hX dL_law_1680 rfl ?_
      exact gq_forget 6 (gq_forget 7 (gq_forget 8 (kk _ _ hW2 hS9)))
    · refine gq_if_eqF (tgt := 1673) hX dL_law_1666 rfl rfl hr0 ?_
      refine gq_lconst (v := 1) hX dL_law_1669 rfl (by decide) ?_
      refine gq_goto (tgt := 1674) hX dL_law_1670 rfl ?_
      refine gq_lcmp hX dL_law_1674 rfl ?_
      rw [show g1 r = 1 from if_neg hr0, show lg_cmp (1 : Int64) 1 = 0 from lg_cmp_self _]
      refine gq_if_eqT (tgt := 1680) hX dL_law_1675 rfl rfl ?_
      refine gq_goto (tgt := 2986) hX dL_law_1680 rfl ?_
      exact gq_forget 6 (gq_forget 7 (gq_forget 8 (kk _ _ hW2 hS9)))
  · refine gq_if_neT (tgt := 1680) hX dL_law_1658 rfl (nI_kz hk hk0) ?_
    refine gq_goto (tgt := 2986) hX dL_law_1680 rfl ?_
    exact gq_forget 6 (gq_forget 7 (gq_forget 8 (kk _ _ hW2 hS9)))

set_option maxRecDepth 100000 in
set_option maxHeartbeats 4000000 in
theorem lk_26 {E : Ev} {X : Cx0} {nm : String} {tb : List (Nat × Nat × Nat × Nat)} {Q : State → Prop} {b : Nat → Nat} {K : Kt} {M : Hp} {B nc ns bs L i : Nat} {xs : Nat → Int32} (hX : Cx E X (mLw nm tb)) (hsc : Sc E X bs L xs) (hi : i + 2 < L) (hL : L ≤ 1536) (hb : Lay E 162 b) (hW : Wd E b K M) (hS : Sim K B) (hB9 : B + 200000 < 2 ^ 26) (kk : ∀ K2 M2, Wd E b K2 M2 → Sim K2 (B + 60000) → Gq E X (mLw nm tb) Q 2986 [.ref bs, .ref (b 0), .ref (b 151), .ref (b 160), .ref (b 161), .int (nI i), hole, hole, hole] [] M2 nc ns) : Gq E X (mLw nm tb) Q 1683 [.ref bs, .ref (b 0), .ref (b 151), .ref (b 160), .ref (b 161), .int (nI i), hole, hole, hole] [] M (nc + 23) (ns + 3266) := by
  obtain ⟨p1, hp1⟩ : ∃ z, z = xs (nI (i + 1)).toNatClampNeg := ⟨_, rfl⟩
  obtain ⟨k, R, hk, hcw, hcm⟩ := pr_seconderOf hb hW hS hB9 p1
  refine gq_aload_n hX dL_law_1683 rfl rfl rfl ?_
  refine gq_aload_n hX dL_law_1684 rfl rfl rfl ?_
  refine gq_iload hX dL_law_1685 rfl rfl ?_
  refine gq_iconst (v := nI 1) hX dL_law_1687 rfl (by decide) ?_
  refine gq_iadd hX dL_law_1688 rfl ?_
  rw [nI_add]
  refine gq_sld hX hsc dL_law_1689 rfl (vp_in_nI (by omega) (by omega)) hp1.symm ?_
  refine gq_aload_n hX dL_law_1690 rfl rfl rfl ?_
  refine gq_callH (mc := 23) (ms := 3266) (nc1 := nc) (ns1 := ns) hX dL_law_1691 uL_257 hcw rfl rfl (Nat.le_of_ble_eq_true rfl) ⟨(Nat.le_of_ble_eq_true rfl), (Nat.le_of_ble_eq_true rfl)⟩ (Nat.add_comm _ _) (Nat.add_comm _ _) ?_
  rintro v M1 ⟨rfl, K1, hW1, hR1⟩
  obtain ⟨fs1, hfs1⟩ := hW1.c151
  refine gq_istore hX dL_law_1694 rfl (Nat.le_of_ble_eq_true rfl) rfl ?_
  refine gq_aload_n hX dL_law_1696 rfl rfl rfl ?_
  refine gq_aload_n hX dL_law_1697 rfl rfl rfl ?_
  refine gq_iload hX dL_law_1698 rfl rfl ?_
  refine gq_iconst (v := nI 1) hX dL_law_1700 rfl (by decide) ?_
  refine gq_iadd hX dL_law_1701 rfl ?_
  rw [nI_add]
  refine gq_sld hX hsc dL_law_1702 rfl (vp_in_nI (by omega) (by omega)) hp1.symm ?_
  refine gq_callV (mc := 0) (ms := 0) hX dL_law_1703 uL_259 (hcm K1 M1 hR1 hW1) rfl hfs1 rfl rfl (Nat.le_of_ble_eq_true rfl) ⟨(Nat.le_of_ble_eq_true rfl), (Nat.le_of_ble_eq_true rfl)⟩ (Nat.zero_add _) (Nat.zero_add _) ?_
  rintro v M2 ⟨r, K2, rfl, hW2, ht, hlo, hS9⟩
  obtain ⟨fs2, hfs2⟩ := hW2.c151
  refine gq_istore hX dL_law_1706 rfl (Nat.le_of_ble_eq_true rfl) rfl ?_
  refine gq_aload_n hX dL_law_1708 rfl rfl rfl ?_
  refine gq_callVe hX dL_law_1709 rfl uL_174 (thr_wd hb hW2) rfl hfs2 rfl rfl (Nat.le_of_ble_eq_true rfl) ⟨(Nat.le_of_ble_eq_true rfl), (Nat.le_of_ble_eq_true rfl)⟩ (Nat.zero_add _) (Nat.zero_add _) ?_
  rw [ht]
  refine gq_iload hX dL_law_1712 rfl rfl ?_
  refine gq_icmp_eqT (tgt := 1719) hX dL_law_1714 rfl rfl ?_
  refine gq_iload hX dL_law_1719 rfl rfl ?_
  by_cases hk0 : k = 0
  · subst hk0
    refine gq_if_neF (tgt := 1736) hX dL_law_1721 rfl rfl rfl ?_
    refine gq_aload_n hX dL_law_1724 rfl rfl rfl ?_
    refine gq_iconst (v := nI 0) hX dL_law_1725 rfl (by decide) ?_
    refine gq_lald hX dL_law_1726 rfl hW2.lo (vp_in_nI (by decide) (by decide)) ?_
    rw [show K2.2.2.2.2.2.2.1 (nI 0).toNatClampNeg = g0 r from hlo rfl]
    refine gq_iload hX dL_law_1727 rfl rfl ?_
    refine gq_i2l hX dL_law_1729 rfl ?_
    refine gq_lcmp hX dL_law_1730 rfl ?_
    rw [show lg_cmp (g0 r) r.toInt64 = 0 from lg_cmp_self _]
    refine gq_if_eqT (tgt := 1736) hX dL_law_1731 rfl rfl ?_
    refine gq_goto (tgt := 2986) hX dL_law_1736 rfl ?_
    exact gq_forget 6 (gq_forget 7 (gq_forget 8 (kk _ _ hW2 hS9)))
  · refine gq_if_neT (tgt := 1736) hX dL_law_1721 rfl (nI_kz hk hk0) ?_
    refine gq_goto (tgt := 2986) hX dL_law_1736 rfl ?_
    exact gq_forget 6 (gq_forget 7 (gq_forget 8 (kk _ _ hW2 hS9)))

set_option maxRecDepth 100000 in
set_option maxHeartbeats 4000000 in
theorem lk_27 {E : Ev} {X : Cx0} {nm : String} {tb : List (Nat × Nat × Nat × Nat)} {Q : State → Prop} {b : Nat → Nat} {K : Kt} {M : Hp} {B nc ns bs L i : Nat} {xs : Nat → Int32} (hX : Cx E X (mLw nm tb)) (hsc : Sc E X bs L xs) (hi : i + 2 < L) (hL : L ≤ 1536) (hb : Lay E 162 b) (hW : Wd E b K M) (hS : Sim K B) (hB9 : B + 200000 < 2 ^ 26) (kk : ∀ K2 M2, Wd E b K2 M2 → Sim K2 (B + 60000) → Gq E X (mLw nm tb) Q 2986 [.ref bs, .ref (b 0), .ref (b 151), .ref (b 160), .ref (b 161), .int (nI i), hole, hole, hole] [] M2 nc ns) : Gq E X (mLw nm tb) Q 1739 [.ref bs, .ref (b 0), .ref (b 151), .ref (b 160), .ref (b 161), .int (nI i), hole, hole, hole] [] M (nc + 23) (ns + 3266) := by
  obtain ⟨p1, hp1⟩ : ∃ z, z = xs (nI (i + 1)).toNatClampNeg := ⟨_, rfl⟩
  obtain ⟨k, R, hk, hcw, hcm⟩ := pr_isTabled hb hW hS hB9 p1
  refine gq_aload_n hX dL_law_1739 rfl rfl rfl ?_
  refine gq_aload_n hX dL_law_1740 rfl rfl rfl ?_
  refine gq_iload hX dL_law_1741 rfl rfl ?_
  refine gq_iconst (v := nI 1) hX dL_law_1743 rfl (by decide) ?_
  refine gq_iadd hX dL_law_1744 rfl ?_
  rw [nI_add]
  refine gq_sld hX hsc dL_law_1745 rfl (vp_in_nI (by omega) (by omega)) hp1.symm ?_
  refine gq_aload_n hX dL_law_1746 rfl rfl rfl ?_
  refine gq_callH (mc := 23) (ms := 3266) (nc1 := nc) (ns1 := ns) hX dL_law_1747 uL_260 hcw rfl rfl (Nat.le_of_ble_eq_true rfl) ⟨(Nat.le_of_ble_eq_true rfl), (Nat.le_of_ble_eq_true rfl)⟩ (Nat.add_comm _ _) (Nat.add_comm _ _) ?_
  rintro v M1 ⟨rfl, K1, hW1, hR1⟩
  obtain ⟨fs1, hfs1⟩ := hW1.c151
  refine gq_istore hX dL_law_1750 rfl (Nat.le_of_ble_eq_true rfl) rfl ?_
  refine gq_aload_n hX dL_law_1752 rfl rfl rfl ?_
  refine gq_aload_n hX dL_law_1753 rfl rfl rfl ?_
  refine gq_iload hX dL_law_1754 rfl rfl ?_
  refine gq_iconst (v := nI 1) hX dL_law_1756 rfl (by decide) ?_
  refine gq_iadd hX dL_law_1757 rfl ?_
  rw [nI_add]
  refine gq_sld hX hsc dL_law_1758 rfl (vp_in_nI (by omega) (by omega)) hp1.symm ?_
  refine gq_callV (mc := 0) (ms := 0) hX dL_law_1759 uL_262 (hcm K1 M1 hR1 hW1) rfl hfs1 rfl rfl (Nat.le_of_ble_eq_true rfl) ⟨(Nat.le_of_ble_eq_true rfl), (Nat.le_of_ble_eq_true rfl)⟩ (Nat.zero_add _) (Nat.zero_add _) ?_
  rintro v M2 ⟨r, K2, rfl, hW2, ht, hlo, hS9⟩
  obtain ⟨fs2, hfs2⟩ := hW2.c151
  refine gq_istore hX dL_law_1762 rfl (Nat.le_of_ble_eq_true rfl) rfl ?_
  refine gq_aload_n hX dL_law_1764 rfl rfl rfl ?_
  refine gq_callVe hX dL_law_1765 rfl uL_174 (thr_wd hb hW2) rfl hfs2 rfl rfl (Nat.le_of_ble_eq_true rfl) ⟨(Nat.le_of_ble_eq_true rfl), (Nat.le_of_ble_eq_true rfl)⟩ (Nat.zero_add _) (Nat.zero_add _) ?_
  rw [ht]
  refine gq_iload hX dL_law_1768 rfl rfl ?_
  refine gq_icmp_eqT (tgt := 1775) hX dL_law_1770 rfl rfl ?_
  refine gq_iload hX dL_law_1775 rfl rfl ?_
  by_cases hk0 : k = 0
  · subst hk0
    refine gq_if_neF (tgt := 1799) hX dL_law_1777 rfl rfl rfl ?_
    refine gq_aload_n hX dL_law_1780 rfl rfl rfl ?_
    refine gq_iconst (v := nI 0) hX dL_law_1781 rfl (by decide) ?_
    refine gq_lald hX dL_law_1782 rfl hW2.lo (vp_in_nI (by decide) (by decide)) ?_
    rw [show K2.2.2.2.2.2.2.1 (nI 0).toNatClampNeg = g1 r from hlo rfl]
    refine gq_iload hX dL_law_1783 rfl rfl ?_
    by_cases hr0 : r = 0
    · refine gq_if_eqT (tgt := 1792) hX dL_law_1785 rfl hr0 ?_
      refine gq_lconst (v := 0) hX dL_law_1792 rfl (by decide) ?_
      refine gq_lcmp hX dL_law_1793 rfl ?_
      rw [show g1 r = 0 from if_pos hr0, show lg_cmp (0 : Int64) 0 = 0 from lg_cmp_self _]
      refine gq_if_eqT (tgt := 1799) hX dL_law_1794 rfl rfl ?_
      refine gq_goto (tgt := 2986) hX dL_law_1799 rfl ?_
      exact gq_forget 6 (gq_forget 7 (gq_forget 8 (kk _ _ hW2 hS9)))
    · refine gq_if_eqF (tgt := 1792) hX dL_law_1785 rfl rfl hr0 ?_
      refine gq_lconst (v := 1) hX dL_law_1788 rfl (by decide) ?_
      refine gq_goto (tgt := 1793) hX dL_law_1789 rfl ?_
      refine gq_lcmp hX dL_law_1793 rfl ?_
      rw [show g1 r = 1 from if_neg hr0, show lg_cmp (1 : Int64) 1 = 0 from lg_cmp_self _]
      refine gq_if_eqT (tgt := 1799) hX dL_law_1794 rfl rfl ?_
      refine gq_goto (tgt := 2986) hX dL_law_1799 rfl ?_
      exact gq_forget 6 (gq_forget 7 (gq_forget 8 (kk _ _ hW2 hS9)))
  · refine gq_if_neT (tgt := 1799) hX dL_law_1777 rfl (nI_kz hk hk0) ?_
    refine gq_goto (tgt := 2986) hX dL_law_1799 rfl ?_
    exact gq_forget 6 (gq_forget 7 (gq_forget 8 (kk _ _ hW2 hS9)))

set_option maxRecDepth 100000 in
set_option maxHeartbeats 4000000 in
theorem lk_28 {E : Ev} {X : Cx0} {nm : String} {tb : List (Nat × Nat × Nat × Nat)} {Q : State → Prop} {b : Nat → Nat} {K : Kt} {M : Hp} {B nc ns bs L i : Nat} {xs : Nat → Int32} (hX : Cx E X (mLw nm tb)) (hsc : Sc E X bs L xs) (hi : i + 2 < L) (hL : L ≤ 1536) (hb : Lay E 162 b) (hW : Wd E b K M) (hS : Sim K B) (hB9 : B + 200000 < 2 ^ 26) (kk : ∀ K2 M2, Wd E b K2 M2 → Sim K2 (B + 60000) → Gq E X (mLw nm tb) Q 2986 [.ref bs, .ref (b 0), .ref (b 151), .ref (b 160), .ref (b 161), .int (nI i), hole, hole, hole] [] M2 nc ns) : Gq E X (mLw nm tb) Q 1802 [.ref bs, .ref (b 0), .ref (b 151), .ref (b 160), .ref (b 161), .int (nI i), hole, hole, hole] [] M (nc + 23) (ns + 3266) := by
  obtain ⟨p1, hp1⟩ : ∃ z, z = xs (nI (i + 1)).toNatClampNeg := ⟨_, rfl⟩
  obtain ⟨k, R, hk, hcw, hcm⟩ := pr_votesFor hb hW hS hB9 p1
  refine gq_aload_n hX dL_law_1802 rfl rfl rfl ?_
  refine gq_aload_n hX dL_law_1803 rfl rfl rfl ?_
  refine gq_iload hX dL_law_1804 rfl rfl ?_
  refine gq_iconst (v := nI 1) hX dL_law_1806 rfl (by decide) ?_
  refine gq_iadd hX dL_law_1807 rfl ?_
  rw [nI_add]
  refine gq_sld hX hsc dL_law_1808 rfl (vp_in_nI (by omega) (by omega)) hp1.symm ?_
  refine gq_aload_n hX dL_law_1809 rfl rfl rfl ?_
  refine gq_callH (mc := 23) (ms := 3266) (nc1 := nc) (ns1 := ns) hX dL_law_1810 uL_263 hcw rfl rfl (Nat.le_of_ble_eq_true rfl) ⟨(Nat.le_of_ble_eq_true rfl), (Nat.le_of_ble_eq_true rfl)⟩ (Nat.add_comm _ _) (Nat.add_comm _ _) ?_
  rintro v M1 ⟨rfl, K1, hW1, hR1⟩
  obtain ⟨fs1, hfs1⟩ := hW1.c151
  refine gq_istore hX dL_law_1813 rfl (Nat.le_of_ble_eq_true rfl) rfl ?_
  refine gq_aload_n hX dL_law_1815 rfl rfl rfl ?_
  refine gq_aload_n hX dL_law_1816 rfl rfl rfl ?_
  refine gq_iload hX dL_law_1817 rfl rfl ?_
  refine gq_iconst (v := nI 1) hX dL_law_1819 rfl (by decide) ?_
  refine gq_iadd hX dL_law_1820 rfl ?_
  rw [nI_add]
  refine gq_sld hX hsc dL_law_1821 rfl (vp_in_nI (by omega) (by omega)) hp1.symm ?_
  refine gq_callV (mc := 0) (ms := 0) hX dL_law_1822 uL_265 (hcm K1 M1 hR1 hW1) rfl hfs1 rfl rfl (Nat.le_of_ble_eq_true rfl) ⟨(Nat.le_of_ble_eq_true rfl), (Nat.le_of_ble_eq_true rfl)⟩ (Nat.zero_add _) (Nat.zero_add _) ?_
  rintro v M2 ⟨r, K2, rfl, hW2, ht, hlo, hS9⟩
  obtain ⟨fs2, hfs2⟩ := hW2.c151
  refine gq_istore hX dL_law_1825 rfl (Nat.le_of_ble_eq_true rfl) rfl ?_
  refine gq_aload_n hX dL_law_1827 rfl rfl rfl ?_
  refine gq_callVe hX dL_law_1828 rfl uL_174 (thr_wd hb hW2) rfl hfs2 rfl rfl (Nat.le_of_ble_eq_true rfl) ⟨(Nat.le_of_ble_eq_true rfl), (Nat.le_of_ble_eq_true rfl)⟩ (Nat.zero_add _) (Nat.zero_add _) ?_
  rw [ht]
  refine gq_iload hX dL_law_1831 rfl rfl ?_
  refine gq_icmp_eqT (tgt := 1838) hX dL_law_1833 rfl rfl ?_
  refine gq_iload hX dL_law_1838 rfl rfl ?_
  by_cases hk0 : k = 0
  · subst hk0
    refine gq_if_neF (tgt := 1855) hX dL_law_1840 rfl rfl rfl ?_
    refine gq_aload_n hX dL_law_1843 rfl rfl rfl ?_
    refine gq_iconst (v := nI 0) hX dL_law_1844 rfl (by decide) ?_
    refine gq_lald hX dL_law_1845 rfl hW2.lo (vp_in_nI (by decide) (by decide)) ?_
    rw [show K2.2.2.2.2.2.2.1 (nI 0).toNatClampNeg = g0 r from hlo rfl]
    refine gq_iload hX dL_law_1846 rfl rfl ?_
    refine gq_i2l hX dL_law_1848 rfl ?_
    refine gq_lcmp hX dL_law_1849 rfl ?_
    rw [show lg_cmp (g0 r) r.toInt64 = 0 from lg_cmp_self _]
    refine gq_if_eqT (tgt := 1855) hX dL_law_1850 rfl rfl ?_
    refine gq_goto (tgt := 2986) hX dL_law_1855 rfl ?_
    exact gq_forget 6 (gq_forget 7 (gq_forget 8 (kk _ _ hW2 hS9)))
  · refine gq_if_neT (tgt := 1855) hX dL_law_1840 rfl (nI_kz hk hk0) ?_
    refine gq_goto (tgt := 2986) hX dL_law_1855 rfl ?_
    exact gq_forget 6 (gq_forget 7 (gq_forget 8 (kk _ _ hW2 hS9)))

set_option maxRecDepth 100000 in
set_option maxHeartbeats 4000000 in
theorem lk_29 {E : Ev} {X : Cx0} {nm : String} {tb : List (Nat × Nat × Nat × Nat)} {Q : State → Prop} {b : Nat → Nat} {K : Kt} {M : Hp} {B nc ns bs L i : Nat} {xs : Nat → Int32} (hX : Cx E X (mLw nm tb)) (hsc : Sc E X bs L xs) (hi : i + 2 < L) (hL : L ≤ 1536) (hb : Lay E 162 b) (hW : Wd E b K M) (hS : Sim K B) (hB9 : B + 200000 < 2 ^ 26) (kk : ∀ K2 M2, Wd E b K2 M2 → Sim K2 (B + 60000) → Gq E X (mLw nm tb) Q 2986 [.ref bs, .ref (b 0), .ref (b 151), .ref (b 160), .ref (b 161), .int (nI i), hole, hole, hole] [] M2 nc ns) : Gq E X (mLw nm tb) Q 1858 [.ref bs, .ref (b 0), .ref (b 151), .ref (b 160), .ref (b 161), .int (nI i), hole, hole, hole] [] M (nc + 23) (ns + 3266) := by
  obtain ⟨p1, hp1⟩ : ∃ z, z = xs (nI (i + 1)).toNatClampNeg := ⟨_, rfl⟩
  obtain ⟨k, R, hk, hcw, hcm⟩ := pr_votesForByMember hb hW hS hB9 p1
  refine gq_aload_n hX dL_law_1858 rfl rfl rfl ?_
  refine gq_aload_n hX dL_law_1859 rfl rfl rfl ?_
  refine gq_iload hX dL_law_1860 rfl rfl ?_
  refine gq_iconst (v := nI 1) hX dL_law_1862 rfl (by decide) ?_
  refine gq_iadd hX dL_law_1863 rfl ?_
  rw [nI_add]
  refine gq_sld hX hsc dL_law_1864 rfl (vp_in_nI (by omega) (by omega)) hp1.symm ?_
  refine gq_aload_n hX dL_law_1865 rfl rfl rfl ?_
  refine gq_callH (mc := 23) (ms := 3266) (nc1 := nc) (ns1 := ns) hX dL_law_1866 uL_266 hcw rfl rfl (Nat.le_of_ble_eq_true rfl) ⟨(Nat.le_of_ble_eq_true rfl), (Nat.le_of_ble_eq_true rfl)⟩ (Nat.add_comm _ _) (Nat.add_comm _ _) ?_
  rintro v M1 ⟨rfl, K1, hW1, hR1⟩
  obtain ⟨fs1, hfs1⟩ := hW1.c151
  refine gq_istore hX dL_law_1869 rfl (Nat.le_of_ble_eq_true rfl) rfl ?_
  refine gq_aload_n hX dL_law_1871 rfl rfl rfl ?_
  refine gq_aload_n hX dL_law_1872 rfl rfl rfl ?_
  refine gq_iload hX dL_law_1873 rfl rfl ?_
  refine gq_iconst (v := nI 1) hX dL_law_1875 rfl (by decide) ?_
  refine gq_iadd hX dL_law_1876 rfl ?_
  rw [nI_add]
  refine gq_sld hX hsc dL_law_1877 rfl (vp_in_nI (by omega) (by omega)) hp1.symm ?_
  refine gq_callV (mc := 0) (ms := 0) hX dL_law_1878 uL_268 (hcm K1 M1 hR1 hW1) rfl hfs1 rfl rfl (Nat.le_of_ble_eq_true rfl) ⟨(Nat.le_of_ble_eq_true rfl), (Nat.le_of_ble_eq_true rfl)⟩ (Nat.zero_add _) (Nat.zero_add _) ?_
  rintro v M2 ⟨r, K2, rfl, hW2, ht, hlo, hS9⟩
  obtain ⟨fs2, hfs2⟩ := hW2.c151
  refine gq_istore hX dL_law_1881 rfl (Nat.le_of_ble_eq_true rfl) rfl ?_
  refine gq_aload_n hX dL_law_1883 rfl rfl rfl ?_
  refine gq_callVe hX dL_law_1884 rfl uL_174 (thr_wd hb hW2) rfl hfs2 rfl rfl (Nat.le_of_ble_eq_true rfl) ⟨(Nat.le_of_ble_eq_true rfl), (Nat.le_of_ble_eq_true rfl)⟩ (Nat.zero_add _) (Nat.zero_add _) ?_
  rw [ht]
  refine gq_iload hX dL_law_1887 rfl rfl ?_
  refine gq_icmp_eqT (tgt := 1894) hX dL_law_1889 rfl rfl ?_
  refine gq_iload hX dL_law_1894 rfl rfl ?_
  by_cases hk0 : k = 0
  · subst hk0
    refine gq_if_neF (tgt := 1911) hX dL_law_1896 rfl rfl rfl ?_
    refine gq_aload_n hX dL_law_1899 rfl rfl rfl ?_
    refine gq_iconst (v := nI 0) hX dL_law_1900 rfl (by decide) ?_
    refine gq_lald hX dL_law_1901 rfl hW2.lo (vp_in_nI (by decide) (by decide)) ?_
    rw [show K2.2.2.2.2.2.2.1 (nI 0).toNatClampNeg = g0 r from hlo rfl]
    refine gq_iload hX dL_law_1902 rfl rfl ?_
    refine gq_i2l hX dL_law_1904 rfl ?_
    refine gq_lcmp hX dL_law_1905 rfl ?_
    rw [show lg_cmp (g0 r) r.toInt64 = 0 from lg_cmp_self _]
    refine gq_if_eqT (tgt := 1911) hX dL_law_1906 rfl rfl ?_
    refine gq_goto (tgt := 2986) hX dL_law_1911 rfl ?_
    exact gq_forget 6 (gq_forget 7 (gq_forget 8 (kk _ _ hW2 hS9)))
  · refine gq_if_neT (tgt := 1911) hX dL_law_1896 rfl (nI_kz hk hk0) ?_
    refine gq_goto (tgt := 2986) hX dL_law_1911 rfl ?_
    exact gq_forget 6 (gq_forget 7 (gq_forget 8 (kk _ _ hW2 hS9)))

set_option maxRecDepth 100000 in
set_option maxHeartbeats 4000000 in
theorem lk_30 {E : Ev} {X : Cx0} {nm : String} {tb : List (Nat × Nat × Nat × Nat)} {Q : State → Prop} {b : Nat → Nat} {K : Kt} {M : Hp} {B nc ns bs L i : Nat} {xs : Nat → Int32} (hX : Cx E X (mLw nm tb)) (hsc : Sc E X bs L xs) (hi : i + 2 < L) (hL : L ≤ 1536) (hb : Lay E 162 b) (hW : Wd E b K M) (hS : Sim K B) (hB9 : B + 200000 < 2 ^ 26) (kk : ∀ K2 M2, Wd E b K2 M2 → Sim K2 (B + 60000) → Gq E X (mLw nm tb) Q 2986 [.ref bs, .ref (b 0), .ref (b 151), .ref (b 160), .ref (b 161), .int (nI i), hole, hole, hole] [] M2 nc ns) : Gq E X (mLw nm tb) Q 1914 [.ref bs, .ref (b 0), .ref (b 151), .ref (b 160), .ref (b 161), .int (nI i), hole, hole, hole] [] M (nc + 23) (ns + 3266) := by
  obtain ⟨p1, hp1⟩ : ∃ z, z = xs (nI (i + 1)).toNatClampNeg := ⟨_, rfl⟩
  obtain ⟨k, R, hk, hcw, hcm⟩ := pr_votesAgainst hb hW hS hB9 p1
  refine gq_aload_n hX dL_law_1914 rfl rfl rfl ?_
  refine gq_aload_n hX dL_law_1915 rfl rfl rfl ?_
  refine gq_iload hX dL_law_1916 rfl rfl ?_
  refine gq_iconst (v := nI 1) hX dL_law_1918 rfl (by decide) ?_
  refine gq_iadd hX dL_law_1919 rfl ?_
  rw [nI_add]
  refine gq_sld hX hsc dL_law_1920 rfl (vp_in_nI (by omega) (by omega)) hp1.symm ?_
  refine gq_aload_n hX dL_law_1921 rfl rfl rfl ?_
  refine gq_callH (mc := 23) (ms := 3266) (nc1 := nc) (ns1 := ns) hX dL_law_1922 uL_269 hcw rfl rfl (Nat.le_of_ble_eq_true rfl) ⟨(Nat.le_of_ble_eq_true rfl), (Nat.le_of_ble_eq_true rfl)⟩ (Nat.add_comm _ _) (Nat.add_comm _ _) ?_
  rintro v M1 ⟨rfl, K1, hW1, hR1⟩
  obtain ⟨fs1, hfs1⟩ := hW1.c151
  refine gq_istore hX dL_law_1925 rfl (Nat.le_of_ble_eq_true rfl) rfl ?_
  refine gq_aload_n hX dL_law_1927 rfl rfl rfl ?_
  refine gq_aload_n hX dL_law_1928 rfl rfl rfl ?_
  refine gq_iload hX dL_law_1929 rfl rfl ?_
  refine gq_iconst (v := nI 1) hX dL_law_1931 rfl (by decide) ?_
  refine gq_iadd hX dL_law_1932 rfl ?_
  rw [nI_add]
  refine gq_sld hX hsc dL_law_1933 rfl (vp_in_nI (by omega) (by omega)) hp1.symm ?_
  refine gq_callV (mc := 0) (ms := 0) hX dL_law_1934 uL_271 (hcm K1 M1 hR1 hW1) rfl hfs1 rfl rfl (Nat.le_of_ble_eq_true rfl) ⟨(Nat.le_of_ble_eq_true rfl), (Nat.le_of_ble_eq_true rfl)⟩ (Nat.zero_add _) (Nat.zero_add _) ?_
  rintro v M2 ⟨r, K2, rfl, hW2, ht, hlo, hS9⟩
  obtain ⟨fs2, hfs2⟩ := hW2.c151
  refine gq_istore hX dL_law_1937 rfl (Nat.le_of_ble_eq_true rfl) rfl ?_
  refine gq_aload_n hX dL_law_1939 rfl rfl rfl ?_
  refine gq_callVe hX dL_law_1940 rfl uL_174 (thr_wd hb hW2) rfl hfs2 rfl rfl (Nat.le_of_ble_eq_true rfl) ⟨(Nat.le_of_ble_eq_true rfl), (Nat.le_of_ble_eq_true rfl)⟩ (Nat.zero_add _) (Nat.zero_add _) ?_
  rw [ht]
  refine gq_iload hX dL_law_1943 rfl rfl ?_
  refine gq_icmp_eqT (tgt := 1950) hX dL_law_1945 rfl rfl ?_
  refine gq_iload hX dL_law_1950 rfl rfl ?_
  by_cases hk0 : k = 0
  · subst hk0
    refine gq_if_neF (tgt := 1967) hX dL_law_1952 rfl rfl rfl ?_
    refine gq_aload_n hX dL_law_1955 rfl rfl rfl ?_
    refine gq_iconst (v := nI 0) hX dL_law_1956 rfl (by decide) ?_
    refine gq_lald hX dL_law_1957 rfl hW2.lo (vp_in_nI (by decide) (by decide)) ?_
    rw [show K2.2.2.2.2.2.2.1 (nI 0).toNatClampNeg = g0 r from hlo rfl]
    refine gq_iload hX dL_law_1958 rfl rfl ?_
    refine gq_i2l hX dL_law_1960 rfl ?_
    refine gq_lcmp hX dL_law_1961 rfl ?_
    rw [show lg_cmp (g0 r) r.toInt64 = 0 from lg_cmp_self _]
    refine gq_if_eqT (tgt := 1967) hX dL_law_1962 rfl rfl ?_
    refine gq_goto (tgt := 2986) hX dL_law_1967 rfl ?_
    exact gq_forget 6 (gq_forget 7 (gq_forget 8 (kk _ _ hW2 hS9)))
  · refine gq_if_neT (tgt := 1967) hX dL_law_1952 rfl (nI_kz hk hk0) ?_
    refine gq_goto (tgt := 2986) hX dL_law_1967 rfl ?_
    exact gq_forget 6 (gq_forget 7 (gq_forget 8 (kk _ _ hW2 hS9)))

set_option maxRecDepth 100000 in
set_option maxHeartbeats 4000000 in
theorem lk_31 {E : Ev} {X : Cx0} {nm : String} {tb : List (Nat × Nat × Nat × Nat)} {Q : State → Prop} {b : Nat → Nat} {K : Kt} {M : Hp} {B nc ns bs L i : Nat} {xs : Nat → Int32} (hX : Cx E X (mLw nm tb)) (hsc : Sc E X bs L xs) (hi : i + 2 < L) (hL : L ≤ 1536) (hb : Lay E 162 b) (hW : Wd E b K M) (hS : Sim K B) (hB9 : B + 200000 < 2 ^ 26) (kk : ∀ K2 M2, Wd E b K2 M2 → Sim K2 (B + 60000) → Gq E X (mLw nm tb) Q 2986 [.ref bs, .ref (b 0), .ref (b 151), .ref (b 160), .ref (b 161), .int (nI i), hole, hole, hole] [] M2 nc ns) : Gq E X (mLw nm tb) Q 1970 [.ref bs, .ref (b 0), .ref (b 151), .ref (b 160), .ref (b 161), .int (nI i), hole, hole, hole] [] M (nc + 23) (ns + 3266) := by
  obtain ⟨p1, hp1⟩ : ∃ z, z = xs (nI (i + 1)).toNatClampNeg := ⟨_, rfl⟩
  obtain ⟨k, R, hk, hcw, hcm⟩ := pr_gust hb hW hS hB9 p1
  refine gq_aload_n hX dL_law_1970 rfl rfl rfl ?_
  refine gq_aload_n hX dL_law_1971 rfl rfl rfl ?_
  refine gq_iload hX dL_law_1972 rfl rfl ?_
  refine gq_iconst (v := nI 1) hX dL_law_1974 rfl (by decide) ?_
  refine gq_iadd hX dL_law_1975 rfl ?_
  rw [nI_add]
  refine gq_sld hX hsc dL_law_1976 rfl (vp_in_nI (by omega) (by omega)) hp1.symm ?_
  refine gq_aload_n hX dL_law_1977 rfl rfl rfl ?_
  refine gq_callH (mc := 23) (ms := 3266) (nc1 := nc) (ns1 := ns) hX dL_law_1978 uL_272 hcw rfl rfl (Nat.le_of_ble_eq_true rfl) ⟨(Nat.le_of_ble_eq_true rfl), (Nat.le_of_ble_eq_true rfl)⟩ (Nat.add_comm _ _) (Nat.add_comm _ _) ?_
  rintro v M1 ⟨rfl, K1, hW1, hR1⟩
  obtain ⟨fs1, hfs1⟩ := hW1.c151
  refine gq_istore hX dL_law_1981 rfl (Nat.le_of_ble_eq_true rfl) rfl ?_
  refine gq_aload_n hX dL_law_1983 rfl rfl rfl ?_
  refine gq_aload_n hX dL_law_1984 rfl rfl rfl ?_
  refine gq_iload hX dL_law_1985 rfl rfl ?_
  refine gq_iconst (v := nI 1) hX dL_law_1987 rfl (by decide) ?_
  refine gq_iadd hX dL_law_1988 rfl ?_
  rw [nI_add]
  refine gq_sld hX hsc dL_law_1989 rfl (vp_in_nI (by omega) (by omega)) hp1.symm ?_
  refine gq_callV (mc := 0) (ms := 0) hX dL_law_1990 uL_274 (hcm K1 M1 hR1 hW1) rfl hfs1 rfl rfl (Nat.le_of_ble_eq_true rfl) ⟨(Nat.le_of_ble_eq_true rfl), (Nat.le_of_ble_eq_true rfl)⟩ (Nat.zero_add _) (Nat.zero_add _) ?_
  rintro v M2 ⟨r, K2, rfl, hW2, ht, hlo, hS9⟩
  obtain ⟨fs2, hfs2⟩ := hW2.c151
  refine gq_istore hX dL_law_1993 rfl (Nat.le_of_ble_eq_true rfl) rfl ?_
  refine gq_aload_n hX dL_law_1995 rfl rfl rfl ?_
  refine gq_callVe hX dL_law_1996 rfl uL_174 (thr_wd hb hW2) rfl hfs2 rfl rfl (Nat.le_of_ble_eq_true rfl) ⟨(Nat.le_of_ble_eq_true rfl), (Nat.le_of_ble_eq_true rfl)⟩ (Nat.zero_add _) (Nat.zero_add _) ?_
  rw [ht]
  refine gq_iload hX dL_law_1999 rfl rfl ?_
  refine gq_icmp_eqT (tgt := 2006) hX dL_law_2001 rfl rfl ?_
  refine gq_iload hX dL_law_2006 rfl rfl ?_
  by_cases hk0 : k = 0
  · subst hk0
    refine gq_if_neF (tgt := 2023) hX dL_law_2008 rfl rfl rfl ?_
    refine gq_aload_n hX dL_law_2011 rfl rfl rfl ?_
    refine gq_iconst (v := nI 0) hX dL_law_2012 rfl (by decide) ?_
    refine gq_lald hX dL_law_2013 rfl hW2.lo (vp_in_nI (by decide) (by decide)) ?_
    rw [show K2.2.2.2.2.2.2.1 (nI 0).toNatClampNeg = g0 r from hlo rfl]
    refine gq_iload hX dL_law_2014 rfl rfl ?_
    refine gq_i2l hX dL_law_2016 rfl ?_
    refine gq_lcmp hX dL_law_2017 rfl ?_
    rw [show lg_cmp (g0 r) r.toInt64 = 0 from lg_cmp_self _]
    refine gq_if_eqT (tgt := 2023) hX dL_law_2018 rfl rfl ?_
    refine gq_goto (tgt := 2986) hX dL_law_2023 rfl ?_
    exact gq_forget 6 (gq_forget 7 (gq_forget 8 (kk _ _ hW2 hS9)))
  · refine gq_if_neT (tgt := 2023) hX dL_law_2008 rfl (nI_kz hk hk0) ?_
    refine gq_goto (tgt := 2986) hX dL_law_2023 rfl ?_
    exact gq_forget 6 (gq_forget 7 (gq_forget 8 (kk _ _ hW2 hS9)))

set_option maxRecDepth 100000 in
set_option maxHeartbeats 4000000 in
theorem lk_32 {E : Ev} {X : Cx0} {nm : String} {tb : List (Nat × Nat × Nat × Nat)} {Q : State → Prop} {b : Nat → Nat} {K : Kt} {M : Hp} {B nc ns bs L i : Nat} {xs : Nat → Int32} (hX : Cx E X (mLw nm tb)) (hsc : Sc E X bs L xs) (hi : i + 2 < L) (hL : L ≤ 1536) (hb : Lay E 162 b) (hW : Wd E b K M) (hS : Sim K B) (hB9 : B + 200000 < 2 ^ 26) (kk : ∀ K2 M2, Wd E b K2 M2 → Sim K2 (B + 60000) → Gq E X (mLw nm tb) Q 2986 [.ref bs, .ref (b 0), .ref (b 151), .ref (b 160), .ref (b 161), .int (nI i), hole, hole, hole] [] M2 nc ns) : Gq E X (mLw nm tb) Q 2026 [.ref bs, .ref (b 0), .ref (b 151), .ref (b 160), .ref (b 161), .int (nI i), hole, hole, hole] [] M (nc + 23) (ns + 3266) := by
  obtain ⟨p1, hp1⟩ : ∃ z, z = xs (nI (i + 1)).toNatClampNeg := ⟨_, rfl⟩
  obtain ⟨k, R, hk, hcw, hcm⟩ := pr_pass hb hW hS hB9 p1
  refine gq_aload_n hX dL_law_2026 rfl rfl rfl ?_
  refine gq_aload_n hX dL_law_2027 rfl rfl rfl ?_
  refine gq_iload hX dL_law_2028 rfl rfl ?_
  refine gq_iconst (v := nI 1) hX dL_law_2030 rfl (by decide) ?_
  refine gq_iadd hX dL_law_2031 rfl ?_
  rw [nI_add]
  refine gq_sld hX hsc dL_law_2032 rfl (vp_in_nI (by omega) (by omega)) hp1.symm ?_
  refine gq_aload_n hX dL_law_2033 rfl rfl rfl ?_
  refine gq_callH (mc := 23) (ms := 3266) (nc1 := nc) (ns1 := ns) hX dL_law_2034 uL_275 hcw rfl rfl (Nat.le_of_ble_eq_true rfl) ⟨(Nat.le_of_ble_eq_true rfl), (Nat.le_of_ble_eq_true rfl)⟩ (Nat.add_comm _ _) (Nat.add_comm _ _) ?_
  rintro v M1 ⟨rfl, K1, hW1, hR1⟩
  obtain ⟨fs1, hfs1⟩ := hW1.c151
  refine gq_istore hX dL_law_2037 rfl (Nat.le_of_ble_eq_true rfl) rfl ?_
  refine gq_aload_n hX dL_law_2039 rfl rfl rfl ?_
  refine gq_aload_n hX dL_law_2040 rfl rfl rfl ?_
  refine gq_iload hX dL_law_2041 rfl rfl ?_
  refine gq_iconst (v := nI 1) hX dL_law_2043 rfl (by decide) ?_
  refine gq_iadd hX dL_law_2044 rfl ?_
  rw [nI_add]
  refine gq_sld hX hsc dL_law_2045 rfl (vp_in_nI (by omega) (by omega)) hp1.symm ?_
  refine gq_callV (mc := 0) (ms := 0) hX dL_law_2046 uL_277 (hcm K1 M1 hR1 hW1) rfl hfs1 rfl rfl (Nat.le_of_ble_eq_true rfl) ⟨(Nat.le_of_ble_eq_true rfl), (Nat.le_of_ble_eq_true rfl)⟩ (Nat.zero_add _) (Nat.zero_add _) ?_
  rintro v M2 ⟨r, K2, rfl, hW2, ht, hlo, hS9⟩
  obtain ⟨fs2, hfs2⟩ := hW2.c151
  refine gq_istore hX dL_law_2049 rfl (Nat.le_of_ble_eq_true rfl) rfl ?_
  refine gq_aload_n hX dL_law_2051 rfl rfl rfl ?_
  refine gq_callVe hX dL_law_2052 rfl uL_174 (thr_wd hb hW2) rfl hfs2 rfl rfl (Nat.le_of_ble_eq_true rfl) ⟨(Nat.le_of_ble_eq_true rfl), (Nat.le_of_ble_eq_true rfl)⟩ (Nat.zero_add _) (Nat.zero_add _) ?_
  rw [ht]
  refine gq_iload hX dL_law_2055 rfl rfl ?_
  refine gq_icmp_eqT (tgt := 2062) hX dL_law_2057 rfl rfl ?_
  refine gq_iload hX dL_law_2062 rfl rfl ?_
  by_cases hk0 : k = 0
  · subst hk0
    refine gq_if_neF (tgt := 2079) hX dL_law_2064 rfl rfl rfl ?_
    refine gq_aload_n hX dL_law_2067 rfl rfl rfl ?_
    refine gq_iconst (v := nI 0) hX dL_law_2068 rfl (by decide) ?_
    refine gq_lald hX dL_law_2069 rfl hW2.lo (vp_in_nI (by decide) (by decide)) ?_
    rw [show K2.2.2.2.2.2.2.1 (nI 0).toNatClampNeg = g0 r from hlo rfl]
    refine gq_iload hX dL_law_2070 rfl rfl ?_
    refine gq_i2l hX dL_law_2072 rfl ?_
    refine gq_lcmp hX dL_law_2073 rfl ?_
    rw [show lg_cmp (g0 r) r.toInt64 = 0 from lg_cmp_self _]
    refine gq_if_eqT (tgt := 2079) hX dL_law_2074 rfl rfl ?_
    refine gq_goto (tgt := 2986) hX dL_law_2079 rfl ?_
    exact gq_forget 6 (gq_forget 7 (gq_forget 8 (kk _ _ hW2 hS9)))
  · refine gq_if_neT (tgt := 2079) hX dL_law_2064 rfl (nI_kz hk hk0) ?_
    refine gq_goto (tgt := 2986) hX dL_law_2079 rfl ?_
    exact gq_forget 6 (gq_forget 7 (gq_forget 8 (kk _ _ hW2 hS9)))

set_option maxRecDepth 100000 in
set_option maxHeartbeats 4000000 in
theorem lk_33 {E : Ev} {X : Cx0} {nm : String} {tb : List (Nat × Nat × Nat × Nat)} {Q : State → Prop} {b : Nat → Nat} {K : Kt} {M : Hp} {B nc ns bs L i : Nat} {xs : Nat → Int32} (hX : Cx E X (mLw nm tb)) (hsc : Sc E X bs L xs) (hi : i + 2 < L) (hL : L ≤ 1536) (hb : Lay E 162 b) (hW : Wd E b K M) (hS : Sim K B) (hB9 : B + 200000 < 2 ^ 26) (kk : ∀ K2 M2, Wd E b K2 M2 → Sim K2 (B + 60000) → Gq E X (mLw nm tb) Q 2986 [.ref bs, .ref (b 0), .ref (b 151), .ref (b 160), .ref (b 161), .int (nI i), hole, hole, hole] [] M2 nc ns) : Gq E X (mLw nm tb) Q 2082 [.ref bs, .ref (b 0), .ref (b 151), .ref (b 160), .ref (b 161), .int (nI i), hole, hole, hole] [] M (nc + 23) (ns + 3266) := by
  obtain ⟨p1, hp1⟩ : ∃ z, z = xs (nI (i + 1)).toNatClampNeg := ⟨_, rfl⟩
  obtain ⟨p2, hp2⟩ : ∃ z, z = xs (nI (i + 2)).toNatClampNeg := ⟨_, rfl⟩
  obtain ⟨k, R, hk, hcw, hcm⟩ := pr_arrearsAfter hb hW hS hB9 p1 p2
  refine gq_aload_n hX dL_law_2082 rfl rfl rfl ?_
  refine gq_aload_n hX dL_law_2083 rfl rfl rfl ?_
  refine gq_iload hX dL_law_2084 rfl rfl ?_
  refine gq_iconst (v := nI 1) hX dL_law_2086 rfl (by decide) ?_
  refine gq_iadd hX dL_law_2087 rfl ?_
  rw [nI_add]
  refine gq_sld hX hsc dL_law_2088 rfl (vp_in_nI (by omega) (by omega)) hp1.symm ?_
  refine gq_aload_n hX dL_law_2089 rfl rfl rfl ?_
  refine gq_iload hX dL_law_2090 rfl rfl ?_
  refine gq_iconst (v := nI 2) hX dL_law_2092 rfl (by decide) ?_
  refine gq_iadd hX dL_law_2093 rfl ?_
  rw [nI_add]
  refine gq_sld hX hsc dL_law_2094 rfl (vp_in_nI (by omega) (by omega)) hp2.symm ?_
  refine gq_aload_n hX dL_law_2095 rfl rfl rfl ?_
  refine gq_callH (mc := 23) (ms := 3266) (nc1 := nc) (ns1 := ns) hX dL_law_2096 uL_278 hcw rfl rfl (Nat.le_of_ble_eq_true rfl) ⟨(Nat.le_of_ble_eq_true rfl), (Nat.le_of_ble_eq_true rfl)⟩ (Nat.add_comm _ _) (Nat.add_comm _ _) ?_
  rintro v M1 ⟨rfl, K1, hW1, hR1⟩
  obtain ⟨fs1, hfs1⟩ := hW1.c151
  refine gq_istore hX dL_law_2099 rfl (Nat.le_of_ble_eq_true rfl) rfl ?_
  refine gq_aload_n hX dL_law_2101 rfl rfl rfl ?_
  refine gq_aload_n hX dL_law_2102 rfl rfl rfl ?_
  refine gq_iload hX dL_law_2103 rfl rfl ?_
  refine gq_iconst (v := nI 1) hX dL_law_2105 rfl (by decide) ?_
  refine gq_iadd hX dL_law_2106 rfl ?_
  rw [nI_add]
  refine gq_sld hX hsc dL_law_2107 rfl (vp_in_nI (by omega) (by omega)) hp1.symm ?_
  refine gq_aload_n hX dL_law_2108 rfl rfl rfl ?_
  refine gq_iload hX dL_law_2109 rfl rfl ?_
  refine gq_iconst (v := nI 2) hX dL_law_2111 rfl (by decide) ?_
  refine gq_iadd hX dL_law_2112 rfl ?_
  rw [nI_add]
  refine gq_sld hX hsc dL_law_2113 rfl (vp_in_nI (by omega) (by omega)) hp2.symm ?_
  refine gq_callV (mc := 0) (ms := 0) hX dL_law_2114 uL_280 (hcm K1 M1 hR1 hW1) rfl hfs1 rfl rfl (Nat.le_of_ble_eq_true rfl) ⟨(Nat.le_of_ble_eq_true rfl), (Nat.le_of_ble_eq_true rfl)⟩ (Nat.zero_add _) (Nat.zero_add _) ?_
  rintro v M2 ⟨r, K2, rfl, hW2, ht, hlo, hS9⟩
  obtain ⟨fs2, hfs2⟩ := hW2.c151
  refine gq_istore hX dL_law_2117 rfl (Nat.le_of_ble_eq_true rfl) rfl ?_
  refine gq_aload_n hX dL_law_2119 rfl rfl rfl ?_
  refine gq_callVe hX dL_law_2120 rfl uL_174 (thr_wd hb hW2) rfl hfs2 rfl rfl (Nat.le_of_ble_eq_true rfl) ⟨(Nat.le_of_ble_eq_true rfl), (Nat.le_of_ble_eq_true rfl)⟩ (Nat.zero_add _) (Nat.zero_add _) ?_
  rw [ht]
  refine gq_iload hX dL_law_2123 rfl rfl ?_
  refine gq_icmp_eqT (tgt := 2130) hX dL_law_2125 rfl rfl ?_
  refine gq_iload hX dL_law_2130 rfl rfl ?_
  by_cases hk0 : k = 0
  · subst hk0
    refine gq_if_neF (tgt := 2147) hX dL_law_2132 rfl rfl rfl ?_
    refine gq_aload_n hX dL_law_2135 rfl rfl rfl ?_
    refine gq_iconst (v := nI 0) hX dL_law_2136 rfl (by decide) ?_
    refine gq_lald hX dL_law_2137 rfl hW2.lo (vp_in_nI (by decide) (by decide)) ?_
    rw [show K2.2.2.2.2.2.2.1 (nI 0).toNatClampNeg = g0 r from hlo rfl]
    refine gq_iload hX dL_law_2138 rfl rfl ?_
    refine gq_i2l hX dL_law_2140 rfl ?_
    refine gq_lcmp hX dL_law_2141 rfl ?_
    rw [show lg_cmp (g0 r) r.toInt64 = 0 from lg_cmp_self _]
    refine gq_if_eqT (tgt := 2147) hX dL_law_2142 rfl rfl ?_
    refine gq_goto (tgt := 2986) hX dL_law_2147 rfl ?_
    exact gq_forget 6 (gq_forget 7 (gq_forget 8 (kk _ _ hW2 hS9)))
  · refine gq_if_neT (tgt := 2147) hX dL_law_2132 rfl (nI_kz hk hk0) ?_
    refine gq_goto (tgt := 2986) hX dL_law_2147 rfl ?_
    exact gq_forget 6 (gq_forget 7 (gq_forget 8 (kk _ _ hW2 hS9)))

set_option maxRecDepth 100000 in
set_option maxHeartbeats 4000000 in
theorem lk_34 {E : Ev} {X : Cx0} {nm : String} {tb : List (Nat × Nat × Nat × Nat)} {Q : State → Prop} {b : Nat → Nat} {K : Kt} {M : Hp} {B nc ns bs L i : Nat} {xs : Nat → Int32} (hX : Cx E X (mLw nm tb)) (hsc : Sc E X bs L xs) (hi : i + 2 < L) (hL : L ≤ 1536) (hb : Lay E 162 b) (hW : Wd E b K M) (hS : Sim K B) (hB9 : B + 200000 < 2 ^ 26) (kk : ∀ K2 M2, Wd E b K2 M2 → Sim K2 (B + 60000) → Gq E X (mLw nm tb) Q 2986 [.ref bs, .ref (b 0), .ref (b 151), .ref (b 160), .ref (b 161), .int (nI i), hole, hole, hole] [] M2 nc ns) : Gq E X (mLw nm tb) Q 2150 [.ref bs, .ref (b 0), .ref (b 151), .ref (b 160), .ref (b 161), .int (nI i), hole, hole, hole] [] M (nc + 23) (ns + 3266) := by
  obtain ⟨p1, hp1⟩ : ∃ z, z = xs (nI (i + 1)).toNatClampNeg := ⟨_, rfl⟩
  obtain ⟨p2, hp2⟩ : ∃ z, z = xs (nI (i + 2)).toNatClampNeg := ⟨_, rfl⟩
  obtain ⟨k, R, hk, hcw, hcm⟩ := pr_arrearsAfterByRate hb hW hS hB9 p1 p2
  refine gq_aload_n hX dL_law_2150 rfl rfl rfl ?_
  refine gq_aload_n hX dL_law_2151 rfl rfl rfl ?_
  refine gq_iload hX dL_law_2152 rfl rfl ?_
  refine gq_iconst (v := nI 1) hX dL_law_2154 rfl (by decide) ?_
  refine gq_iadd hX dL_law_2155 rfl ?_
  rw [nI_add]
  refine gq_sld hX hsc dL_law_2156 rfl (vp_in_nI (by omega) (by omega)) hp1.symm ?_
  refine gq_aload_n hX dL_law_2157 rfl rfl rfl ?_
  refine gq_iload hX dL_law_2158 rfl rfl ?_
  refine gq_iconst (v := nI 2) hX dL_law_2160 rfl (by decide) ?_
  refine gq_iadd hX dL_law_2161 rfl ?_
  rw [nI_add]
  refine gq_sld hX hsc dL_law_2162 rfl (vp_in_nI (by omega) (by omega)) hp2.symm ?_
  refine gq_aload_n hX dL_law_2163 rfl rfl rfl ?_
  refine gq_callH (mc := 23) (ms := 3266) (nc1 := nc) (ns1 := ns) hX dL_law_2164 uL_281 hcw rfl rfl (Nat.le_of_ble_eq_true rfl) ⟨(Nat.le_of_ble_eq_true rfl), (Nat.le_of_ble_eq_true rfl)⟩ (Nat.add_comm _ _) (Nat.add_comm _ _) ?_
  rintro v M1 ⟨rfl, K1, hW1, hR1⟩
  obtain ⟨fs1, hfs1⟩ := hW1.c151
  refine gq_istore hX dL_law_2167 rfl (Nat.le_of_ble_eq_true rfl) rfl ?_
  refine gq_aload_n hX dL_law_2169 rfl rfl rfl ?_
  refine gq_aload_n hX dL_law_2170 rfl rfl rfl ?_
  refine gq_iload hX dL_law_2171 rfl rfl ?_
  refine gq_iconst (v := nI 1) hX dL_law_2173 rfl (by decide) ?_
  refine gq_iadd hX dL_law_2174 rfl ?_
  rw [nI_add]
  refine gq_sld hX hsc dL_law_2175 rfl (vp_in_nI (by omega) (by omega)) hp1.symm ?_
  refine gq_aload_n hX dL_law_2176 rfl rfl rfl ?_
  refine gq_iload hX dL_law_2177 rfl rfl ?_
  refine gq_iconst (v := nI 2) hX dL_law_2179 rfl (by decide) ?_
  refine gq_iadd hX dL_law_2180 rfl ?_
  rw [nI_add]
  refine gq_sld hX hsc dL_law_2181 rfl (vp_in_nI (by omega) (by omega)) hp2.symm ?_
  refine gq_callV (mc := 0) (ms := 0) hX dL_law_2182 uL_283 (hcm K1 M1 hR1 hW1) rfl hfs1 rfl rfl (Nat.le_of_ble_eq_true rfl) ⟨(Nat.le_of_ble_eq_true rfl), (Nat.le_of_ble_eq_true rfl)⟩ (Nat.zero_add _) (Nat.zero_add _) ?_
  rintro v M2 ⟨r, K2, rfl, hW2, ht, hlo, hS9⟩
  obtain ⟨fs2, hfs2⟩ := hW2.c151
  refine gq_istore hX dL_law_2185 rfl (Nat.le_of_ble_eq_true rfl) rfl ?_
  refine gq_aload_n hX dL_law_2187 rfl rfl rfl ?_
  refine gq_callVe hX dL_law_2188 rfl uL_174 (thr_wd hb hW2) rfl hfs2 rfl rfl (Nat.le_of_ble_eq_true rfl) ⟨(Nat.le_of_ble_eq_true rfl), (Nat.le_of_ble_eq_true rfl)⟩ (Nat.zero_add _) (Nat.zero_add _) ?_
  rw [ht]
  refine gq_iload hX dL_law_2191 rfl rfl ?_
  refine gq_icmp_eqT (tgt := 2198) hX dL_law_2193 rfl rfl ?_
  refine gq_iload hX dL_law_2198 rfl rfl ?_
  by_cases hk0 : k = 0
  · subst hk0
    refine gq_if_neF (tgt := 2215) hX dL_law_2200 rfl rfl rfl ?_
    refine gq_aload_n hX dL_law_2203 rfl rfl rfl ?_
    refine gq_iconst (v := nI 0) hX dL_law_2204 rfl (by decide) ?_
    refine gq_lald hX dL_law_2205 rfl hW2.lo (vp_in_nI (by decide) (by decide)) ?_
    rw [show K2.2.2.2.2.2.2.1 (nI 0).toNatClampNeg = g0 r from hlo rfl]
    refine gq_iload hX dL_law_2206 rfl rfl ?_
    refine gq_i2l hX dL_law_2208 rfl ?_
    refine gq_lcmp hX dL_law_2209 rfl ?_
    rw [show lg_cmp (g0 r) r.toInt64 = 0 from lg_cmp_self _]
    refine gq_if_eqT (tgt := 2215) hX dL_law_2210 rfl rfl ?_
    refine gq_goto (tgt := 2986) hX dL_law_2215 rfl ?_
    exact gq_forget 6 (gq_forget 7 (gq_forget 8 (kk _ _ hW2 hS9)))
  · refine gq_if_neT (tgt := 2215) hX dL_law_2200 rfl (nI_kz hk hk0) ?_
    refine gq_goto (tgt := 2986) hX dL_law_2215 rfl ?_
    exact gq_forget 6 (gq_forget 7 (gq_forget 8 (kk _ _ hW2 hS9)))

set_option maxRecDepth 100000 in
set_option maxHeartbeats 4000000 in
theorem lk_35 {E : Ev} {X : Cx0} {nm : String} {tb : List (Nat × Nat × Nat × Nat)} {Q : State → Prop} {b : Nat → Nat} {K : Kt} {M : Hp} {B nc ns bs L i : Nat} {xs : Nat → Int32} (hX : Cx E X (mLw nm tb)) (hsc : Sc E X bs L xs) (hi : i + 2 < L) (hL : L ≤ 1536) (hb : Lay E 162 b) (hW : Wd E b K M) (hS : Sim K B) (hB9 : B + 200000 < 2 ^ 26) (kk : ∀ K2 M2, Wd E b K2 M2 → Sim K2 (B + 60000) → Gq E X (mLw nm tb) Q 2986 [.ref bs, .ref (b 0), .ref (b 151), .ref (b 160), .ref (b 161), .int (nI i), hole, hole, hole] [] M2 nc ns) : Gq E X (mLw nm tb) Q 2218 [.ref bs, .ref (b 0), .ref (b 151), .ref (b 160), .ref (b 161), .int (nI i), hole, hole, hole] [] M (nc + 23) (ns + 3266) := by
  obtain ⟨r, R, hc1, hc2⟩ := pr_hour hb hW hS hB9
  refine gq_aload_n hX dL_law_2218 rfl rfl rfl ?_
  refine gq_callV (mc := 0) (ms := 0) hX dL_law_2219 uL_284 hc1 rfl hW.c0 rfl rfl (Nat.le_of_ble_eq_true rfl) ⟨(Nat.le_of_ble_eq_true rfl), (Nat.le_of_ble_eq_true rfl)⟩ (Nat.zero_add _) (Nat.zero_add _) ?_
  rintro v M1 ⟨rfl, K1, hW1, hR1⟩
  obtain ⟨fs1, hfs1⟩ := hW1.c151
  refine gq_aload_n hX dL_law_2222 rfl rfl rfl ?_
  refine gq_callV (mc := 0) (ms := 0) hX dL_law_2223 uL_287 (hc2 K1 M1 hR1 hW1) rfl hfs1 rfl rfl (Nat.le_of_ble_eq_true rfl) ⟨(Nat.le_of_ble_eq_true rfl), (Nat.le_of_ble_eq_true rfl)⟩ (Nat.zero_add _) (Nat.zero_add _) ?_
  rintro v M2 ⟨rfl, K2, hW2, hS9⟩
  refine gq_icmp_eqT (tgt := 2986) hX dL_law_2226 rfl rfl ?_
  refine gq_bud (nc1 := nc) (ns1 := ns) (by omega) (by omega) ?_
  exact gq_forget 6 (gq_forget 7 (gq_forget 8 (kk _ _ hW2 hS9)))

set_option maxRecDepth 100000 in
set_option maxHeartbeats 4000000 in
theorem lk_36 {E : Ev} {X : Cx0} {nm : String} {tb : List (Nat × Nat × Nat × Nat)} {Q : State → Prop} {b : Nat → Nat} {K : Kt} {M : Hp} {B nc ns bs L i : Nat} {xs : Nat → Int32} (hX : Cx E X (mLw nm tb)) (hsc : Sc E X bs L xs) (hi : i + 2 < L) (hL : L ≤ 1536) (hb : Lay E 162 b) (hW : Wd E b K M) (hS : Sim K B) (hB9 : B + 200000 < 2 ^ 26) (kk : ∀ K2 M2, Wd E b K2 M2 → Sim K2 (B + 60000) → Gq E X (mLw nm tb) Q 2986 [.ref bs, .ref (b 0), .ref (b 151), .ref (b 160), .ref (b 161), .int (nI i), hole, hole, hole] [] M2 nc ns) : Gq E X (mLw nm tb) Q 2231 [.ref bs, .ref (b 0), .ref (b 151), .ref (b 160), .ref (b 161), .int (nI i), hole, hole, hole] [] M (nc + 23) (ns + 3266) := by
  obtain ⟨p1, hp1⟩ : ∃ z, z = xs (nI (i + 1)).toNatClampNeg := ⟨_, rfl⟩
  obtain ⟨k, R, hk, hcw, hcm⟩ := pr_committeeAtRank hb hW hS hB9 p1
  refine gq_aload_n hX dL_law_2231 rfl rfl rfl ?_
  refine gq_aload_n hX dL_law_2232 rfl rfl rfl ?_
  refine gq_iload hX dL_law_2233 rfl rfl ?_
  refine gq_iconst (v := nI 1) hX dL_law_2235 rfl (by decide) ?_
  refine gq_iadd hX dL_law_2236 rfl ?_
  rw [nI_add]
  refine gq_sld hX hsc dL_law_2237 rfl (vp_in_nI (by omega) (by omega)) hp1.symm ?_
  refine gq_aload_n hX dL_law_2238 rfl rfl rfl ?_
  refine gq_callH (mc := 23) (ms := 3266) (nc1 := nc) (ns1 := ns) hX dL_law_2239 uL_288 hcw rfl rfl (Nat.le_of_ble_eq_true rfl) ⟨(Nat.le_of_ble_eq_true rfl), (Nat.le_of_ble_eq_true rfl)⟩ (Nat.add_comm _ _) (Nat.add_comm _ _) ?_
  rintro v M1 ⟨rfl, K1, hW1, hR1⟩
  obtain ⟨fs1, hfs1⟩ := hW1.c151
  refine gq_istore hX dL_law_2242 rfl (Nat.le_of_ble_eq_true rfl) rfl ?_
  refine gq_aload_n hX dL_law_2244 rfl rfl rfl ?_
  refine gq_aload_n hX dL_law_2245 rfl rfl rfl ?_
  refine gq_iload hX dL_law_2246 rfl rfl ?_
  refine gq_iconst (v := nI 1) hX dL_law_2248 rfl (by decide) ?_
  refine gq_iadd hX dL_law_2249 rfl ?_
  rw [nI_add]
  refine gq_sld hX hsc dL_law_2250 rfl (vp_in_nI (by omega) (by omega)) hp1.symm ?_
  refine gq_callV (mc := 0) (ms := 0) hX dL_law_2251 uL_290 (hcm K1 M1 hR1 hW1) rfl hfs1 rfl rfl (Nat.le_of_ble_eq_true rfl) ⟨(Nat.le_of_ble_eq_true rfl), (Nat.le_of_ble_eq_true rfl)⟩ (Nat.zero_add _) (Nat.zero_add _) ?_
  rintro v M2 ⟨r, K2, rfl, hW2, ht, hlo, hS9⟩
  obtain ⟨fs2, hfs2⟩ := hW2.c151
  refine gq_istore hX dL_law_2254 rfl (Nat.le_of_ble_eq_true rfl) rfl ?_
  refine gq_aload_n hX dL_law_2256 rfl rfl rfl ?_
  refine gq_callVe hX dL_law_2257 rfl uL_174 (thr_wd hb hW2) rfl hfs2 rfl rfl (Nat.le_of_ble_eq_true rfl) ⟨(Nat.le_of_ble_eq_true rfl), (Nat.le_of_ble_eq_true rfl)⟩ (Nat.zero_add _) (Nat.zero_add _) ?_
  rw [ht]
  refine gq_iload hX dL_law_2260 rfl rfl ?_
  refine gq_icmp_eqT (tgt := 2267) hX dL_law_2262 rfl rfl ?_
  refine gq_iload hX dL_law_2267 rfl rfl ?_
  by_cases hk0 : k = 0
  · subst hk0
    refine gq_if_neF (tgt := 2284) hX dL_law_2269 rfl rfl rfl ?_
    refine gq_aload_n hX dL_law_2272 rfl rfl rfl ?_
    refine gq_iconst (v := nI 0) hX dL_law_2273 rfl (by decide) ?_
    refine gq_lald hX dL_law_2274 rfl hW2.lo (vp_in_nI (by decide) (by decide)) ?_
    rw [show K2.2.2.2.2.2.2.1 (nI 0).toNatClampNeg = g0 r from hlo rfl]
    refine gq_iload hX dL_law_2275 rfl rfl ?_
    refine gq_i2l hX dL_law_2277 rfl ?_
    refine gq_lcmp hX dL_law_2278 rfl ?_
    rw [show lg_cmp (g0 r) r.toInt64 = 0 from lg_cmp_self _]
    refine gq_if_eqT (tgt := 2284) hX dL_law_2279 rfl rfl ?_
    refine gq_goto (tgt := 2986) hX dL_law_2284 rfl ?_
    exact gq_forget 6 (gq_forget 7 (gq_forget 8 (kk _ _ hW2 hS9)))
  · refine gq_if_neT (tgt := 2284) hX dL_law_2269 rfl (nI_kz hk hk0) ?_
    refine gq_goto (tgt := 2986) hX dL_law_2284 rfl ?_
    exact gq_forget 6 (gq_forget 7 (gq_forget 8 (kk _ _ hW2 hS9)))

set_option maxRecDepth 100000 in
set_option maxHeartbeats 4000000 in
theorem lk_37 {E : Ev} {X : Cx0} {nm : String} {tb : List (Nat × Nat × Nat × Nat)} {Q : State → Prop} {b : Nat → Nat} {K : Kt} {M : Hp} {B nc ns bs L i : Nat} {xs : Nat → Int32} (hX : Cx E X (mLw nm tb)) (hsc : Sc E X bs L xs) (hi : i + 2 < L) (hL : L ≤ 1536) (hb : Lay E 162 b) (hW : Wd E b K M) (hS : Sim K B) (hB9 : B + 200000 < 2 ^ 26) (kk : ∀ K2 M2, Wd E b K2 M2 → Sim K2 (B + 60000) → Gq E X (mLw nm tb) Q 2986 [.ref bs, .ref (b 0), .ref (b 151), .ref (b 160), .ref (b 161), .int (nI i), hole, hole, hole] [] M2 nc ns) : Gq E X (mLw nm tb) Q 2287 [.ref bs, .ref (b 0), .ref (b 151), .ref (b 160), .ref (b 161), .int (nI i), hole, hole, hole] [] M (nc + 23) (ns + 3266) := by
  obtain ⟨r, R, hc1, hc2⟩ := pr_carriedCount hb hW hS hB9
  refine gq_aload_n hX dL_law_2287 rfl rfl rfl ?_
  refine gq_callV (mc := 0) (ms := 0) hX dL_law_2288 uL_291 hc1 rfl hW.c0 rfl rfl (Nat.le_of_ble_eq_true rfl) ⟨(Nat.le_of_ble_eq_true rfl), (Nat.le_of_ble_eq_true rfl)⟩ (Nat.zero_add _) (Nat.zero_add _) ?_
  rintro v M1 ⟨rfl, K1, hW1, hR1⟩
  obtain ⟨fs1, hfs1⟩ := hW1.c151
  refine gq_aload_n hX dL_law_2291 rfl rfl rfl ?_
  refine gq_callV (mc := 0) (ms := 0) hX dL_law_2292 uL_294 (hc2 K1 M1 hR1 hW1) rfl hfs1 rfl rfl (Nat.le_of_ble_eq_true rfl) ⟨(Nat.le_of_ble_eq_true rfl), (Nat.le_of_ble_eq_true rfl)⟩ (Nat.zero_add _) (Nat.zero_add _) ?_
  rintro v M2 ⟨rfl, K2, hW2, hS9⟩
  refine gq_icmp_eqT (tgt := 2986) hX dL_law_2295 rfl rfl ?_
  refine gq_bud (nc1 := nc) (ns1 := ns) (by omega) (by omega) ?_
  exact gq_forget 6 (gq_forget 7 (gq_forget 8 (kk _ _ hW2 hS9)))

set_option maxRecDepth 100000 in
set_option maxHeartbeats 4000000 in
theorem lk_38 {E : Ev} {X : Cx0} {nm : String} {tb : List (Nat × Nat × Nat × Nat)} {Q : State → Prop} {b : Nat → Nat} {K : Kt} {M : Hp} {B nc ns bs L i : Nat} {xs : Nat → Int32} (hX : Cx E X (mLw nm tb)) (hsc : Sc E X bs L xs) (hi : i + 2 < L) (hL : L ≤ 1536) (hb : Lay E 162 b) (hW : Wd E b K M) (hS : Sim K B) (hB9 : B + 200000 < 2 ^ 26) (kk : ∀ K2 M2, Wd E b K2 M2 → Sim K2 (B + 60000) → Gq E X (mLw nm tb) Q 2986 [.ref bs, .ref (b 0), .ref (b 151), .ref (b 160), .ref (b 161), .int (nI i), hole, hole, hole] [] M2 nc ns) : Gq E X (mLw nm tb) Q 2300 [.ref bs, .ref (b 0), .ref (b 151), .ref (b 160), .ref (b 161), .int (nI i), hole, hole, hole] [] M (nc + 23) (ns + 3266) := by
  obtain ⟨r, R, hc1, hc2⟩ := pr_lostCount hb hW hS hB9
  refine gq_aload_n hX dL_law_2300 rfl rfl rfl ?_
  refine gq_callV (mc := 0) (ms := 0) hX dL_law_2301 uL_295 hc1 rfl hW.c0 rfl rfl (Nat.le_of_ble_eq_true rfl) ⟨(Nat.le_of_ble_eq_true rfl), (Nat.le_of_ble_eq_true rfl)⟩ (Nat.zero_add _) (Nat.zero_add _) ?_
  rintro v M1 ⟨rfl, K1, hW1, hR1⟩
  obtain ⟨fs1, hfs1⟩ := hW1.c151
  refine gq_aload_n hX dL_law_2304 rfl rfl rfl ?_
  refine gq_callV (mc := 0) (ms := 0) hX dL_law_2305 uL_298 (hc2 K1 M1 hR1 hW1) rfl hfs1 rfl rfl (Nat.le_of_ble_eq_true rfl) ⟨(Nat.le_of_ble_eq_true rfl), (Nat.le_of_ble_eq_true rfl)⟩ (Nat.zero_add _) (Nat.zero_add _) ?_
  rintro v M2 ⟨rfl, K2, hW2, hS9⟩
  refine gq_icmp_eqT (tgt := 2986) hX dL_law_2308 rfl rfl ?_
  refine gq_bud (nc1 := nc) (ns1 := ns) (by omega) (by omega) ?_
  exact gq_forget 6 (gq_forget 7 (gq_forget 8 (kk _ _ hW2 hS9)))

set_option maxRecDepth 100000 in
set_option maxHeartbeats 4000000 in
theorem lk_39 {E : Ev} {X : Cx0} {nm : String} {tb : List (Nat × Nat × Nat × Nat)} {Q : State → Prop} {b : Nat → Nat} {K : Kt} {M : Hp} {B nc ns bs L i : Nat} {xs : Nat → Int32} (hX : Cx E X (mLw nm tb)) (hsc : Sc E X bs L xs) (hi : i + 2 < L) (hL : L ≤ 1536) (hb : Lay E 162 b) (hW : Wd E b K M) (hS : Sim K B) (hB9 : B + 200000 < 2 ^ 26) (kk : ∀ K2 M2, Wd E b K2 M2 → Sim K2 (B + 60000) → Gq E X (mLw nm tb) Q 2986 [.ref bs, .ref (b 0), .ref (b 151), .ref (b 160), .ref (b 161), .int (nI i), hole, hole, hole] [] M2 nc ns) : Gq E X (mLw nm tb) Q 2313 [.ref bs, .ref (b 0), .ref (b 151), .ref (b 160), .ref (b 161), .int (nI i), hole, hole, hole] [] M (nc + 23) (ns + 3266) := by
  obtain ⟨r, R, hc1, hc2⟩ := pr_paidTotal hb hW hS hB9
  refine gq_aload_n hX dL_law_2313 rfl rfl rfl ?_
  refine gq_callV (mc := 0) (ms := 0) hX dL_law_2314 uL_299 hc1 rfl hW.c0 rfl rfl (Nat.le_of_ble_eq_true rfl) ⟨(Nat.le_of_ble_eq_true rfl), (Nat.le_of_ble_eq_true rfl)⟩ (Nat.zero_add _) (Nat.zero_add _) ?_
  rintro v M1 ⟨rfl, K1, hW1, hR1⟩
  obtain ⟨fs1, hfs1⟩ := hW1.c151
  refine gq_aload_n hX dL_law_2317 rfl rfl rfl ?_
  refine gq_callV (mc := 0) (ms := 0) hX dL_law_2318 uL_302 (hc2 K1 M1 hR1 hW1) rfl hfs1 rfl rfl (Nat.le_of_ble_eq_true rfl) ⟨(Nat.le_of_ble_eq_true rfl), (Nat.le_of_ble_eq_true rfl)⟩ (Nat.zero_add _) (Nat.zero_add _) ?_
  rintro v M2 ⟨rfl, K2, hW2, hS9⟩
  refine gq_icmp_eqT (tgt := 2986) hX dL_law_2321 rfl rfl ?_
  refine gq_bud (nc1 := nc) (ns1 := ns) (by omega) (by omega) ?_
  exact gq_forget 6 (gq_forget 7 (gq_forget 8 (kk _ _ hW2 hS9)))

set_option maxRecDepth 100000 in
set_option maxHeartbeats 4000000 in
theorem lk_40 {E : Ev} {X : Cx0} {nm : String} {tb : List (Nat × Nat × Nat × Nat)} {Q : State → Prop} {b : Nat → Nat} {K : Kt} {M : Hp} {B nc ns bs L i : Nat} {xs : Nat → Int32} (hX : Cx E X (mLw nm tb)) (hsc : Sc E X bs L xs) (hi : i + 2 < L) (hL : L ≤ 1536) (hb : Lay E 162 b) (hW : Wd E b K M) (hS : Sim K B) (hB9 : B + 200000 < 2 ^ 26) (kk : ∀ K2 M2, Wd E b K2 M2 → Sim K2 (B + 60000) → Gq E X (mLw nm tb) Q 2986 [.ref bs, .ref (b 0), .ref (b 151), .ref (b 160), .ref (b 161), .int (nI i), hole, hole, hole] [] M2 nc ns) : Gq E X (mLw nm tb) Q 2326 [.ref bs, .ref (b 0), .ref (b 151), .ref (b 160), .ref (b 161), .int (nI i), hole, hole, hole] [] M (nc + 23) (ns + 3266) := by
  obtain ⟨r, R, hc1, hc2⟩ := pr_chargedTotal hb hW hS hB9
  refine gq_aload_n hX dL_law_2326 rfl rfl rfl ?_
  refine gq_callV (mc := 0) (ms := 0) hX dL_law_2327 uL_303 hc1 rfl hW.c0 rfl rfl (Nat.le_of_ble_eq_true rfl) ⟨(Nat.le_of_ble_eq_true rfl), (Nat.le_of_ble_eq_true rfl)⟩ (Nat.zero_add _) (Nat.zero_add _) ?_
  rintro v M1 ⟨rfl, K1, hW1, hR1⟩
  obtain ⟨fs1, hfs1⟩ := hW1.c151
  refine gq_aload_n hX dL_law_2330 rfl rfl rfl ?_
  refine gq_callV (mc := 0) (ms := 0) hX dL_law_2331 uL_306 (hc2 K1 M1 hR1 hW1) rfl hfs1 rfl rfl (Nat.le_of_ble_eq_true rfl) ⟨(Nat.le_of_ble_eq_true rfl), (Nat.le_of_ble_eq_true rfl)⟩ (Nat.zero_add _) (Nat.zero_add _) ?_
  rintro v M2 ⟨rfl, K2, hW2, hS9⟩
  refine gq_icmp_eqT (tgt := 2986) hX dL_law_2334 rfl rfl ?_
  refine gq_bud (nc1 := nc) (ns1 := ns) (by omega) (by omega) ?_
  exact gq_forget 6 (gq_forget 7 (gq_forget 8 (kk _ _ hW2 hS9)))

set_option maxRecDepth 100000 in
set_option maxHeartbeats 4000000 in
theorem lk_41 {E : Ev} {X : Cx0} {nm : String} {tb : List (Nat × Nat × Nat × Nat)} {Q : State → Prop} {b : Nat → Nat} {K : Kt} {M : Hp} {B nc ns bs L i : Nat} {xs : Nat → Int32} (hX : Cx E X (mLw nm tb)) (hsc : Sc E X bs L xs) (hi : i + 2 < L) (hL : L ≤ 1536) (hb : Lay E 162 b) (hW : Wd E b K M) (hS : Sim K B) (hB9 : B + 200000 < 2 ^ 26) (kk : ∀ K2 M2, Wd E b K2 M2 → Sim K2 (B + 60000) → Gq E X (mLw nm tb) Q 2986 [.ref bs, .ref (b 0), .ref (b 151), .ref (b 160), .ref (b 161), .int (nI i), hole, hole, hole] [] M2 nc ns) : Gq E X (mLw nm tb) Q 2339 [.ref bs, .ref (b 0), .ref (b 151), .ref (b 160), .ref (b 161), .int (nI i), hole, hole, hole] [] M (nc + 23) (ns + 3266) := by
  obtain ⟨p1, hp1⟩ : ∃ z, z = xs (nI (i + 1)).toNatClampNeg := ⟨_, rfl⟩
  obtain ⟨c0, hc⟩ : ∃ z, z = (p1.toUInt32 % 65536).toInt32 := ⟨_, rfl⟩
  obtain ⟨k, R, hk, hcw, hcm⟩ := pr_append hb hW hS hB9 c0
  refine gq_aload_n hX dL_law_2339 rfl rfl rfl ?_
  refine gq_aload_n hX dL_law_2340 rfl rfl rfl ?_
  refine gq_iload hX dL_law_2341 rfl rfl ?_
  refine gq_iconst (v := nI 1) hX dL_law_2343 rfl (by decide) ?_
  refine gq_iadd hX dL_law_2344 rfl ?_
  rw [nI_add]
  refine gq_sld hX hsc dL_law_2345 rfl (vp_in_nI (by omega) (by omega)) hp1.symm ?_
  refine gq_i2c hX dL_law_2346 rfl hc.symm ?_
  refine gq_aload_n hX dL_law_2347 rfl rfl rfl ?_
  refine gq_callH (mc := 23) (ms := 3266) (nc1 := nc) (ns1 := ns) hX dL_law_2348 uL_307 hcw rfl rfl (Nat.le_of_ble_eq_true rfl) ⟨(Nat.le_of_ble_eq_true rfl), (Nat.le_of_ble_eq_true rfl)⟩ (Nat.add_comm _ _) (Nat.add_comm _ _) ?_
  rintro v M1 ⟨rfl, K1, hW1, hR1⟩
  obtain ⟨fs1, hfs1⟩ := hW1.c151
  refine gq_istore hX dL_law_2351 rfl (Nat.le_of_ble_eq_true rfl) rfl ?_
  refine gq_aload_n hX dL_law_2353 rfl rfl rfl ?_
  refine gq_aload_n hX dL_law_2354 rfl rfl rfl ?_
  refine gq_iload hX dL_law_2355 rfl rfl ?_
  refine gq_iconst (v := nI 1) hX dL_law_2357 rfl (by decide) ?_
  refine gq_iadd hX dL_law_2358 rfl ?_
  rw [nI_add]
  refine gq_sld hX hsc dL_law_2359 rfl (vp_in_nI (by omega) (by omega)) hp1.symm ?_
  refine gq_i2c hX dL_law_2360 rfl hc.symm ?_
  refine gq_callV (mc := 0) (ms := 0) hX dL_law_2361 uL_310 (hcm K1 M1 hR1 hW1) rfl hfs1 rfl rfl (Nat.le_of_ble_eq_true rfl) ⟨(Nat.le_of_ble_eq_true rfl), (Nat.le_of_ble_eq_true rfl)⟩ (Nat.zero_add _) (Nat.zero_add _) ?_
  rintro v M2 ⟨r, K2, rfl, hW2, ht, hlo, hS9⟩
  obtain ⟨fs2, hfs2⟩ := hW2.c151
  refine gq_istore hX dL_law_2364 rfl (Nat.le_of_ble_eq_true rfl) rfl ?_
  refine gq_aload_n hX dL_law_2366 rfl rfl rfl ?_
  refine gq_callVe hX dL_law_2367 rfl uL_174 (thr_wd hb hW2) rfl hfs2 rfl rfl (Nat.le_of_ble_eq_true rfl) ⟨(Nat.le_of_ble_eq_true rfl), (Nat.le_of_ble_eq_true rfl)⟩ (Nat.zero_add _) (Nat.zero_add _) ?_
  rw [ht]
  refine gq_iload hX dL_law_2370 rfl rfl ?_
  refine gq_icmp_eqT (tgt := 2377) hX dL_law_2372 rfl rfl ?_
  refine gq_iload hX dL_law_2377 rfl rfl ?_
  by_cases hk0 : k = 0
  · subst hk0
    refine gq_if_neF (tgt := 2394) hX dL_law_2379 rfl rfl rfl ?_
    refine gq_aload_n hX dL_law_2382 rfl rfl rfl ?_
    refine gq_iconst (v := nI 0) hX dL_law_2383 rfl (by decide) ?_
    refine gq_lald hX dL_law_2384 rfl hW2.lo (vp_in_nI (by decide) (by decide)) ?_
    rw [show K2.2.2.2.2.2.2.1 (nI 0).toNatClampNeg = g0 r from hlo rfl]
    refine gq_iload hX dL_law_2385 rfl rfl ?_
    refine gq_i2l hX dL_law_2387 rfl ?_
    refine gq_lcmp hX dL_law_2388 rfl ?_
    rw [show lg_cmp (g0 r) r.toInt64 = 0 from lg_cmp_self _]
    refine gq_if_eqT (tgt := 2394) hX dL_law_2389 rfl rfl ?_
    refine gq_goto (tgt := 2986) hX dL_law_2394 rfl ?_
    exact gq_forget 6 (gq_forget 7 (gq_forget 8 (kk _ _ hW2 hS9)))
  · refine gq_if_neT (tgt := 2394) hX dL_law_2379 rfl (nI_kz hk hk0) ?_
    refine gq_goto (tgt := 2986) hX dL_law_2394 rfl ?_
    exact gq_forget 6 (gq_forget 7 (gq_forget 8 (kk _ _ hW2 hS9)))

set_option maxRecDepth 100000 in
set_option maxHeartbeats 4000000 in
theorem lk_42 {E : Ev} {X : Cx0} {nm : String} {tb : List (Nat × Nat × Nat × Nat)} {Q : State → Prop} {b : Nat → Nat} {K : Kt} {M : Hp} {B nc ns bs L i : Nat} {xs : Nat → Int32} (hX : Cx E X (mLw nm tb)) (hsc : Sc E X bs L xs) (hi : i + 2 < L) (hL : L ≤ 1536) (hb : Lay E 162 b) (hW : Wd E b K M) (hS : Sim K B) (hB9 : B + 200000 < 2 ^ 26) (kk : ∀ K2 M2, Wd E b K2 M2 → Sim K2 (B + 60000) → Gq E X (mLw nm tb) Q 2986 [.ref bs, .ref (b 0), .ref (b 151), .ref (b 160), .ref (b 161), .int (nI i), hole, hole, hole] [] M2 nc ns) : Gq E X (mLw nm tb) Q 2397 [.ref bs, .ref (b 0), .ref (b 151), .ref (b 160), .ref (b 161), .int (nI i), hole, hole, hole] [] M (nc + 23) (ns + 3266) := by
  obtain ⟨k, R, hk, hcw, hcm⟩ := pr_run hb hW hS hB9
  refine gq_aload_n hX dL_law_2397 rfl rfl rfl ?_
  refine gq_aload_n hX dL_law_2398 rfl rfl rfl ?_
  refine gq_callH (mc := 23) (ms := 3266) (nc1 := nc) (ns1 := ns) hX dL_law_2399 uL_311 hcw rfl rfl (Nat.le_of_ble_eq_true rfl) ⟨(Nat.le_of_ble_eq_true rfl), (Nat.le_of_ble_eq_true rfl)⟩ (Nat.add_comm _ _) (Nat.add_comm _ _) ?_
  rintro v M1 ⟨rfl, K1, hW1, hR1⟩
  obtain ⟨fs1, hfs1⟩ := hW1.c151
  refine gq_istore hX dL_law_2402 rfl (Nat.le_of_ble_eq_true rfl) rfl ?_
  refine gq_aload_n hX dL_law_2404 rfl rfl rfl ?_
  refine gq_callV (mc := 0) (ms := 0) hX dL_law_2405 uL_313 (hcm K1 M1 hR1 hW1) rfl hfs1 rfl rfl (Nat.le_of_ble_eq_true rfl) ⟨(Nat.le_of_ble_eq_true rfl), (Nat.le_of_ble_eq_true rfl)⟩ (Nat.zero_add _) (Nat.zero_add _) ?_
  rintro v M2 ⟨r, K2, rfl, hW2, ht, hlo, hS9⟩
  obtain ⟨fs2, hfs2⟩ := hW2.c151
  refine gq_istore hX dL_law_2408 rfl (Nat.le_of_ble_eq_true rfl) rfl ?_
  refine gq_aload_n hX dL_law_2410 rfl rfl rfl ?_
  refine gq_callVe hX dL_law_2411 rfl uL_174 (thr_wd hb hW2) rfl hfs2 rfl rfl (Nat.le_of_ble_eq_true rfl) ⟨(Nat.le_of_ble_eq_true rfl), (Nat.le_of_ble_eq_true rfl)⟩ (Nat.zero_add _) (Nat.zero_add _) ?_
  rw [ht]
  refine gq_iload hX dL_law_2414 rfl rfl ?_
  refine gq_icmp_eqT (tgt := 2421) hX dL_law_2416 rfl rfl ?_
  refine gq_iload hX dL_law_2421 rfl rfl ?_
  by_cases hk0 : k = 0
  · subst hk0
    refine gq_if_neF (tgt := 2438) hX dL_law_2423 rfl rfl rfl ?_
    refine gq_aload_n hX dL_law_2426 rfl rfl rfl ?_
    refine gq_iconst (v := nI 0) hX dL_law_2427 rfl (by decide) ?_
    refine gq_lald hX dL_law_2428 rfl hW2.lo (vp_in_nI (by decide) (by decide)) ?_
    rw [show K2.2.2.2.2.2.2.1 (nI 0).toNatClampNeg = g0 r from hlo rfl]
    refine gq_iload hX dL_law_2429 rfl rfl ?_
    refine gq_i2l hX dL_law_2431 rfl ?_
    refine gq_lcmp hX dL_law_2432 rfl ?_
    rw [show lg_cmp (g0 r) r.toInt64 = 0 from lg_cmp_self _]
    refine gq_if_eqT (tgt := 2438) hX dL_law_2433 rfl rfl ?_
    refine gq_goto (tgt := 2986) hX dL_law_2438 rfl ?_
    exact gq_forget 6 (gq_forget 7 (gq_forget 8 (kk _ _ hW2 hS9)))
  · refine gq_if_neT (tgt := 2438) hX dL_law_2423 rfl (nI_kz hk hk0) ?_
    refine gq_goto (tgt := 2986) hX dL_law_2438 rfl ?_
    exact gq_forget 6 (gq_forget 7 (gq_forget 8 (kk _ _ hW2 hS9)))

set_option maxRecDepth 100000 in
set_option maxHeartbeats 4000000 in
theorem lk_43 {E : Ev} {X : Cx0} {nm : String} {tb : List (Nat × Nat × Nat × Nat)} {Q : State → Prop} {b : Nat → Nat} {K : Kt} {M : Hp} {B nc ns bs L i : Nat} {xs : Nat → Int32} (hX : Cx E X (mLw nm tb)) (hsc : Sc E X bs L xs) (hi : i + 2 < L) (hL : L ≤ 1536) (hb : Lay E 162 b) (hW : Wd E b K M) (hS : Sim K B) (hB9 : B + 200000 < 2 ^ 26) (kk : ∀ K2 M2, Wd E b K2 M2 → Sim K2 (B + 60000) → Gq E X (mLw nm tb) Q 2986 [.ref bs, .ref (b 0), .ref (b 151), .ref (b 160), .ref (b 161), .int (nI i), hole, hole, hole] [] M2 nc ns) : Gq E X (mLw nm tb) Q 2441 [.ref bs, .ref (b 0), .ref (b 151), .ref (b 160), .ref (b 161), .int (nI i), hole, hole, hole] [] M (nc + 23) (ns + 3266) := by
  obtain ⟨k, R, hk, hcw, hcm⟩ := pr_errorPosition hb hW hS hB9
  refine gq_aload_n hX dL_law_2441 rfl rfl rfl ?_
  refine gq_aload_n hX dL_law_2442 rfl rfl rfl ?_
  refine gq_callH (mc := 23) (ms := 3266) (nc1 := nc) (ns1 := ns) hX dL_law_2443 uL_314 hcw rfl rfl (Nat.le_of_ble_eq_true rfl) ⟨(Nat.le_of_ble_eq_true rfl), (Nat.le_of_ble_eq_true rfl)⟩ (Nat.add_comm _ _) (Nat.add_comm _ _) ?_
  rintro v M1 ⟨rfl, K1, hW1, hR1⟩
  obtain ⟨fs1, hfs1⟩ := hW1.c151
  refine gq_istore hX dL_law_2446 rfl (Nat.le_of_ble_eq_true rfl) rfl ?_
  refine gq_aload_n hX dL_law_2448 rfl rfl rfl ?_
  refine gq_callV (mc := 0) (ms := 0) hX dL_law_2449 uL_316 (hcm K1 M1 hR1 hW1) rfl hfs1 rfl rfl (Nat.le_of_ble_eq_true rfl) ⟨(Nat.le_of_ble_eq_true rfl), (Nat.le_of_ble_eq_true rfl)⟩ (Nat.zero_add _) (Nat.zero_add _) ?_
  rintro v M2 ⟨r, K2, rfl, hW2, ht, hlo, hS9⟩
  obtain ⟨fs2, hfs2⟩ := hW2.c151
  refine gq_istore hX dL_law_2452 rfl (Nat.le_of_ble_eq_true rfl) rfl ?_
  refine gq_aload_n hX dL_law_2454 rfl rfl rfl ?_
  refine gq_callVe hX dL_law_2455 rfl uL_174 (thr_wd hb hW2) rfl hfs2 rfl rfl (Nat.le_of_ble_eq_true rfl) ⟨(Nat.le_of_ble_eq_true rfl), (Nat.le_of_ble_eq_true rfl)⟩ (Nat.zero_add _) (Nat.zero_add _) ?_
  rw [ht]
  refine gq_iload hX dL_law_2458 rfl rfl ?_
  refine gq_icmp_eqT (tgt := 2465) hX dL_law_2460 rfl rfl ?_
  refine gq_iload hX dL_law_2465 rfl rfl ?_
  by_cases hk0 : k = 0
  · subst hk0
    refine gq_if_neF (tgt := 2482) hX dL_law_2467 rfl rfl rfl ?_
    refine gq_aload_n hX dL_law_2470 rfl rfl rfl ?_
    refine gq_iconst (v := nI 0) hX dL_law_2471 rfl (by decide) ?_
    refine gq_lald hX dL_law_2472 rfl hW2.lo (vp_in_nI (by decide) (by decide)) ?_
    rw [show K2.2.2.2.2.2.2.1 (nI 0).toNatClampNeg = g0 r from hlo rfl]
    refine gq_iload hX dL_law_2473 rfl rfl ?_
    refine gq_i2l hX dL_law_2475 rfl ?_
    refine gq_lcmp hX dL_law_2476 rfl ?_
    rw [show lg_cmp (g0 r) r.toInt64 = 0 from lg_cmp_self _]
    refine gq_if_eqT (tgt := 2482) hX dL_law_2477 rfl rfl ?_
    refine gq_goto (tgt := 2986) hX dL_law_2482 rfl ?_
    exact gq_forget 6 (gq_forget 7 (gq_forget 8 (kk _ _ hW2 hS9)))
  · refine gq_if_neT (tgt := 2482) hX dL_law_2467 rfl (nI_kz hk hk0) ?_
    refine gq_goto (tgt := 2986) hX dL_law_2482 rfl ?_
    exact gq_forget 6 (gq_forget 7 (gq_forget 8 (kk _ _ hW2 hS9)))

set_option maxRecDepth 100000 in
set_option maxHeartbeats 4000000 in
theorem lk_44 {E : Ev} {X : Cx0} {nm : String} {tb : List (Nat × Nat × Nat × Nat)} {Q : State → Prop} {b : Nat → Nat} {K : Kt} {M : Hp} {B nc ns bs L i : Nat} {xs : Nat → Int32} (hX : Cx E X (mLw nm tb)) (hsc : Sc E X bs L xs) (hi : i + 2 < L) (hL : L ≤ 1536) (hb : Lay E 162 b) (hW : Wd E b K M) (hS : Sim K B) (hB9 : B + 200000 < 2 ^ 26) (kk : ∀ K2 M2, Wd E b K2 M2 → Sim K2 (B + 60000) → Gq E X (mLw nm tb) Q 2986 [.ref bs, .ref (b 0), .ref (b 151), .ref (b 160), .ref (b 161), .int (nI i), hole, hole, hole] [] M2 nc ns) : Gq E X (mLw nm tb) Q 2485 [.ref bs, .ref (b 0), .ref (b 151), .ref (b 160), .ref (b 161), .int (nI i), hole, hole, hole] [] M (nc + 23) (ns + 3266) := by
  obtain ⟨k, R, hk, hcw, hcm⟩ := pr_failedCommand hb hW hS hB9
  refine gq_aload_n hX dL_law_2485 rfl rfl rfl ?_
  refine gq_aload_n hX dL_law_2486 rfl rfl rfl ?_
  refine gq_callH (mc := 23) (ms := 3266) (nc1 := nc) (ns1 := ns) hX dL_law_2487 uL_317 hcw rfl rfl (Nat.le_of_ble_eq_true rfl) ⟨(Nat.le_of_ble_eq_true rfl), (Nat.le_of_ble_eq_true rfl)⟩ (Nat.add_comm _ _) (Nat.add_comm _ _) ?_
  rintro v M1 ⟨rfl, K1, hW1, hR1⟩
  obtain ⟨fs1, hfs1⟩ := hW1.c151
  refine gq_istore hX dL_law_2490 rfl (Nat.le_of_ble_eq_true rfl) rfl ?_
  refine gq_aload_n hX dL_law_2492 rfl rfl rfl ?_
  refine gq_callV (mc := 0) (ms := 0) hX dL_law_2493 uL_319 (hcm K1 M1 hR1 hW1) rfl hfs1 rfl rfl (Nat.le_of_ble_eq_true rfl) ⟨(Nat.le_of_ble_eq_true rfl), (Nat.le_of_ble_eq_true rfl)⟩ (Nat.zero_add _) (Nat.zero_add _) ?_
  rintro v M2 ⟨r, K2, rfl, hW2, ht, hlo, hS9⟩
  obtain ⟨fs2, hfs2⟩ := hW2.c151
  refine gq_istore hX dL_law_2496 rfl (Nat.le_of_ble_eq_true rfl) rfl ?_
  refine gq_aload_n hX dL_law_2498 rfl rfl rfl ?_
  refine gq_callVe hX dL_law_2499 rfl uL_174 (thr_wd hb hW2) rfl hfs2 rfl rfl (Nat.le_of_ble_eq_true rfl) ⟨(Nat.le_of_ble_eq_true rfl), (Nat.le_of_ble_eq_true rfl)⟩ (Nat.zero_add _) (Nat.zero_add _) ?_
  rw [ht]
  refine gq_iload hX dL_law_2502 rfl rfl ?_
  refine gq_icmp_eqT (tgt := 2509) hX dL_law_2504 rfl rfl ?_
  refine gq_iload hX dL_law_2509 rfl rfl ?_
  by_cases hk0 : k = 0
  · subst hk0
    refine gq_if_neF (tgt := 2526) hX dL_law_2511 rfl rfl rfl ?_
    refine gq_aload_n hX dL_law_2514 rfl rfl rfl ?_
    refine gq_iconst (v := nI 0) hX dL_law_2515 rfl (by decide) ?_
    refine gq_lald hX dL_law_2516 rfl hW2.lo (vp_in_nI (by decide) (by decide)) ?_
    rw [show K2.2.2.2.2.2.2.1 (nI 0).toNatClampNeg = g0 r from hlo rfl]
    refine gq_iload hX dL_law_2517 rfl rfl ?_
    refine gq_i2l hX dL_law_2519 rfl ?_
    refine gq_lcmp hX dL_law_2520 rfl ?_
    rw [show lg_cmp (g0 r) r.toInt64 = 0 from lg_cmp_self _]
    refine gq_if_eqT (tgt := 2526) hX dL_law_2521 rfl rfl ?_
    refine gq_goto (tgt := 2986) hX dL_law_2526 rfl ?_
    exact gq_forget 6 (gq_forget 7 (gq_forget 8 (kk _ _ hW2 hS9)))
  · refine gq_if_neT (tgt := 2526) hX dL_law_2511 rfl (nI_kz hk hk0) ?_
    refine gq_goto (tgt := 2986) hX dL_law_2526 rfl ?_
    exact gq_forget 6 (gq_forget 7 (gq_forget 8 (kk _ _ hW2 hS9)))

set_option maxRecDepth 100000 in
set_option maxHeartbeats 4000000 in
theorem lk_45 {E : Ev} {X : Cx0} {nm : String} {tb : List (Nat × Nat × Nat × Nat)} {Q : State → Prop} {b : Nat → Nat} {K : Kt} {M : Hp} {B nc ns bs L i : Nat} {xs : Nat → Int32} (hX : Cx E X (mLw nm tb)) (hsc : Sc E X bs L xs) (hi : i + 2 < L) (hL : L ≤ 1536) (hb : Lay E 162 b) (hW : Wd E b K M) (hS : Sim K B) (hB9 : B + 200000 < 2 ^ 26) (kk : ∀ K2 M2, Wd E b K2 M2 → Sim K2 (B + 60000) → Gq E X (mLw nm tb) Q 2986 [.ref bs, .ref (b 0), .ref (b 151), .ref (b 160), .ref (b 161), .int (nI i), hole, hole, hole] [] M2 nc ns) : Gq E X (mLw nm tb) Q 2529 [.ref bs, .ref (b 0), .ref (b 151), .ref (b 160), .ref (b 161), .int (nI i), hole, hole, hole] [] M (nc + 23) (ns + 3266) := by
  obtain ⟨k, R, hk, hcw, hcm⟩ := pr_failedException hb hW hS hB9
  refine gq_aload_n hX dL_law_2529 rfl rfl rfl ?_
  refine gq_aload_n hX dL_law_2530 rfl rfl rfl ?_
  refine gq_callH (mc := 23) (ms := 3266) (nc1 := nc) (ns1 := ns) hX dL_law_2531 uL_320 hcw rfl rfl (Nat.le_of_ble_eq_true rfl) ⟨(Nat.le_of_ble_eq_true rfl), (Nat.le_of_ble_eq_true rfl)⟩ (Nat.add_comm _ _) (Nat.add_comm _ _) ?_
  rintro v M1 ⟨rfl, K1, hW1, hR1⟩
  obtain ⟨fs1, hfs1⟩ := hW1.c151
  refine gq_istore hX dL_law_2534 rfl (Nat.le_of_ble_eq_true rfl) rfl ?_
  refine gq_aload_n hX dL_law_2536 rfl rfl rfl ?_
  refine gq_callV (mc := 0) (ms := 0) hX dL_law_2537 uL_322 (hcm K1 M1 hR1 hW1) rfl hfs1 rfl rfl (Nat.le_of_ble_eq_true rfl) ⟨(Nat.le_of_ble_eq_true rfl), (Nat.le_of_ble_eq_true rfl)⟩ (Nat.zero_add _) (Nat.zero_add _) ?_
  rintro v M2 ⟨r, K2, rfl, hW2, ht, hlo, hS9⟩
  obtain ⟨fs2, hfs2⟩ := hW2.c151
  refine gq_istore hX dL_law_2540 rfl (Nat.le_of_ble_eq_true rfl) rfl ?_
  refine gq_aload_n hX dL_law_2542 rfl rfl rfl ?_
  refine gq_callVe hX dL_law_2543 rfl uL_174 (thr_wd hb hW2) rfl hfs2 rfl rfl (Nat.le_of_ble_eq_true rfl) ⟨(Nat.le_of_ble_eq_true rfl), (Nat.le_of_ble_eq_true rfl)⟩ (Nat.zero_add _) (Nat.zero_add _) ?_
  rw [ht]
  refine gq_iload hX dL_law_2546 rfl rfl ?_
  refine gq_icmp_eqT (tgt := 2553) hX dL_law_2548 rfl rfl ?_
  refine gq_iload hX dL_law_2553 rfl rfl ?_
  by_cases hk0 : k = 0
  · subst hk0
    refine gq_if_neF (tgt := 2570) hX dL_law_2555 rfl rfl rfl ?_
    refine gq_aload_n hX dL_law_2558 rfl rfl rfl ?_
    refine gq_iconst (v := nI 0) hX dL_law_2559 rfl (by decide) ?_
    refine gq_lald hX dL_law_2560 rfl hW2.lo (vp_in_nI (by decide) (by decide)) ?_
    rw [show K2.2.2.2.2.2.2.1 (nI 0).toNatClampNeg = g0 r from hlo rfl]
    refine gq_iload hX dL_law_2561 rfl rfl ?_
    refine gq_i2l hX dL_law_2563 rfl ?_
    refine gq_lcmp hX dL_law_2564 rfl ?_
    rw [show lg_cmp (g0 r) r.toInt64 = 0 from lg_cmp_self _]
    refine gq_if_eqT (tgt := 2570) hX dL_law_2565 rfl rfl ?_
    refine gq_goto (tgt := 2986) hX dL_law_2570 rfl ?_
    exact gq_forget 6 (gq_forget 7 (gq_forget 8 (kk _ _ hW2 hS9)))
  · refine gq_if_neT (tgt := 2570) hX dL_law_2555 rfl (nI_kz hk hk0) ?_
    refine gq_goto (tgt := 2986) hX dL_law_2570 rfl ?_
    exact gq_forget 6 (gq_forget 7 (gq_forget 8 (kk _ _ hW2 hS9)))

set_option maxRecDepth 100000 in
set_option maxHeartbeats 4000000 in
theorem lk_46 {E : Ev} {X : Cx0} {nm : String} {tb : List (Nat × Nat × Nat × Nat)} {Q : State → Prop} {b : Nat → Nat} {K : Kt} {M : Hp} {B nc ns bs L i : Nat} {xs : Nat → Int32} (hX : Cx E X (mLw nm tb)) (hsc : Sc E X bs L xs) (hi : i + 2 < L) (hL : L ≤ 1536) (hb : Lay E 162 b) (hW : Wd E b K M) (hS : Sim K B) (hB9 : B + 200000 < 2 ^ 26) (kk : ∀ K2 M2, Wd E b K2 M2 → Sim K2 (B + 60000) → Gq E X (mLw nm tb) Q 2986 [.ref bs, .ref (b 0), .ref (b 151), .ref (b 160), .ref (b 161), .int (nI i), hole, hole, hole] [] M2 nc ns) : Gq E X (mLw nm tb) Q 2573 [.ref bs, .ref (b 0), .ref (b 151), .ref (b 160), .ref (b 161), .int (nI i), hole, hole, hole] [] M (nc + 23) (ns + 3266) := by
  obtain ⟨p1, hp1⟩ : ∃ z, z = xs (nI (i + 1)).toNatClampNeg := ⟨_, rfl⟩
  obtain ⟨k, R, hk, hcw, hcm⟩ := pr_describeCommittee hb hW hS hB9 p1
  refine gq_aload_n hX dL_law_2573 rfl rfl rfl ?_
  refine gq_aload_n hX dL_law_2574 rfl rfl rfl ?_
  refine gq_iload hX dL_law_2575 rfl rfl ?_
  refine gq_iconst (v := nI 1) hX dL_law_2577 rfl (by decide) ?_
  refine gq_iadd hX dL_law_2578 rfl ?_
  rw [nI_add]
  refine gq_sld hX hsc dL_law_2579 rfl (vp_in_nI (by omega) (by omega)) hp1.symm ?_
  refine gq_aload_n hX dL_law_2580 rfl rfl rfl ?_
  refine gq_callH (mc := 23) (ms := 3266) (nc1 := nc) (ns1 := ns) hX dL_law_2581 uL_323 hcw rfl rfl (Nat.le_of_ble_eq_true rfl) ⟨(Nat.le_of_ble_eq_true rfl), (Nat.le_of_ble_eq_true rfl)⟩ (Nat.add_comm _ _) (Nat.add_comm _ _) ?_
  rintro v M1 ⟨rfl, K1, hW1, hR1⟩
  obtain ⟨fs1, hfs1⟩ := hW1.c151
  refine gq_istore hX dL_law_2584 rfl (Nat.le_of_ble_eq_true rfl) rfl ?_
  refine gq_aload_n hX dL_law_2586 rfl rfl rfl ?_
  refine gq_aload_n hX dL_law_2587 rfl rfl rfl ?_
  refine gq_iload hX dL_law_2588 rfl rfl ?_
  refine gq_iconst (v := nI 1) hX dL_law_2590 rfl (by decide) ?_
  refine gq_iadd hX dL_law_2591 rfl ?_
  rw [nI_add]
  refine gq_sld hX hsc dL_law_2592 rfl (vp_in_nI (by omega) (by omega)) hp1.symm ?_
  refine gq_callV (mc := 0) (ms := 0) hX dL_law_2593 uL_325 (hcm K1 M1 hR1 hW1) rfl hfs1 rfl rfl (Nat.le_of_ble_eq_true rfl) ⟨(Nat.le_of_ble_eq_true rfl), (Nat.le_of_ble_eq_true rfl)⟩ (Nat.zero_add _) (Nat.zero_add _) ?_
  rintro v M2 ⟨r, K2, rfl, hW2, ht, hlo, hS9⟩
  obtain ⟨fs2, hfs2⟩ := hW2.c151
  refine gq_istore hX dL_law_2596 rfl (Nat.le_of_ble_eq_true rfl) rfl ?_
  refine gq_aload_n hX dL_law_2598 rfl rfl rfl ?_
  refine gq_callVe hX dL_law_2599 rfl uL_174 (thr_wd hb hW2) rfl hfs2 rfl rfl (Nat.le_of_ble_eq_true rfl) ⟨(Nat.le_of_ble_eq_true rfl), (Nat.le_of_ble_eq_true rfl)⟩ (Nat.zero_add _) (Nat.zero_add _) ?_
  rw [ht]
  refine gq_iload hX dL_law_2602 rfl rfl ?_
  refine gq_icmp_eqT (tgt := 2609) hX dL_law_2604 rfl rfl ?_
  refine gq_iload hX dL_law_2609 rfl rfl ?_
  by_cases hk0 : k = 0
  · subst hk0
    refine gq_if_neF (tgt := 2626) hX dL_law_2611 rfl rfl rfl ?_
    refine gq_aload_n hX dL_law_2614 rfl rfl rfl ?_
    refine gq_iconst (v := nI 0) hX dL_law_2615 rfl (by decide) ?_
    refine gq_lald hX dL_law_2616 rfl hW2.lo (vp_in_nI (by decide) (by decide)) ?_
    rw [show K2.2.2.2.2.2.2.1 (nI 0).toNatClampNeg = g0 r from hlo rfl]
    refine gq_iload hX dL_law_2617 rfl rfl ?_
    refine gq_i2l hX dL_law_2619 rfl ?_
    refine gq_lcmp hX dL_law_2620 rfl ?_
    rw [show lg_cmp (g0 r) r.toInt64 = 0 from lg_cmp_self _]
    refine gq_if_eqT (tgt := 2626) hX dL_law_2621 rfl rfl ?_
    refine gq_goto (tgt := 2986) hX dL_law_2626 rfl ?_
    exact gq_forget 6 (gq_forget 7 (gq_forget 8 (kk _ _ hW2 hS9)))
  · refine gq_if_neT (tgt := 2626) hX dL_law_2611 rfl (nI_kz hk hk0) ?_
    refine gq_goto (tgt := 2986) hX dL_law_2626 rfl ?_
    exact gq_forget 6 (gq_forget 7 (gq_forget 8 (kk _ _ hW2 hS9)))

set_option maxRecDepth 100000 in
set_option maxHeartbeats 4000000 in
theorem lk_47 {E : Ev} {X : Cx0} {nm : String} {tb : List (Nat × Nat × Nat × Nat)} {Q : State → Prop} {b : Nat → Nat} {K : Kt} {M : Hp} {B nc ns bs L i : Nat} {xs : Nat → Int32} (hX : Cx E X (mLw nm tb)) (hsc : Sc E X bs L xs) (hi : i + 2 < L) (hL : L ≤ 1536) (hb : Lay E 162 b) (hW : Wd E b K M) (hS : Sim K B) (hB9 : B + 200000 < 2 ^ 26) (kk : ∀ K2 M2, Wd E b K2 M2 → Sim K2 (B + 60000) → Gq E X (mLw nm tb) Q 2986 [.ref bs, .ref (b 0), .ref (b 151), .ref (b 160), .ref (b 161), .int (nI i), hole, hole, hole] [] M2 nc ns) : Gq E X (mLw nm tb) Q 2629 [.ref bs, .ref (b 0), .ref (b 151), .ref (b 160), .ref (b 161), .int (nI i), hole, hole, hole] [] M (nc + 23) (ns + 3266) := by
  obtain ⟨p1, hp1⟩ : ∃ z, z = xs (nI (i + 1)).toNatClampNeg := ⟨_, rfl⟩
  obtain ⟨k, R, hk, hcw, hcm⟩ := pr_describeMotion hb hW hS hB9 p1
  refine gq_aload_n hX dL_law_2629 rfl rfl rfl ?_
  refine gq_aload_n hX dL_law_2630 rfl rfl rfl ?_
  refine gq_iload hX dL_law_2631 rfl rfl ?_
  refine gq_iconst (v := nI 1) hX dL_law_2633 rfl (by decide) ?_
  refine gq_iadd hX dL_law_2634 rfl ?_
  rw [nI_add]
  refine gq_sld hX hsc dL_law_2635 rfl (vp_in_nI (by omega) (by omega)) hp1.symm ?_
  refine gq_aload_n hX dL_law_2636 rfl rfl rfl ?_
  refine gq_callH (mc := 23) (ms := 3266) (nc1 := nc) (ns1 := ns) hX dL_law_2637 uL_326 hcw rfl rfl (Nat.le_of_ble_eq_true rfl) ⟨(Nat.le_of_ble_eq_true rfl), (Nat.le_of_ble_eq_true rfl)⟩ (Nat.add_comm _ _) (Nat.add_comm _ _) ?_
  rintro v M1 ⟨rfl, K1, hW1, hR1⟩
  obtain ⟨fs1, hfs1⟩ := hW1.c151
  refine gq_istore hX dL_law_2640 rfl (Nat.le_of_ble_eq_true rfl) rfl ?_
  refine gq_aload_n hX dL_law_2642 rfl rfl rfl ?_
  refine gq_aload_n hX dL_law_2643 rfl rfl rfl ?_
  refine gq_iload hX dL_law_2644 rfl rfl ?_
  refine gq_iconst (v := nI 1) hX dL_law_2646 rfl (by decide) ?_
  refine gq_iadd hX dL_law_2647 rfl ?_
  rw [nI_add]
  refine gq_sld hX hsc dL_law_2648 rfl (vp_in_nI (by omega) (by omega)) hp1.symm ?_
  refine gq_callV (mc := 0) (ms := 0) hX dL_law_2649 uL_328 (hcm K1 M1 hR1 hW1) rfl hfs1 rfl rfl (Nat.le_of_ble_eq_true rfl) ⟨(Nat.le_of_ble_eq_true rfl), (Nat.le_of_ble_eq_true rfl)⟩ (Nat.zero_add _) (Nat.zero_add _) ?_
  rintro v M2 ⟨r, K2, rfl, hW2, ht, hlo, hS9⟩
  obtain ⟨fs2, hfs2⟩ := hW2.c151
  refine gq_istore hX dL_law_2652 rfl (Nat.le_of_ble_eq_true rfl) rfl ?_
  refine gq_aload_n hX dL_law_2654 rfl rfl rfl ?_
  refine gq_callVe hX dL_law_2655 rfl uL_174 (thr_wd hb hW2) rfl hfs2 rfl rfl (Nat.le_of_ble_eq_true rfl) ⟨(Nat.le_of_ble_eq_true rfl), (Nat.le_of_ble_eq_true rfl)⟩ (Nat.zero_add _) (Nat.zero_add _) ?_
  rw [ht]
  refine gq_iload hX dL_law_2658 rfl rfl ?_
  refine gq_icmp_eqT (tgt := 2665) hX dL_law_2660 rfl rfl ?_
  refine gq_iload hX dL_law_2665 rfl rfl ?_
  by_cases hk0 : k = 0
  · subst hk0
    refine gq_if_neF (tgt := 2682) hX dL_law_2667 rfl rfl rfl ?_
    refine gq_aload_n hX dL_law_2670 rfl rfl rfl ?_
    refine gq_iconst (v := nI 0) hX dL_law_2671 rfl (by decide) ?_
    refine gq_lald hX dL_law_2672 rfl hW2.lo (vp_in_nI (by decide) (by decide)) ?_
    rw [show K2.2.2.2.2.2.2.1 (nI 0).toNatClampNeg = g0 r from hlo rfl]
    refine gq_iload hX dL_law_2673 rfl rfl ?_
    refine gq_i2l hX dL_law_2675 rfl ?_
    refine gq_lcmp hX dL_law_2676 rfl ?_
    rw [show lg_cmp (g0 r) r.toInt64 = 0 from lg_cmp_self _]
    refine gq_if_eqT (tgt := 2682) hX dL_law_2677 rfl rfl ?_
    refine gq_goto (tgt := 2986) hX dL_law_2682 rfl ?_
    exact gq_forget 6 (gq_forget 7 (gq_forget 8 (kk _ _ hW2 hS9)))
  · refine gq_if_neT (tgt := 2682) hX dL_law_2667 rfl (nI_kz hk hk0) ?_
    refine gq_goto (tgt := 2986) hX dL_law_2682 rfl ?_
    exact gq_forget 6 (gq_forget 7 (gq_forget 8 (kk _ _ hW2 hS9)))

set_option maxRecDepth 100000 in
set_option maxHeartbeats 4000000 in
theorem lk_48 {E : Ev} {X : Cx0} {nm : String} {tb : List (Nat × Nat × Nat × Nat)} {Q : State → Prop} {b : Nat → Nat} {K : Kt} {M : Hp} {B nc ns bs L i : Nat} {xs : Nat → Int32} (hX : Cx E X (mLw nm tb)) (hsc : Sc E X bs L xs) (hi : i + 2 < L) (hL : L ≤ 1536) (hb : Lay E 162 b) (hW : Wd E b K M) (hS : Sim K B) (hB9 : B + 200000 < 2 ^ 26) (kk : ∀ K2 M2, Wd E b K2 M2 → Sim K2 (B + 60000) → Gq E X (mLw nm tb) Q 2986 [.ref bs, .ref (b 0), .ref (b 151), .ref (b 160), .ref (b 161), .int (nI i), hole, hole, hole] [] M2 nc ns) : Gq E X (mLw nm tb) Q 2685 [.ref bs, .ref (b 0), .ref (b 151), .ref (b 160), .ref (b 161), .int (nI i), hole, hole, hole] [] M (nc + 23) (ns + 3266) := by
  obtain ⟨p1, hp1⟩ : ∃ z, z = xs (nI (i + 1)).toNatClampNeg := ⟨_, rfl⟩
  obtain ⟨k, R, hk, hcw, hcm⟩ := pr_lineAt hb hW hS hB9 p1
  refine gq_aload_n hX dL_law_2685 rfl rfl rfl ?_
  refine gq_aload_n hX dL_law_2686 rfl rfl rfl ?_
  refine gq_iload hX dL_law_2687 rfl rfl ?_
  refine gq_iconst (v := nI 1) hX dL_law_2689 rfl (by decide) ?_
  refine gq_iadd hX dL_law_2690 rfl ?_
  rw [nI_add]
  refine gq_sld hX hsc dL_law_2691 rfl (vp_in_nI (by omega) (by omega)) hp1.symm ?_
  refine gq_aload_n hX dL_law_2692 rfl rfl rfl ?_
  refine gq_callH (mc := 23) (ms := 3266) (nc1 := nc) (ns1 := ns) hX dL_law_2693 uL_329 hcw rfl rfl (Nat.le_of_ble_eq_true rfl) ⟨(Nat.le_of_ble_eq_true rfl), (Nat.le_of_ble_eq_true rfl)⟩ (Nat.add_comm _ _) (Nat.add_comm _ _) ?_
  rintro v M1 ⟨rfl, K1, hW1, hR1⟩
  obtain ⟨fs1, hfs1⟩ := hW1.c151
  refine gq_istore hX dL_law_2696 rfl (Nat.le_of_ble_eq_true rfl) rfl ?_
  refine gq_aload_n hX dL_law_2698 rfl rfl rfl ?_
  refine gq_aload_n hX dL_law_2699 rfl rfl rfl ?_
  refine gq_iload hX dL_law_2700 rfl rfl ?_
  refine gq_iconst (v := nI 1) hX dL_law_2702 rfl (by decide) ?_
  refine gq_iadd hX dL_law_2703 rfl ?_
  rw [nI_add]
  refine gq_sld hX hsc dL_law_2704 rfl (vp_in_nI (by omega) (by omega)) hp1.symm ?_
  refine gq_callV (mc := 0) (ms := 0) hX dL_law_2705 uL_331 (hcm K1 M1 hR1 hW1) rfl hfs1 rfl rfl (Nat.le_of_ble_eq_true rfl) ⟨(Nat.le_of_ble_eq_true rfl), (Nat.le_of_ble_eq_true rfl)⟩ (Nat.zero_add _) (Nat.zero_add _) ?_
  rintro v M2 ⟨r, K2, rfl, hW2, ht, hlo, hS9⟩
  obtain ⟨fs2, hfs2⟩ := hW2.c151
  refine gq_istore hX dL_law_2708 rfl (Nat.le_of_ble_eq_true rfl) rfl ?_
  refine gq_aload_n hX dL_law_2710 rfl rfl rfl ?_
  refine gq_callVe hX dL_law_2711 rfl uL_174 (thr_wd hb hW2) rfl hfs2 rfl rfl (Nat.le_of_ble_eq_true rfl) ⟨(Nat.le_of_ble_eq_true rfl), (Nat.le_of_ble_eq_true rfl)⟩ (Nat.zero_add _) (Nat.zero_add _) ?_
  rw [ht]
  refine gq_iload hX dL_law_2714 rfl rfl ?_
  refine gq_icmp_eqT (tgt := 2721) hX dL_law_2716 rfl rfl ?_
  refine gq_iload hX dL_law_2721 rfl rfl ?_
  by_cases hk0 : k = 0
  · subst hk0
    refine gq_if_neF (tgt := 2738) hX dL_law_2723 rfl rfl rfl ?_
    refine gq_aload_n hX dL_law_2726 rfl rfl rfl ?_
    refine gq_iconst (v := nI 0) hX dL_law_2727 rfl (by decide) ?_
    refine gq_lald hX dL_law_2728 rfl hW2.lo (vp_in_nI (by decide) (by decide)) ?_
    rw [show K2.2.2.2.2.2.2.1 (nI 0).toNatClampNeg = g0 r from hlo rfl]
    refine gq_iload hX dL_law_2729 rfl rfl ?_
    refine gq_i2l hX dL_law_2731 rfl ?_
    refine gq_lcmp hX dL_law_2732 rfl ?_
    rw [show lg_cmp (g0 r) r.toInt64 = 0 from lg_cmp_self _]
    refine gq_if_eqT (tgt := 2738) hX dL_law_2733 rfl rfl ?_
    refine gq_goto (tgt := 2986) hX dL_law_2738 rfl ?_
    exact gq_forget 6 (gq_forget 7 (gq_forget 8 (kk _ _ hW2 hS9)))
  · refine gq_if_neT (tgt := 2738) hX dL_law_2723 rfl (nI_kz hk hk0) ?_
    refine gq_goto (tgt := 2986) hX dL_law_2738 rfl ?_
    exact gq_forget 6 (gq_forget 7 (gq_forget 8 (kk _ _ hW2 hS9)))

set_option maxRecDepth 100000 in
set_option maxHeartbeats 4000000 in
theorem lk_49 {E : Ev} {X : Cx0} {nm : String} {tb : List (Nat × Nat × Nat × Nat)} {Q : State → Prop} {b : Nat → Nat} {K : Kt} {M : Hp} {B nc ns bs L i : Nat} {xs : Nat → Int32} (hX : Cx E X (mLw nm tb)) (hsc : Sc E X bs L xs) (hi : i + 2 < L) (hL : L ≤ 1536) (hb : Lay E 162 b) (hW : Wd E b K M) (hS : Sim K B) (hB9 : B + 200000 < 2 ^ 26) (kk : ∀ K2 M2, Wd E b K2 M2 → Sim K2 (B + 60000) → Gq E X (mLw nm tb) Q 2986 [.ref bs, .ref (b 0), .ref (b 151), .ref (b 160), .ref (b 161), .int (nI i), hole, hole, hole] [] M2 nc ns) : Gq E X (mLw nm tb) Q 2741 [.ref bs, .ref (b 0), .ref (b 151), .ref (b 160), .ref (b 161), .int (nI i), hole, hole, hole] [] M (nc + 23) (ns + 3266) := by
  obtain ⟨k, R, hk, hcw, hcm⟩ := pr_meanArrears hb hW hS hB9
  refine gq_aload_n hX dL_law_2741 rfl rfl rfl ?_
  refine gq_aload hX dL_law_2742 rfl rfl ?_
  refine gq_callH (mc := 23) (ms := 3266) (nc1 := nc) (ns1 := ns) hX dL_law_2744 uL_332 hcw rfl rfl (Nat.le_of_ble_eq_true rfl) ⟨(Nat.le_of_ble_eq_true rfl), (Nat.le_of_ble_eq_true rfl)⟩ (Nat.add_comm _ _) (Nat.add_comm _ _) ?_
  rintro v M1 ⟨rfl, K1, hW1, hR1⟩
  obtain ⟨fs1, hfs1⟩ := hW1.c151
  refine gq_istore hX dL_law_2747 rfl (Nat.le_of_ble_eq_true rfl) rfl ?_
  refine gq_aload_n hX dL_law_2749 rfl rfl rfl ?_
  refine gq_callV (mc := 0) (ms := 0) hX dL_law_2750 uL_335 (hcm K1 M1 hR1 hW1) rfl hfs1 rfl rfl (Nat.le_of_ble_eq_true rfl) ⟨(Nat.le_of_ble_eq_true rfl), (Nat.le_of_ble_eq_true rfl)⟩ (Nat.zero_add _) (Nat.zero_add _) ?_
  rintro v M2 ⟨r, K2, rfl, hW2, ht, hlo, hS9⟩
  obtain ⟨fs2, hfs2⟩ := hW2.c151
  refine gq_dstore hX dL_law_2753 rfl (Nat.le_of_ble_eq_true rfl) rfl ?_
  refine gq_aload_n hX dL_law_2755 rfl rfl rfl ?_
  refine gq_callVe hX dL_law_2756 rfl uL_174 (thr_wd hb hW2) rfl hfs2 rfl rfl (Nat.le_of_ble_eq_true rfl) ⟨(Nat.le_of_ble_eq_true rfl), (Nat.le_of_ble_eq_true rfl)⟩ (Nat.zero_add _) (Nat.zero_add _) ?_
  rw [ht]
  refine gq_iload hX dL_law_2759 rfl rfl ?_
  refine gq_icmp_eqT (tgt := 2766) hX dL_law_2761 rfl rfl ?_
  refine gq_iload hX dL_law_2766 rfl rfl ?_
  by_cases hk0 : k = 0
  · subst hk0
    refine gq_if_neF (tgt := 2803) hX dL_law_2768 rfl rfl rfl ?_
    obtain ⟨hd1, hd2⟩ := hlo rfl
    refine gq_aload hX dL_law_2771 rfl rfl ?_
    refine gq_iconst (v := nI 0) hX dL_law_2773 rfl (by decide) ?_
    refine gq_dald hX dL_law_2774 rfl hW2.dq (vp_in_nI (by decide) (by decide)) ?_
    rw [show K2.2.2.2.2.2.2.2 (nI 0).toNatClampNeg = id r from hd1]
    refine gq_dload hX dL_law_2775 rfl rfl ?_
    refine gq_dcmp hX dL_law_2777 rfl ?_
    rw [show Op.cmpValue (FP.dcmp (id r) r) .l = 0 from dcmp_0 hd2]
    refine gq_if_eqT (tgt := 2803) hX dL_law_2778 rfl rfl ?_
    refine gq_goto (tgt := 2986) hX dL_law_2803 rfl ?_
    exact gq_forget 6 (gq_forget 7 (gq_forget 8 (kk _ _ hW2 hS9)))
  · refine gq_if_neT (tgt := 2803) hX dL_law_2768 rfl (nI_kz hk hk0) ?_
    refine gq_goto (tgt := 2986) hX dL_law_2803 rfl ?_
    exact gq_forget 6 (gq_forget 7 (gq_forget 8 (kk _ _ hW2 hS9)))

set_option maxRecDepth 100000 in
set_option maxHeartbeats 4000000 in
theorem lk_50 {E : Ev} {X : Cx0} {nm : String} {tb : List (Nat × Nat × Nat × Nat)} {Q : State → Prop} {b : Nat → Nat} {K : Kt} {M : Hp} {B nc ns bs L i : Nat} {xs : Nat → Int32} (hX : Cx E X (mLw nm tb)) (hsc : Sc E X bs L xs) (hi : i + 2 < L) (hL : L ≤ 1536) (hb : Lay E 162 b) (hW : Wd E b K M) (hS : Sim K B) (hB9 : B + 200000 < 2 ^ 26) (kk : ∀ K2 M2, Wd E b K2 M2 → Sim K2 (B + 60000) → Gq E X (mLw nm tb) Q 2986 [.ref bs, .ref (b 0), .ref (b 151), .ref (b 160), .ref (b 161), .int (nI i), hole, hole, hole] [] M2 nc ns) : Gq E X (mLw nm tb) Q 2806 [.ref bs, .ref (b 0), .ref (b 151), .ref (b 160), .ref (b 161), .int (nI i), hole, hole, hole] [] M (nc + 23) (ns + 3266) := by
  obtain ⟨k, R, hk, hcw, hcm⟩ := pr_rentedShare hb hW hS hB9
  refine gq_aload_n hX dL_law_2806 rfl rfl rfl ?_
  refine gq_aload hX dL_law_2807 rfl rfl ?_
  refine gq_callH (mc := 23) (ms := 3266) (nc1 := nc) (ns1 := ns) hX dL_law_2809 uL_336 hcw rfl rfl (Nat.le_of_ble_eq_true rfl) ⟨(Nat.le_of_ble_eq_true rfl), (Nat.le_of_ble_eq_true rfl)⟩ (Nat.add_comm _ _) (Nat.add_comm _ _) ?_
  rintro v M1 ⟨rfl, K1, hW1, hR1⟩
  obtain ⟨fs1, hfs1⟩ := hW1.c151
  refine gq_istore hX dL_law_2812 rfl (Nat.le_of_ble_eq_true rfl) rfl ?_
  refine gq_aload_n hX dL_law_2814 rfl rfl rfl ?_
  refine gq_callV (mc := 0) (ms := 0) hX dL_law_2815 uL_338 (hcm K1 M1 hR1 hW1) rfl hfs1 rfl rfl (Nat.le_of_ble_eq_true rfl) ⟨(Nat.le_of_ble_eq_true rfl), (Nat.le_of_ble_eq_true rfl)⟩ (Nat.zero_add _) (Nat.zero_add _) ?_
  rintro v M2 ⟨r, K2, rfl, hW2, ht, hlo, hS9⟩
  obtain ⟨fs2, hfs2⟩ := hW2.c151
  refine gq_fstore hX dL_law_2818 rfl (Nat.le_of_ble_eq_true rfl) rfl ?_
  refine gq_aload_n hX dL_law_2820 rfl rfl rfl ?_
  refine gq_callVe hX dL_law_2821 rfl uL_174 (thr_wd hb hW2) rfl hfs2 rfl rfl (Nat.le_of_ble_eq_true rfl) ⟨(Nat.le_of_ble_eq_true rfl), (Nat.le_of_ble_eq_true rfl)⟩ (Nat.zero_add _) (Nat.zero_add _) ?_
  rw [ht]
  refine gq_iload hX dL_law_2824 rfl rfl ?_
  refine gq_icmp_eqT (tgt := 2831) hX dL_law_2826 rfl rfl ?_
  refine gq_iload hX dL_law_2831 rfl rfl ?_
  by_cases hk0 : k = 0
  · subst hk0
    refine gq_if_neF (tgt := 2869) hX dL_law_2833 rfl rfl rfl ?_
    obtain ⟨hd1, hd2⟩ := hlo rfl
    refine gq_aload hX dL_law_2836 rfl rfl ?_
    refine gq_iconst (v := nI 0) hX dL_law_2838 rfl (by decide) ?_
    refine gq_dald hX dL_law_2839 rfl hW2.dq (vp_in_nI (by decide) (by decide)) ?_
    rw [show K2.2.2.2.2.2.2.2 (nI 0).toNatClampNeg = FP.f2d r from hd1]
    refine gq_fload hX dL_law_2840 rfl rfl ?_
    refine gq_f2d hX dL_law_2842 rfl (n64 hd2) ?_
    refine gq_dcmp hX dL_law_2843 rfl ?_
    rw [show Op.cmpValue (FP.dcmp (FP.f2d r) (FP.f2d r)) .l = 0 from dcmp_0 hd2]
    refine gq_if_eqT (tgt := 2869) hX dL_law_2844 rfl rfl ?_
    refine gq_goto (tgt := 2986) hX dL_law_2869 rfl ?_
    exact gq_forget 6 (gq_forget 7 (gq_forget 8 (kk _ _ hW2 hS9)))
  · refine gq_if_neT (tgt := 2869) hX dL_law_2833 rfl (nI_kz hk hk0) ?_
    refine gq_goto (tgt := 2986) hX dL_law_2869 rfl ?_
    exact gq_forget 6 (gq_forget 7 (gq_forget 8 (kk _ _ hW2 hS9)))

set_option maxRecDepth 100000 in
set_option maxHeartbeats 4000000 in
theorem lk_51 {E : Ev} {X : Cx0} {nm : String} {tb : List (Nat × Nat × Nat × Nat)} {Q : State → Prop} {b : Nat → Nat} {K : Kt} {M : Hp} {B nc ns bs L i : Nat} {xs : Nat → Int32} (hX : Cx E X (mLw nm tb)) (hsc : Sc E X bs L xs) (hi : i + 2 < L) (hL : L ≤ 1536) (hb : Lay E 162 b) (hW : Wd E b K M) (hS : Sim K B) (hB9 : B + 200000 < 2 ^ 26) (kk : ∀ K2 M2, Wd E b K2 M2 → Sim K2 (B + 60000) → Gq E X (mLw nm tb) Q 2986 [.ref bs, .ref (b 0), .ref (b 151), .ref (b 160), .ref (b 161), .int (nI i), hole, hole, hole] [] M2 nc ns) : Gq E X (mLw nm tb) Q 2872 [.ref bs, .ref (b 0), .ref (b 151), .ref (b 160), .ref (b 161), .int (nI i), hole, hole, hole] [] M (nc + 23) (ns + 3266) := by
  obtain ⟨r, R, hc1, hc2⟩ := pr_isConsistent hb hW hS hB9
  refine gq_aload_n hX dL_law_2872 rfl rfl rfl ?_
  refine gq_callV (mc := 0) (ms := 0) hX dL_law_2873 uL_339 hc1 rfl hW.c0 rfl rfl (Nat.le_of_ble_eq_true rfl) ⟨(Nat.le_of_ble_eq_true rfl), (Nat.le_of_ble_eq_true rfl)⟩ (Nat.zero_add _) (Nat.zero_add _) ?_
  rintro v M1 ⟨rfl, K1, hW1, hR1⟩
  obtain ⟨fs1, hfs1⟩ := hW1.c151
  refine gq_aload_n hX dL_law_2876 rfl rfl rfl ?_
  refine gq_callV (mc := 0) (ms := 0) hX dL_law_2877 uL_343 (hc2 K1 M1 hR1 hW1) rfl hfs1 rfl rfl (Nat.le_of_ble_eq_true rfl) ⟨(Nat.le_of_ble_eq_true rfl), (Nat.le_of_ble_eq_true rfl)⟩ (Nat.zero_add _) (Nat.zero_add _) ?_
  rintro v M2 ⟨rfl, K2, hW2, hS9⟩
  refine gq_icmp_eqT (tgt := 2986) hX dL_law_2880 rfl rfl ?_
  refine gq_bud (nc1 := nc) (ns1 := ns) (by omega) (by omega) ?_
  exact gq_forget 6 (gq_forget 7 (gq_forget 8 (kk _ _ hW2 hS9)))

set_option maxRecDepth 100000 in
set_option maxHeartbeats 4000000 in
theorem lk_52 {E : Ev} {X : Cx0} {nm : String} {tb : List (Nat × Nat × Nat × Nat)} {Q : State → Prop} {b : Nat → Nat} {K : Kt} {M : Hp} {B nc ns bs L i : Nat} {xs : Nat → Int32} (hX : Cx E X (mLw nm tb)) (hsc : Sc E X bs L xs) (hi : i + 2 < L) (hL : L ≤ 1536) (hb : Lay E 162 b) (hW : Wd E b K M) (hS : Sim K B) (hB9 : B + 200000 < 2 ^ 26) (kk : ∀ K2 M2, Wd E b K2 M2 → Sim K2 (B + 60000) → Gq E X (mLw nm tb) Q 2986 [.ref bs, .ref (b 0), .ref (b 151), .ref (b 160), .ref (b 161), .int (nI i), hole, hole, hole] [] M2 nc ns) : Gq E X (mLw nm tb) Q 2885 [.ref bs, .ref (b 0), .ref (b 151), .ref (b 160), .ref (b 161), .int (nI i), hole, hole, hole] [] M (nc + 23) (ns + 3266) := by
  obtain ⟨k, R, hk, hcw, hcm⟩ := pr_undo hb hW hS hB9
  refine gq_aload_n hX dL_law_2885 rfl rfl rfl ?_
  refine gq_aload_n hX dL_law_2886 rfl rfl rfl ?_
  refine gq_callH (mc := 23) (ms := 3266) (nc1 := nc) (ns1 := ns) hX dL_law_2887 uL_344 hcw rfl rfl (Nat.le_of_ble_eq_true rfl) ⟨(Nat.le_of_ble_eq_true rfl), (Nat.le_of_ble_eq_true rfl)⟩ (Nat.add_comm _ _) (Nat.add_comm _ _) ?_
  rintro v M1 ⟨rfl, K1, hW1, hR1⟩
  obtain ⟨fs1, hfs1⟩ := hW1.c151
  refine gq_istore hX dL_law_2890 rfl (Nat.le_of_ble_eq_true rfl) rfl ?_
  refine gq_aload_n hX dL_law_2892 rfl rfl rfl ?_
  refine gq_callV (mc := 0) (ms := 0) hX dL_law_2893 uL_346 (hcm K1 M1 hR1 hW1) rfl hfs1 rfl rfl (Nat.le_of_ble_eq_true rfl) ⟨(Nat.le_of_ble_eq_true rfl), (Nat.le_of_ble_eq_true rfl)⟩ (Nat.zero_add _) (Nat.zero_add _) ?_
  rintro v M2 ⟨r, K2, rfl, hW2, ht, hlo, hS9⟩
  obtain ⟨fs2, hfs2⟩ := hW2.c151
  refine gq_istore hX dL_law_2896 rfl (Nat.le_of_ble_eq_true rfl) rfl ?_
  refine gq_aload_n hX dL_law_2898 rfl rfl rfl ?_
  refine gq_callVe hX dL_law_2899 rfl uL_174 (thr_wd hb hW2) rfl hfs2 rfl rfl (Nat.le_of_ble_eq_true rfl) ⟨(Nat.le_of_ble_eq_true rfl), (Nat.le_of_ble_eq_true rfl)⟩ (Nat.zero_add _) (Nat.zero_add _) ?_
  rw [ht]
  refine gq_iload hX dL_law_2902 rfl rfl ?_
  refine gq_icmp_eqT (tgt := 2909) hX dL_law_2904 rfl rfl ?_
  refine gq_iload hX dL_law_2909 rfl rfl ?_
  by_cases hk0 : k = 0
  · subst hk0
    refine gq_if_neF (tgt := 2926) hX dL_law_2911 rfl rfl rfl ?_
    refine gq_aload_n hX dL_law_2914 rfl rfl rfl ?_
    refine gq_iconst (v := nI 0) hX dL_law_2915 rfl (by decide) ?_
    refine gq_lald hX dL_law_2916 rfl hW2.lo (vp_in_nI (by decide) (by decide)) ?_
    rw [show K2.2.2.2.2.2.2.1 (nI 0).toNatClampNeg = g0 r from hlo rfl]
    refine gq_iload hX dL_law_2917 rfl rfl ?_
    refine gq_i2l hX dL_law_2919 rfl ?_
    refine gq_lcmp hX dL_law_2920 rfl ?_
    rw [show lg_cmp (g0 r) r.toInt64 = 0 from lg_cmp_self _]
    refine gq_if_eqT (tgt := 2926) hX dL_law_2921 rfl rfl ?_
    refine gq_goto (tgt := 2986) hX dL_law_2926 rfl ?_
    exact gq_forget 6 (gq_forget 7 (gq_forget 8 (kk _ _ hW2 hS9)))
  · refine gq_if_neT (tgt := 2926) hX dL_law_2911 rfl (nI_kz hk hk0) ?_
    refine gq_goto (tgt := 2986) hX dL_law_2926 rfl ?_
    exact gq_forget 6 (gq_forget 7 (gq_forget 8 (kk _ _ hW2 hS9)))

set_option maxRecDepth 100000 in
set_option maxHeartbeats 4000000 in
theorem lk_53 {E : Ev} {X : Cx0} {nm : String} {tb : List (Nat × Nat × Nat × Nat)} {Q : State → Prop} {b : Nat → Nat} {K : Kt} {M : Hp} {B nc ns bs L i : Nat} {xs : Nat → Int32} (hX : Cx E X (mLw nm tb)) (hsc : Sc E X bs L xs) (hi : i + 2 < L) (hL : L ≤ 1536) (hb : Lay E 162 b) (hW : Wd E b K M) (hS : Sim K B) (hB9 : B + 200000 < 2 ^ 26) (kk : ∀ K2 M2, Wd E b K2 M2 → Sim K2 (B + 60000) → Gq E X (mLw nm tb) Q 2986 [.ref bs, .ref (b 0), .ref (b 151), .ref (b 160), .ref (b 161), .int (nI i), hole, hole, hole] [] M2 nc ns) : Gq E X (mLw nm tb) Q 2929 [.ref bs, .ref (b 0), .ref (b 151), .ref (b 160), .ref (b 161), .int (nI i), hole, hole, hole] [] M (nc + 23) (ns + 3266) := by
  obtain ⟨r, R, hc1, hc2⟩ := pr_save hb hW hS hB9
  refine gq_aload_n hX dL_law_2929 rfl rfl rfl ?_
  refine gq_callV (mc := 0) (ms := 0) hX dL_law_2930 uL_347 hc1 rfl hW.c0 rfl rfl (Nat.le_of_ble_eq_true rfl) ⟨(Nat.le_of_ble_eq_true rfl), (Nat.le_of_ble_eq_true rfl)⟩ (Nat.zero_add _) (Nat.zero_add _) ?_
  rintro v M1 ⟨rfl, K1, hW1, hR1⟩
  obtain ⟨fs1, hfs1⟩ := hW1.c151
  refine gq_aload_n hX dL_law_2933 rfl rfl rfl ?_
  refine gq_callV (mc := 0) (ms := 0) hX dL_law_2934 uL_350 (hc2 K1 M1 hR1 hW1) rfl hfs1 rfl rfl (Nat.le_of_ble_eq_true rfl) ⟨(Nat.le_of_ble_eq_true rfl), (Nat.le_of_ble_eq_true rfl)⟩ (Nat.zero_add _) (Nat.zero_add _) ?_
  rintro v M2 ⟨rfl, K2, hW2, hS9⟩
  refine gq_icmp_eqT (tgt := 2986) hX dL_law_2937 rfl rfl ?_
  refine gq_bud (nc1 := nc) (ns1 := ns) (by omega) (by omega) ?_
  exact gq_forget 6 (gq_forget 7 (gq_forget 8 (kk _ _ hW2 hS9)))

set_option maxRecDepth 100000 in
set_option maxHeartbeats 4000000 in
theorem lk_54 {E : Ev} {X : Cx0} {nm : String} {tb : List (Nat × Nat × Nat × Nat)} {Q : State → Prop} {b : Nat → Nat} {K : Kt} {M : Hp} {B nc ns bs L i : Nat} {xs : Nat → Int32} (hX : Cx E X (mLw nm tb)) (hsc : Sc E X bs L xs) (hi : i + 2 < L) (hL : L ≤ 1536) (hb : Lay E 162 b) (hW : Wd E b K M) (hS : Sim K B) (hB9 : B + 200000 < 2 ^ 26) (kk : ∀ K2 M2, Wd E b K2 M2 → Sim K2 (B + 60000) → Gq E X (mLw nm tb) Q 2986 [.ref bs, .ref (b 0), .ref (b 151), .ref (b 160), .ref (b 161), .int (nI i), hole, hole, hole] [] M2 nc ns) : Gq E X (mLw nm tb) Q 2942 [.ref bs, .ref (b 0), .ref (b 151), .ref (b 160), .ref (b 161), .int (nI i), hole, hole, hole] [] M (nc + 23) (ns + 3266) := by
  obtain ⟨k, R, hk, hcw, hcm⟩ := pr_restore hb hW hS hB9
  refine gq_aload_n hX dL_law_2942 rfl rfl rfl ?_
  refine gq_aload_n hX dL_law_2943 rfl rfl rfl ?_
  refine gq_callH (mc := 23) (ms := 3266) (nc1 := nc) (ns1 := ns) hX dL_law_2944 uL_351 hcw rfl rfl (Nat.le_of_ble_eq_true rfl) ⟨(Nat.le_of_ble_eq_true rfl), (Nat.le_of_ble_eq_true rfl)⟩ (Nat.add_comm _ _) (Nat.add_comm _ _) ?_
  rintro v M1 ⟨rfl, K1, hW1, hR1⟩
  obtain ⟨fs1, hfs1⟩ := hW1.c151
  refine gq_istore hX dL_law_2947 rfl (Nat.le_of_ble_eq_true rfl) rfl ?_
  refine gq_aload_n hX dL_law_2949 rfl rfl rfl ?_
  refine gq_callV (mc := 0) (ms := 0) hX dL_law_2950 uL_353 (hcm K1 M1 hR1 hW1) rfl hfs1 rfl rfl (Nat.le_of_ble_eq_true rfl) ⟨(Nat.le_of_ble_eq_true rfl), (Nat.le_of_ble_eq_true rfl)⟩ (Nat.zero_add _) (Nat.zero_add _) ?_
  rintro v M2 ⟨r, K2, rfl, hW2, ht, hlo, hS9⟩
  obtain ⟨fs2, hfs2⟩ := hW2.c151
  refine gq_istore hX dL_law_2953 rfl (Nat.le_of_ble_eq_true rfl) rfl ?_
  refine gq_aload_n hX dL_law_2955 rfl rfl rfl ?_
  refine gq_callVe hX dL_law_2956 rfl uL_174 (thr_wd hb hW2) rfl hfs2 rfl rfl (Nat.le_of_ble_eq_true rfl) ⟨(Nat.le_of_ble_eq_true rfl), (Nat.le_of_ble_eq_true rfl)⟩ (Nat.zero_add _) (Nat.zero_add _) ?_
  rw [ht]
  refine gq_iload hX dL_law_2959 rfl rfl ?_
  refine gq_icmp_eqT (tgt := 2966) hX dL_law_2961 rfl rfl ?_
  refine gq_iload hX dL_law_2966 rfl rfl ?_
  by_cases hk0 : k = 0
  · subst hk0
    refine gq_if_neF (tgt := 2983) hX dL_law_2968 rfl rfl rfl ?_
    refine gq_aload_n hX dL_law_2971 rfl rfl rfl ?_
    refine gq_iconst (v := nI 0) hX dL_law_2972 rfl (by decide) ?_
    refine gq_lald hX dL_law_2973 rfl hW2.lo (vp_in_nI (by decide) (by decide)) ?_
    rw [show K2.2.2.2.2.2.2.1 (nI 0).toNatClampNeg = g0 r from hlo rfl]
    refine gq_iload hX dL_law_2974 rfl rfl ?_
    refine gq_i2l hX dL_law_2976 rfl ?_
    refine gq_lcmp hX dL_law_2977 rfl ?_
    rw [show lg_cmp (g0 r) r.toInt64 = 0 from lg_cmp_self _]
    refine gq_if_eqT (tgt := 2983) hX dL_law_2978 rfl rfl ?_
    refine gq_goto (tgt := 2986) hX dL_law_2983 rfl ?_
    exact gq_forget 6 (gq_forget 7 (gq_forget 8 (kk _ _ hW2 hS9)))
  · refine gq_if_neT (tgt := 2983) hX dL_law_2968 rfl (nI_kz hk hk0) ?_
    refine gq_goto (tgt := 2986) hX dL_law_2983 rfl ?_
    exact gq_forget 6 (gq_forget 7 (gq_forget 8 (kk _ _ hW2 hS9)))

