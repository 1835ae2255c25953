/-! ===== one act of the law ===== -/
section VW25
theorem vx_ok {σ : vw_S} (hI : vI σ) (i : Nat) : (∀ x ∈ vx σ i 15, (0 ≤ x ∧ x < ((σ.1 12 0).length : Int)) ∧ vl_at (vx σ i 17) (vd_pl (ve_ix (vl_at (σ.1 13 0) x))) = 1) ∧ (vx σ i 15).length ≤ 720 ∧ vx σ i 16 = (vx σ i 15).filter (fun x => decide (vl_at (vx σ i 20) x = 1)) ∧ (vx σ i 16).length ≤ 720 := by
  have hl : (σ.1 12 0).length ≤ 720 := by
    have h1 := hI.2.1.2.2.1
    have h2 := hI.1.1.1
    omega
  obtain ⟨a1, a2, a3⟩ := vq_ga_all (Kn := vx σ i 17) (ef := vx σ i 18) (er := vx σ i 19) hI.2.1 hl
  have e15 : (vq_ga (σ.1 13 0) (σ.1 14 0) (vx σ i 17) (vx σ i 18) (vx σ i 19) (σ.1 12 0).length (σ.1 12 0).length).1 = vx σ i 15 := rfl
  have e16 : (vq_ga (σ.1 13 0) (σ.1 14 0) (vx σ i 17) (vx σ i 18) (vx σ i 19) (σ.1 12 0).length (σ.1 12 0).length).2.1 = vx σ i 16 := rfl
  have e20 : (vq_ga (σ.1 13 0) (σ.1 14 0) (vx σ i 17) (vx σ i 18) (vx σ i 19) (σ.1 12 0).length (σ.1 12 0).length).2.2 = vx σ i 20 := rfl
  rw [e15, e16, e20] at a3
  rw [e15] at a1 a2
  refine ⟨a1, a2, a3, ?_⟩
  rw [a3]
  exact Nat.le_trans (List.length_filter_le _ _) a2
variable {L : Nat} {xs : Nat → Int32} {σ σ2 : vw_S} {Q : List Value → vw_S → Prop} {k pc a b c kk i : Nat} {lc : List (Option Value)} {sc : List Value} {fr : vj_F} {l l2 r12 r13 sh cs tx tx2 d2 he od dec : List Int} {V : Nat → Nat → Int} {z y : Int}
theorem m_act_sw {w o : Nat} (hI : vI σ) (hw : w < 6) (hc0 : (w : Int) < σ.2 0 0) (hp : σ.2 2 w = 1) (ho : o < 6) (ho0 : (o : Int) < σ.2 0 0) (hop : σ.2 2 o = 1) {x y sz p b : Int} (hsz : sz = ((vx σ w 16).length : Nat)) (hs7 : sz ≤ 720) (p0 : 0 ≤ p) (p1 : p ≤ sz) (hb01 : b = 0 ∨ b = 1) (hroom : b = 0 ∨ σ.2 1 0 < 110) (hQ : ∀ σ', vI σ' → Q [] σ') : vW vw_rep L xs (126, 48, [some (.ref 8), some (.int (jI (x))), some (.int (jI (y))), some (.int (jI ((w : Int)))), some (.int (jI ((o : Int)))), some (.int (jI (sz))), some (.int (jI (p))), some (.int (jI (b)))], []) σ Q := by
  have hcm := hI.1.1.2.1
  have hnn := hI.1.1.1
  refine vW_len (kk := 3) (i := w) ⟨by decide, hw⟩ (fun hl3 => ?_)
  have hl3 : (σ.1 3 w).length ≤ 9 := hl3
  refine vW_len (kk := 4) (i := w) ⟨by decide, hw⟩ (fun hl4 => ?_)
  have hl4 : (σ.1 4 w).length ≤ 9 := hl4
  refine vW_len (kk := 7) (i := w * 6 + o) ⟨by decide, (show w * 6 + o < 36 by omega)⟩ (fun hl7 => ?_)
  have hl7 : (σ.1 7 (w * 6 + o)).length ≤ 270 := hl7
  refine w0 vi126_48 rfl rfl ?_
  refine w2 (3) vi126_49 (by decide) ?_
  refine r_shr vi126_50 (fun s50 _ _ => ?_)
  refine w2 (18) vi126_51 (by decide) ?_
  refine c_below vi126_53 (by first | omega | exact ve_ix_le _ | exact vk_lat_le _ _ _ _ | assumption) (by first | omega | exact ve_ix_le _ | exact vk_lat_le _ _ _ _ | assumption) rfl (fun z53 _ _ => ?_)
  refine w63 vi126_56 ?_
  have hsw : vj_tsw vt_ts vt_td (jI z53) = 140 ∨ vj_tsw vt_ts vt_td (jI z53) = 176 ∨ vj_tsw vt_ts vt_td (jI z53) = 210 ∨ vj_tsw vt_ts vt_td (jI z53) = 252 ∨ vj_tsw vt_ts vt_td (jI z53) = 318 ∨ vj_tsw vt_ts vt_td (jI z53) = 340 ∨ vj_tsw vt_ts vt_td (jI z53) = 362 ∨ vj_tsw vt_ts vt_td (jI z53) = 373 ∨ vj_tsw vt_ts vt_td (jI z53) = 424 ∨ vj_tsw vt_ts vt_td (jI z53) = 465 ∨ vj_tsw vt_ts vt_td (jI z53) = 482 := by
    rcases (show z53 = 0 ∨ z53 = 1 ∨ z53 = 2 ∨ z53 = 3 ∨ z53 = 4 ∨ z53 = 5 ∨ z53 = 6 ∨ z53 = 7 ∨ z53 = 8 ∨ z53 = 9 ∨ z53 = 10 ∨ z53 = 11 ∨ z53 = 12 ∨ z53 = 13 ∨ z53 = 14 ∨ z53 = 15 ∨ z53 = 16 ∨ z53 = 17 by omega) with e | e | e | e | e | e | e | e | e | e | e | e | e | e | e | e | e | e
    all_goals
      rw [e]
      decide +kernel
  rcases hsw with e | e | e | e | e | e | e | e | e | e | e
  · rw [e]
    refine w0 vi126_140 rfl rfl ?_
    refine w7 vi126_142 (vwz_0 ⟨by omega, by omega⟩) (fun h142 => ?_) (fun h142 => ?_)
    ·
      refine w43 vi126_543 vm126.2.2.2 ?_
      exact hQ σ hI
    ·
      refine w1 vi126_145 rfl rfl ?_
      refine w0 vi126_146 rfl rfl ?_
      refine w0 vi126_147 rfl rfl ?_
      refine w0 vi126_149 rfl rfl ?_
      refine w2 (6) vi126_150 (by decide) ?_
      refine r_shr vi126_152 (fun s152 _ _ => ?_)
      refine w2 (27) vi126_153 (by decide) ?_
      refine c_below vi126_155 (by first | omega | exact ve_ix_le _ | exact vk_lat_le _ _ _ _ | assumption) (by first | omega | exact ve_ix_le _ | exact vk_lat_le _ _ _ _ | assumption) rfl (fun z155 _ _ => ?_)
      refine w2 (1) vi126_158 (by decide) ?_
      refine w0 vi126_159 rfl rfl ?_
      refine w2 (7) vi126_160 (by decide) ?_
      refine r_shr vi126_162 (fun s162 _ _ => ?_)
      refine w2 (6) vi126_163 (by decide) ?_
      refine c_below vi126_165 (by first | omega | exact ve_ix_le _ | exact vk_lat_le _ _ _ _ | assumption) (by first | omega | exact ve_ix_le _ | exact vk_lat_le _ _ _ _ | assumption) rfl (fun z165 _ _ => ?_)
      refine w9 vi126_168 ?_
      refine c_type vi126_169 hI hw hc0 hp (by omega) (by omega) (by omega) (by omega) (by omega) (by omega) (by omega) rfl (fun x169 σ1 hI1 => ?_)
      refine w39 vi126_172 rfl ?_
      refine w5 vi126_173 ?_
      refine w43 vi126_543 vm126.2.2.2 ?_
      exact hQ σ1 hI1
  · rw [e]
    refine w0 vi126_176 rfl rfl ?_
    refine w7 vi126_178 (vwz_0 ⟨by omega, by omega⟩) (fun h178 => ?_) (fun h178 => ?_)
    ·
      refine w43 vi126_543 vm126.2.2.2 ?_
      exact hQ σ hI
    ·
      refine w1 vi126_181 rfl rfl ?_
      refine w0 vi126_182 rfl rfl ?_
      refine w0 vi126_183 rfl rfl ?_
      refine w2 (6) vi126_184 (by decide) ?_
      refine r_shr vi126_186 (fun s186 _ _ => ?_)
      refine w2 (27) vi126_187 (by decide) ?_
      refine c_below vi126_189 (by first | omega | exact ve_ix_le _ | exact vk_lat_le _ _ _ _ | assumption) (by first | omega | exact ve_ix_le _ | exact vk_lat_le _ _ _ _ | assumption) rfl (fun z189 _ _ => ?_)
      refine w2 (1) vi126_192 (by decide) ?_
      refine w0 vi126_193 rfl rfl ?_
      refine w2 (7) vi126_194 (by decide) ?_
      refine r_shr vi126_196 (fun s196 _ _ => ?_)
      refine w2 (6) vi126_197 (by decide) ?_
      refine c_below vi126_199 (by first | omega | exact ve_ix_le _ | exact vk_lat_le _ _ _ _ | assumption) (by first | omega | exact ve_ix_le _ | exact vk_lat_le _ _ _ _ | assumption) rfl (fun z199 _ _ => ?_)
      refine w9 vi126_202 ?_
      refine c_typeAtCaret vi126_203 hI hw hc0 hp (by omega) (by omega) (by omega) (by omega) (by omega) rfl (fun x203 σ2 hI2 => ?_)
      refine w39 vi126_206 rfl ?_
      refine w5 vi126_207 ?_
      refine w43 vi126_543 vm126.2.2.2 ?_
      exact hQ σ2 hI2
  · rw [e]
    refine w0 vi126_210 rfl rfl ?_
    refine w7 vi126_212 (vwz_0 ⟨by omega, by omega⟩) (fun h212 => ?_) (fun h212 => ?_)
    ·
      refine w43 vi126_543 vm126.2.2.2 ?_
      exact hQ σ hI
    ·
      refine w0 vi126_215 rfl rfl ?_
      refine w0 vi126_217 rfl rfl ?_
      refine w8 vi126_219 (vwc_3 ⟨by omega, by omega⟩ ⟨by omega, by omega⟩) (fun h219 => ?_) (fun h219 => ?_)
      ·
        refine w43 vi126_543 vm126.2.2.2 ?_
        exact hQ σ hI
      ·
        refine w1 vi126_222 rfl rfl ?_
        refine w0 vi126_223 rfl rfl ?_
        refine w0 vi126_224 rfl rfl ?_
        refine w2 (1) vi126_226 (by decide) ?_
        refine w0 vi126_227 rfl rfl ?_
        refine w2 (7) vi126_228 (by decide) ?_
        refine r_shr vi126_230 (fun s230 _ _ => ?_)
        refine w2 (12) vi126_231 (by decide) ?_
        refine w0 vi126_233 rfl rfl ?_
        refine w0 vi126_235 rfl rfl ?_
        refine w10 vi126_237 ?_
        refine w32 vi126_238 ⟨by omega, by omega⟩ ⟨by omega, by omega⟩ rfl ?_
        refine c_below vi126_241 (by first | omega | exact ve_ix_le _ | exact vk_lat_le _ _ _ _ | assumption) (by first | omega | exact ve_ix_le _ | exact vk_lat_le _ _ _ _ | assumption) rfl (fun z241 _ _ => ?_)
        refine w9 vi126_244 ?_
        refine c_erase vi126_245 hI hw hc0 hp (by omega) (by omega) (by omega) (by omega) (by omega) rfl (fun x245 σ3 hI3 => ?_)
        refine w39 vi126_248 rfl ?_
        refine w5 vi126_249 ?_
        refine w43 vi126_543 vm126.2.2.2 ?_
        exact hQ σ3 hI3
  · rw [e]
    refine w0 vi126_252 rfl rfl ?_
    refine w7 vi126_254 (vwz_0 ⟨by omega, by omega⟩) (fun h254 => ?_) (fun h254 => ?_)
    ·
      refine w43 vi126_543 vm126.2.2.2 ?_
      exact hQ σ hI
    ·
      refine w0 vi126_257 rfl rfl ?_
      refine w0 vi126_259 rfl rfl ?_
      refine w8 vi126_261 (vwc_3 ⟨by omega, by omega⟩ ⟨by omega, by omega⟩) (fun h261 => ?_) (fun h261 => ?_)
      ·
        refine w43 vi126_543 vm126.2.2.2 ?_
        exact hQ σ hI
      ·
        refine w1 vi126_264 rfl rfl ?_
        refine w0 vi126_265 rfl rfl ?_
        refine w0 vi126_266 rfl rfl ?_
        refine w2 (1) vi126_268 (by decide) ?_
        refine w0 vi126_269 rfl rfl ?_
        refine w2 (7) vi126_270 (by decide) ?_
        refine r_shr vi126_272 (fun s272 _ _ => ?_)
        refine w2 (12) vi126_273 (by decide) ?_
        refine w0 vi126_275 rfl rfl ?_
        refine w0 vi126_277 rfl rfl ?_
        refine w10 vi126_279 ?_
        refine w32 vi126_280 ⟨by omega, by omega⟩ ⟨by omega, by omega⟩ rfl ?_
        refine c_below vi126_283 (by first | omega | exact ve_ix_le _ | exact vk_lat_le _ _ _ _ | assumption) (by first | omega | exact ve_ix_le _ | exact vk_lat_le _ _ _ _ | assumption) rfl (fun z283 _ _ => ?_)
        refine w9 vi126_286 ?_
        refine w0 vi126_287 rfl rfl ?_
        refine w2 (6) vi126_288 (by decide) ?_
        refine r_shr vi126_290 (fun s290 _ _ => ?_)
        refine w2 (3) vi126_291 (by decide) ?_
        refine c_below vi126_292 (by first | omega | exact ve_ix_le _ | exact vk_lat_le _ _ _ _ | assumption) (by first | omega | exact ve_ix_le _ | exact vk_lat_le _ _ _ _ | assumption) rfl (fun z292 _ _ => ?_)
        refine w0 vi126_295 rfl rfl ?_
        refine w2 (9) vi126_296 (by decide) ?_
        refine r_shr vi126_298 (fun s298 _ _ => ?_)
        refine w2 (3) vi126_299 (by decide) ?_
        refine c_below vi126_300 (by first | omega | exact ve_ix_le _ | exact vk_lat_le _ _ _ _ | assumption) (by first | omega | exact ve_ix_le _ | exact vk_lat_le _ _ _ _ | assumption) rfl (fun z300 _ _ => ?_)
        refine w7 vi126_303 (vwz_5 ⟨by omega, by omega⟩) (fun h303 => ?_) (fun h303 => ?_)
        ·
          refine w2 (0) vi126_310 (by decide) ?_
          refine c_mark vi126_311 hI hw hc0 hp (by omega) (by omega) (by omega) (by omega) (by omega) (by omega) (by omega) (by omega) rfl (fun x311 σ4 hI4 => ?_)
          refine w39 vi126_314 rfl ?_
          refine w5 vi126_315 ?_
          refine w43 vi126_543 vm126.2.2.2 ?_
          exact hQ σ4 hI4
        ·
          refine w2 (1) vi126_306 (by decide) ?_
          refine w5 vi126_307 ?_
          refine c_mark vi126_311 hI hw hc0 hp (by omega) (by omega) (by omega) (by omega) (by omega) (by omega) (by omega) (by omega) rfl (fun x311 σ5 hI5 => ?_)
          refine w39 vi126_314 rfl ?_
          refine w5 vi126_315 ?_
          refine w43 vi126_543 vm126.2.2.2 ?_
          exact hQ σ5 hI5
  · rw [e]
    refine w0 vi126_318 rfl rfl ?_
    refine w7 vi126_320 (vwz_0 ⟨by omega, by omega⟩) (fun h320 => ?_) (fun h320 => ?_)
    ·
      refine w43 vi126_543 vm126.2.2.2 ?_
      exact hQ σ hI
    ·
      refine w1 vi126_323 rfl rfl ?_
      refine w0 vi126_324 rfl rfl ?_
      refine c_undoable vi126_325 hw hc0 hp rfl ?_
      refine w7 vi126_328 (vwz_5 ⟨by omega, by omega⟩) (fun h328 => ?_) (fun h328 => ?_)
      ·
        refine w43 vi126_543 vm126.2.2.2 ?_
        exact hQ σ hI
      ·
        refine w1 vi126_331 rfl rfl ?_
        refine w0 vi126_332 rfl rfl ?_
        refine c_undo vi126_333 hI hw hc0 hp (by omega) (by omega) rfl (fun x333 σ6 hI6 => ?_)
        refine w39 vi126_336 rfl ?_
        refine w5 vi126_337 ?_
        refine w43 vi126_543 vm126.2.2.2 ?_
        exact hQ σ6 hI6
  · rw [e]
    refine w0 vi126_340 rfl rfl ?_
    refine w7 vi126_342 (vwz_0 ⟨by omega, by omega⟩) (fun h342 => ?_) (fun h342 => ?_)
    ·
      refine w43 vi126_543 vm126.2.2.2 ?_
      exact hQ σ hI
    ·
      refine w1 vi126_345 rfl rfl ?_
      refine w0 vi126_346 rfl rfl ?_
      refine c_redoable vi126_347 hw hc0 hp rfl ?_
      refine w7 vi126_350 (vwz_5 ⟨by omega, by omega⟩) (fun h350 => ?_) (fun h350 => ?_)
      ·
        refine w43 vi126_543 vm126.2.2.2 ?_
        exact hQ σ hI
      ·
        refine w1 vi126_353 rfl rfl ?_
        refine w0 vi126_354 rfl rfl ?_
        refine c_redo vi126_355 hI hw hc0 hp (by omega) (by omega) rfl (fun x355 σ7 hI7 => ?_)
        refine w39 vi126_358 rfl ?_
        refine w5 vi126_359 ?_
        refine w43 vi126_543 vm126.2.2.2 ?_
        exact hQ σ7 hI7
  · rw [e]
    refine w1 vi126_362 rfl rfl ?_
    refine w0 vi126_363 rfl rfl ?_
    refine w0 vi126_364 rfl rfl ?_
    refine c_moveCaret vi126_366 hI hw hc0 hp (by omega) (by omega) rfl (fun x366 σ8 hI8 => ?_)
    refine w39 vi126_369 rfl ?_
    refine w5 vi126_370 ?_
    refine w43 vi126_543 vm126.2.2.2 ?_
    exact hQ σ8 hI8
  · rw [e]
    refine w0 vi126_373 rfl rfl ?_
    refine w0 vi126_374 rfl rfl ?_
    refine w8 vi126_376 (vwc_0 ⟨by omega, by omega⟩ ⟨by omega, by omega⟩) (fun h376 => ?_) (fun h376 => ?_)
    ·
      refine w43 vi126_543 vm126.2.2.2 ?_
      exact hQ σ hI
    ·
      refine w1 vi126_379 rfl rfl ?_
      refine w0 vi126_380 rfl rfl ?_
      refine w0 vi126_381 rfl rfl ?_
      refine c_areCut vi126_383 hw hc0 hp ho ho0 hop (by omega) rfl (fun hb => ?_) (fun hb => ?_)
      ·
        refine w7 vi126_386 (vwz_1 ⟨by omega, by omega⟩) (fun h386 => ?_) (fun h386 => by exfalso; omega)
        refine w43 vi126_543 vm126.2.2.2 ?_
        exact hQ σ hI
      ·
        refine w7 vi126_386 (vwz_1 ⟨by omega, by omega⟩) (fun h386 => by exfalso; omega) (fun h386 => ?_)
        refine w1 vi126_389 rfl rfl ?_
        refine w0 vi126_390 rfl rfl ?_
        refine w0 vi126_391 rfl rfl ?_
        refine c_inChannel vi126_393 hw hc0 hp ho ho0 hop (by omega) rfl ?_
        refine w7 vi126_396 (vwz_5 ⟨by omega, by omega⟩) (fun h396 => ?_) (fun h396 => ?_)
        ·
          refine w43 vi126_543 vm126.2.2.2 ?_
          exact hQ σ hI
        ·
          refine w1 vi126_399 rfl rfl ?_
          refine w0 vi126_400 rfl rfl ?_
          refine w0 vi126_401 rfl rfl ?_
          refine w0 vi126_403 rfl rfl ?_
          refine w2 (7) vi126_404 (by decide) ?_
          refine r_shr vi126_406 (fun s406 _ _ => ?_)
          refine w1 vi126_407 rfl rfl ?_
          refine w0 vi126_408 rfl rfl ?_
          refine w0 vi126_409 rfl rfl ?_
          refine c_inChannel vi126_411 hw hc0 hp ho ho0 hop (by omega) rfl ?_
          refine c_below vi126_414 (by first | omega | exact ve_ix_le _ | exact vk_lat_le _ _ _ _ | assumption) (by first | omega | exact ve_ix_le _ | exact vk_lat_le _ _ _ _ | assumption) rfl (fun z414 _ _ => ?_)
          refine c_deliver vi126_417 hI hw hc0 hp ho ho0 hop (by omega) (by omega) (by omega) hb rfl (fun x417 σ9 hI9 => ?_)
          refine w39 vi126_420 rfl ?_
          refine w5 vi126_421 ?_
          refine w43 vi126_543 vm126.2.2.2 ?_
          exact hQ σ9 hI9
  · rw [e]
    refine w0 vi126_424 rfl rfl ?_
    refine w0 vi126_425 rfl rfl ?_
    refine w8 vi126_427 (vwc_0 ⟨by omega, by omega⟩ ⟨by omega, by omega⟩) (fun h427 => ?_) (fun h427 => ?_)
    ·
      refine w43 vi126_543 vm126.2.2.2 ?_
      exact hQ σ hI
    ·
      refine w1 vi126_430 rfl rfl ?_
      refine w0 vi126_431 rfl rfl ?_
      refine w0 vi126_432 rfl rfl ?_
      refine c_inChannel vi126_434 hw hc0 hp ho ho0 hop (by omega) rfl ?_
      refine w7 vi126_437 (vwz_5 ⟨by omega, by omega⟩) (fun h437 => ?_) (fun h437 => ?_)
      ·
        refine w43 vi126_543 vm126.2.2.2 ?_
        exact hQ σ hI
      ·
        refine w1 vi126_440 rfl rfl ?_
        refine w0 vi126_441 rfl rfl ?_
        refine w0 vi126_442 rfl rfl ?_
        refine w0 vi126_444 rfl rfl ?_
        refine w2 (7) vi126_445 (by decide) ?_
        refine r_shr vi126_447 (fun s447 _ _ => ?_)
        refine w1 vi126_448 rfl rfl ?_
        refine w0 vi126_449 rfl rfl ?_
        refine w0 vi126_450 rfl rfl ?_
        refine c_inChannel vi126_452 hw hc0 hp ho ho0 hop (by omega) rfl ?_
        refine c_below vi126_455 (by first | omega | exact ve_ix_le _ | exact vk_lat_le _ _ _ _ | assumption) (by first | omega | exact ve_ix_le _ | exact vk_lat_le _ _ _ _ | assumption) rfl (fun z455 _ _ => ?_)
        refine c_lose vi126_458 hI hw hc0 hp ho ho0 hop (by omega) (by omega) (by omega) rfl (fun x458 σ10 hI10 => ?_)
        refine w39 vi126_461 rfl ?_
        refine w5 vi126_462 ?_
        refine w43 vi126_543 vm126.2.2.2 ?_
        exact hQ σ10 hI10
  · rw [e]
    refine w0 vi126_465 rfl rfl ?_
    refine w0 vi126_466 rfl rfl ?_
    refine w8 vi126_468 (vwc_0 ⟨by omega, by omega⟩ ⟨by omega, by omega⟩) (fun h468 => ?_) (fun h468 => ?_)
    ·
      refine w43 vi126_543 vm126.2.2.2 ?_
      exact hQ σ hI
    ·
      refine w1 vi126_471 rfl rfl ?_
      refine w0 vi126_472 rfl rfl ?_
      refine w0 vi126_473 rfl rfl ?_
      refine c_cut vi126_475 hI hw hc0 hp ho ho0 hop (by omega) rfl (fun _ σ1 hI1 => ?_) (fun _ σ1 hI1 _ _ _ => ?_)
      ·
        refine w39 vi126_478 rfl ?_
        refine w5 vi126_479 ?_
        refine w43 vi126_543 vm126.2.2.2 ?_
        exact hQ σ1 hI1
      ·
        refine w39 vi126_478 rfl ?_
        refine w5 vi126_479 ?_
        refine w43 vi126_543 vm126.2.2.2 ?_
        exact hQ σ1 hI1
  · rw [e]
    refine w0 vi126_482 rfl rfl ?_
    refine w2 (7) vi126_483 (by decide) ?_
    refine r_shr vi126_485 (fun s485 _ _ => ?_)
    refine w2 (3) vi126_486 (by decide) ?_
    refine c_below vi126_487 (by first | omega | exact ve_ix_le _ | exact vk_lat_le _ _ _ _ | assumption) (by first | omega | exact ve_ix_le _ | exact vk_lat_le _ _ _ _ | assumption) rfl (fun z487 _ _ => ?_)
    refine w7 vi126_490 (vwz_5 ⟨by omega, by omega⟩) (fun h490 => ?_) (fun h490 => ?_)
    ·
      refine w0 vi126_511 rfl rfl ?_
      refine w2 (7) vi126_512 (by decide) ?_
      refine r_shr vi126_514 (fun s514 _ _ => ?_)
      refine w2 (9) vi126_515 (by decide) ?_
      refine c_below vi126_517 (by first | omega | exact ve_ix_le _ | exact vk_lat_le _ _ _ _ | assumption) (by first | omega | exact ve_ix_le _ | exact vk_lat_le _ _ _ _ | assumption) rfl (fun z517 _ _ => ?_)
      refine w7 vi126_520 (vwz_1 ⟨by omega, by omega⟩) (fun h520 => ?_) (fun h520 => ?_)
      ·
        refine w43 vi126_543 vm126.2.2.2 ?_
        exact hQ σ hI
      ·
        refine w1 vi126_523 rfl rfl ?_
        refine c_writersR (z := (σ.2 0 0)) vi126_524 rfl rfl ?_
        refine w2 (2) vi126_527 (by decide) ?_
        refine w8 vi126_528 (vwc_5 ⟨by omega, by omega⟩ ⟨by omega, by omega⟩) (fun h528 => ?_) (fun h528 => ?_)
        ·
          refine w43 vi126_543 vm126.2.2.2 ?_
          exact hQ σ hI
        ·
          refine w0 vi126_531 rfl rfl ?_
          refine w0 vi126_532 rfl rfl ?_
          refine w8 vi126_534 (vwc_0 ⟨by omega, by omega⟩ ⟨by omega, by omega⟩) (fun h534 => ?_) (fun h534 => ?_)
          ·
            refine w43 vi126_543 vm126.2.2.2 ?_
            exact hQ σ hI
          ·
            refine w1 vi126_537 rfl rfl ?_
            refine w0 vi126_538 rfl rfl ?_
            refine c_leave vi126_539 hI hw hc0 hp ho ho0 hop (by omega) rfl (fun x539 σ11 hI11 => ?_)
            refine w39 vi126_542 rfl ?_
            refine w43 vi126_543 vm126.2.2.2 ?_
            exact hQ σ11 hI11
    ·
      refine w1 vi126_493 rfl rfl ?_
      refine c_writersR (z := (σ.2 0 0)) vi126_494 rfl rfl ?_
      refine w2 (6) vi126_497 (by decide) ?_
      refine w8 vi126_499 (vwc_3 ⟨by omega, by omega⟩ ⟨by omega, by omega⟩) (fun h499 => ?_) (fun h499 => ?_)
      ·
        refine w43 vi126_543 vm126.2.2.2 ?_
        exact hQ σ hI
      ·
        refine w1 vi126_502 rfl rfl ?_
        refine w0 vi126_503 rfl rfl ?_
        refine c_join vi126_504 hI hw hc0 hp (by omega) rfl (fun x504 σ12 hI12 => ?_)
        refine w39 vi126_507 rfl ?_
        refine w5 vi126_508 ?_
        refine w43 vi126_543 vm126.2.2.2 ?_
        exact hQ σ12 hI12
theorem m_act (hI : vI σ) {x y : Int} (hQ : ∀ σ', vI σ' → Q [] σ') : vW vw_rep L xs (126, 0, [some (.ref 8), some (.int (jI (x))), some (.int (jI (y))), none, none, none, none, none], []) σ Q := by
  have hnn := hI.1.1.1
  have hc := hI.1.1.2.1
  obtain ⟨cm, hcm⟩ : ∃ cm : Nat, σ.2 0 0 = (cm : Int) := ⟨(σ.2 0 0).toNat, by omega⟩
  have h1 : 1 ≤ cm := by omega
  have h6 : cm ≤ 6 := by omega
  have hex : ∃ i : Nat, i < cm ∧ σ.2 2 i = 1 := by
    obtain ⟨i, hi, hp⟩ := hI.1.2.2.2.1.2
    have := hI.1.2.2.2.1.1 i hi hp
    exact ⟨i, by omega, hp⟩
  refine w1 vi126_0 rfl rfl ?_
  refine w0 vi126_1 rfl rfl ?_
  refine c_writer vi126_2 hcm h1 h6 hex rfl (fun w wc wp => ?_)
  refine w3 (lc' := [some (.ref 8), some (.int (jI (x))), some (.int (jI (y))), some (.int (jI ((w : Int)))), none, none, none, none]) vi126_5 rfl rfl ?_
  refine w1 vi126_6 rfl rfl ?_
  refine w0 vi126_7 rfl rfl ?_
  refine c_writer vi126_8 hcm h1 h6 hex rfl (fun o oc op => ?_)
  refine w3 (lc' := [some (.ref 8), some (.int (jI (x))), some (.int (jI (y))), some (.int (jI ((w : Int)))), some (.int (jI ((o : Int)))), none, none, none]) vi126_11 rfl rfl ?_
  refine w1 vi126_13 rfl rfl ?_
  refine w0 vi126_14 rfl rfl ?_
  have hv := (vx_ok hI w).2.2.2
  refine c_length vi126_15 (by omega) (by omega) wp hnn.1 hnn.2 rfl (fun σ1 s1 => ?_)
  refine w3 (lc' := [some (.ref 8), some (.int (jI (x))), some (.int (jI (y))), some (.int (jI ((w : Int)))), some (.int (jI ((o : Int)))), some (.int (jI (((vx σ w 16).length : Int)))), none, none]) vi126_18 rfl rfl ?_
  refine w0 vi126_20 rfl rfl ?_
  refine w2 (3) vi126_21 (by decide) ?_
  refine r_shr vi126_22 (fun s22 _ _ => ?_)
  refine w0 vi126_23 rfl rfl ?_
  refine w2 (1) vi126_25 (by decide) ?_
  refine w9 vi126_26 ?_
  refine c_below vi126_27 (by first | omega | exact ve_ix_le _ | exact vk_lat_le _ _ _ _ | assumption) (by first | omega | exact ve_ix_le _ | exact vk_lat_le _ _ _ _ | assumption) rfl (fun z27 _ _ => ?_)
  refine w3 (lc' := [some (.ref 8), some (.int (jI (x))), some (.int (jI (y))), some (.int (jI ((w : Int)))), some (.int (jI ((o : Int)))), some (.int (jI (((vx σ w 16).length : Int)))), some (.int (jI (z27))), none]) vi126_30 rfl rfl ?_
  refine w1 vi126_32 rfl rfl ?_
  refine c_deeds vi126_33 rfl ?_
  rw [s1.1]
  refine w2 (110) vi126_36 (by decide) ?_
  refine w8 vi126_38 (vwc_3 ⟨by omega, by omega⟩ ⟨by omega, by omega⟩) (fun h38 => ?_) (fun h38 => ?_)
  ·
    refine w2 (0) vi126_45 (by decide) ?_
    refine w3 (lc' := [some (.ref 8), some (.int (jI (x))), some (.int (jI (y))), some (.int (jI ((w : Int)))), some (.int (jI ((o : Int)))), some (.int (jI (((vx σ w 16).length : Int)))), some (.int (jI (z27))), some (.int (jI (0)))]) vi126_46 rfl rfl ?_
    exact m_act_sw (σ := σ1) (w := w) (o := o) (vI_same hI s1) (by omega) (by rw [s1.1]; omega) (by rw [s1.1]; exact wp) (by omega) (by rw [s1.1]; omega) (by rw [s1.1]; exact op) (by rw [vx_same s1]) (by omega) (by omega) (by omega) (by omega) (by rw [s1.1]; omega) hQ
  ·
    refine w2 (1) vi126_41 (by decide) ?_
    refine w5 vi126_42 ?_
    refine w3 (lc' := [some (.ref 8), some (.int (jI (x))), some (.int (jI (y))), some (.int (jI ((w : Int)))), some (.int (jI ((o : Int)))), some (.int (jI (((vx σ w 16).length : Int)))), some (.int (jI (z27))), some (.int (jI (1)))]) vi126_46 rfl rfl ?_
    exact m_act_sw (σ := σ1) (w := w) (o := o) (vI_same hI s1) (by omega) (by rw [s1.1]; omega) (by rw [s1.1]; exact wp) (by omega) (by rw [s1.1]; omega) (by rw [s1.1]; exact op) (by rw [vx_same s1]) (by omega) (by omega) (by omega) (by omega) (by rw [s1.1]; omega) hQ
theorem c_act (hc : vt_code k pc = (29, 126, b, c)) (hI : vI σ) {x y : Int} (hs : Nat.ble (vj_cat sc) 8 = true) (hQ : ∀ σ', vI σ' → vW vw_rep L xs (k, pc + 3, lc, sc) σ' Q) : vW vw_rep L xs (k, pc, lc, .int (jI (y)) :: .int (jI (x)) :: .ref 8 :: sc) σ Q := by
  refine w29 (n := 3) (vs := [.int (jI (y)), .int (jI (x)), .ref 8]) hc vm126.2.1 rfl (by rw [vm126.2.2.1]; rfl) hs (by simp only [List.length_cons]; omega) ?_
  rw [vm126.2.2.1]
  exact m_act hI (Q := fun v σ1 => vW vw_rep L xs (k, pc + 3, lc, v ++ sc) σ1 Q) hQ
end VW25
