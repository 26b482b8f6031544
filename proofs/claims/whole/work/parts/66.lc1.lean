set_option maxRecDepth 100000 in
set_option maxHeartbeats 4000000 in
theorem lc_0 {p : Program} {l : Launch} {e : Env} {s : State} {m : MethodId} {args : Array Value} {below : List Frame} {meth : Method} {c : Code} {E : EV} {A : Nat → Prop} {Q : State → Prop} {σ : SS} {k n : Nat} {bS N : Nat} {xs : Nat → Int32} (hst : l.stackTraces = false) (C : CX p l e room_1 s m args below meth c RL cL_law 9 E A (some .boolean)) (hX : SX bS N xs s A) (hkn : k + 1 ≤ room_1.cells ∧ n + 6 ≤ room_1.slots) (i : Int) (hi : 0 ≤ i ∧ i + 5 ≤ N) (hI : INV σ) (K : ∀ σ2 : SS, INV σ2 → GG p l e room_1 s m args below meth c Q E A 9 σ2 (k + 1) (n + 6) 2912 [(0, .ref bS), (1, .ref (ea E 0)), (2, .ref (ea E 13)), (3, .ref (ea E 21)), (4, .ref (ea E 22)), (5, .int (iI i))] []) : GG p l e room_1 s m args below meth c Q E A 9 σ k n 236 [(0, .ref bS), (1, .ref (ea E 0)), (2, .ref (ea E 13)), (3, .ref (ea E 21)), (4, .ref (ea E 22)), (5, .int (iI i))] [] := by
  have hM := hI.1.2
  have hP := hI.1.1
  have hW := hM.1
  have hH := hI.2.2.1.2.1
  have hK5 := hI.2.2.1.1
  have hN9 := hX.2.2.2
  have hkn0 : k ≤ room_1.cells ∧ n ≤ room_1.slots := ⟨Nat.le_of_succ_le hkn.1, Nat.le_trans (Nat.le_add_right n 6) hkn.2⟩
  obtain ⟨r, hs_r⟩ : ∃ v, scr xs (i + 1) = v := ⟨_, rfl⟩
  have hr_r := scr_rg xs (i + 1)
  rw [hs_r] at hr_r
  obtain ⟨b, hs_b⟩ : ∃ v, scr xs (i + 2) = v := ⟨_, rfl⟩
  have hr_b := scr_rg xs (i + 2)
  rw [hs_b] at hr_b
  obtain ⟨c, hs_c⟩ : ∃ v, scr xs (i + 3) = v := ⟨_, rfl⟩
  have hr_c := scr_rg xs (i + 3)
  rw [hs_c] at hr_c
  have hcs := FK_cs (σ 2) 0 r b c 0
  refine g_aload_n C dL_law_236 1 rfl rfl (q := 237) rfl ?_
  refine g_aload_n C dL_law_237 0 rfl rfl (q := 238) rfl ?_
  refine g_iload C dL_law_238 5 rfl (q := 240) rfl ?_
  refine g_iconst C dL_law_240 (q := 241) rfl ?_
  refine g_iadd C dL_law_241 (q := 242) rfl ?_
  refine g_scr C hX (j := i + 1) (by omega) dL_law_242 (q := 243) rfl ?_
  refine g_top (b := r) hs_r ?_
  refine g_aload_n C dL_law_243 0 rfl rfl (q := 244) rfl ?_
  refine g_iload C dL_law_244 5 rfl (q := 246) rfl ?_
  refine g_iconst C dL_law_246 (q := 247) rfl ?_
  refine g_iadd C dL_law_247 (q := 248) rfl ?_
  refine g_scr C hX (j := i + 2) (by omega) dL_law_248 (q := 249) rfl ?_
  refine g_top (b := b) hs_b ?_
  refine g_aload_n C dL_law_249 0 rfl rfl (q := 250) rfl ?_
  refine g_iload C dL_law_250 5 rfl (q := 252) rfl ?_
  refine g_iconst C dL_law_252 (q := 253) rfl ?_
  refine g_iadd C dL_law_253 (q := 254) rfl ?_
  refine g_scr C hX (j := i + 3) (by omega) dL_law_254 (q := 255) rfl ?_
  refine g_top (b := c) hs_c ?_
  refine g_aload_n C dL_law_255 3 rfl rfl (q := 256) rfl ?_
  rcases (show ((FK (σ 2) 0 r b c 0 = 0)) ∨ ((FK (σ 2) 0 r b c 0 = 1)) ∨ ((FK (σ 2) 0 r b c 0 = 2)) ∨ ((FK (σ 2) 0 r b c 0 = 3)) by omega) with hq0 | hq0 | hq0 | hq0
  · skip
    refine g_cL C (hh := th_L_append) (As := [.ref (ea E 0), .int (iI r), .int (iI b), .int (iI c), .ref (ea E 21)]) (c_L_append l hst E _ r b c  (by assumption) (by assumption) (by assumption) (by assumption) (by assumption) (by assumption)) ml_L_151 mf_L_append rfl ⟨(Nat.le_of_ble_eq_true rfl), (Nat.le_of_ble_eq_true rfl)⟩ rfl rfl rfl (Nat.le_of_ble_eq_true rfl) hkn dL_law_256 (q := 259) rfl ?_
    refine g_istore C (L' := [(6, .int (iI 0)), (0, .ref bS), (1, .ref (ea E 0)), (2, .ref (ea E 13)), (3, .ref (ea E 21)), (4, .ref (ea E 22)), (5, .int (iI i))]) dL_law_259 (by decide) rfl (q := 261) rfl ?_
    refine g_aload_n C dL_law_261 3 rfl rfl (q := 262) rfl ?_
    refine g_aload_n C dL_law_262 1 rfl rfl (q := 263) rfl ?_
    refine g_iload C dL_law_263 6 rfl (q := 265) rfl ?_
    refine g_iconst C dL_law_265 (q := 266) rfl ?_
    refine g_iadd C dL_law_266 (q := 267) rfl ?_
    refine g_scr C hX (j := i + 1) (by omega) dL_law_267 (q := 268) rfl ?_
    refine g_top (b := r) hs_r ?_
    refine g_aload_n C dL_law_268 1 rfl rfl (q := 269) rfl ?_
    refine g_iload C dL_law_269 6 rfl (q := 271) rfl ?_
    refine g_iconst C dL_law_271 (q := 272) rfl ?_
    refine g_iadd C dL_law_272 (q := 273) rfl ?_
    refine g_scr C hX (j := i + 2) (by omega) dL_law_273 (q := 274) rfl ?_
    refine g_top (b := b) hs_b ?_
    refine g_aload_n C dL_law_274 1 rfl rfl (q := 275) rfl ?_
    refine g_iload C dL_law_275 6 rfl (q := 277) rfl ?_
    refine g_iconst C dL_law_277 (q := 278) rfl ?_
    refine g_iadd C dL_law_278 (q := 279) rfl ?_
    refine g_scr C hX (j := i + 3) (by omega) dL_law_279 (q := 280) rfl ?_
    refine g_top (b := c) hs_c ?_
    refine g_cV_i C (As := [.int (iI r), .int (iI b), .int (iI c)]) (c_X5_append l E _ r b c (σ 2) (by show MS (σ 2) (σ 14); assumption) (by omega) (by omega) (by omega) (by show 0 ≤ (σ 13 5) ∧ (σ 13 5) ≤ 8; omega) (by assumption)) ml_L_156 mf_X5_append (o := 13) (ci := 5) rfl rfl rfl rfl ⟨(Nat.le_of_ble_eq_true rfl), (Nat.le_of_ble_eq_true rfl)⟩ rfl rfl rfl (Nat.le_of_ble_eq_true rfl) hkn dL_law_280 (q := 283) rfl ?_
    refine g_top (b := (σ 14) (2 + 121 * r) + 1) rfl ?_
    refine g_st (σ2 := (st (st (st (st (st (st (st (st (st σ 2 (refF (opF (σ 2) 0 r b c 0))) 3 (cpf (σ 2) (σ 3) 0 0 310)) 5 (pt (pt (σ 5) 1 (nx8 (σ 5 1))) 2 (min ((σ 5 2) + 1) 8))) 6 (cpf (cpf (σ 2) (σ 3) 0 0 310) (σ 6) 0 ((σ 5 1) * 310) 310)) 13 (pt (pt (pt (σ 13) 0 0) 5 (min ((σ 13 5) + 1) 8)) 14 ((σ 14) (2 + 121 * r) + 1))) 14 (mPut (σ 14) r ((σ 14) (2 + 121 * r)) b c)) 15 (cpf (σ 14) (σ 15) 0 0 486)) 17 (hiF (σ 17) (cpf (σ 14) (σ 15) 0 0 486) (σ 13 5))) 21 (pt (σ 21) 0 (wr (opR (σ 2) 0 r b c 0))))) ((((congrArg (fun g9 => st g9 17 (hiF (σ 17) (cpf (σ 14) (σ 15) 0 0 486) (σ 13 5))) (congrArg (fun g9 => st g9 15 (cpf (σ 14) (σ 15) 0 0 486)) (congrArg (fun g9 => st g9 14 (mPut (σ 14) r ((σ 14) (2 + 121 * r)) b c)) (st_cm (st (st (st (st σ 2 (refF (opF (σ 2) 0 r b c 0))) 3 (cpf (σ 2) (σ 3) 0 0 310)) 5 (pt (pt (σ 5) 1 (nx8 (σ 5 1))) 2 (min ((σ 5 2) + 1) 8))) 6 (cpf (cpf (σ 2) (σ 3) 0 0 310) (σ 6) 0 ((σ 5 1) * 310) 310)) (o := 21) (q := 13) (pt (σ 21) 0 (wr (opR (σ 2) 0 r b c 0))) (pt (pt (pt (σ 13) 0 0) 5 (min ((σ 13 5) + 1) 8)) 14 ((σ 14) (2 + 121 * r) + 1)) (by decide))))).trans (congrArg (fun g9 => st g9 17 (hiF (σ 17) (cpf (σ 14) (σ 15) 0 0 486) (σ 13 5))) (congrArg (fun g9 => st g9 15 (cpf (σ 14) (σ 15) 0 0 486)) (st_cm (st (st (st (st (st σ 2 (refF (opF (σ 2) 0 r b c 0))) 3 (cpf (σ 2) (σ 3) 0 0 310)) 5 (pt (pt (σ 5) 1 (nx8 (σ 5 1))) 2 (min ((σ 5 2) + 1) 8))) 6 (cpf (cpf (σ 2) (σ 3) 0 0 310) (σ 6) 0 ((σ 5 1) * 310) 310)) 13 (pt (pt (pt (σ 13) 0 0) 5 (min ((σ 13 5) + 1) 8)) 14 ((σ 14) (2 + 121 * r) + 1))) (o := 21) (q := 14) (pt (σ 21) 0 (wr (opR (σ 2) 0 r b c 0))) (mPut (σ 14) r ((σ 14) (2 + 121 * r)) b c) (by decide))))).trans (congrArg (fun g9 => st g9 17 (hiF (σ 17) (cpf (σ 14) (σ 15) 0 0 486) (σ 13 5))) (st_cm (st (st (st (st (st (st σ 2 (refF (opF (σ 2) 0 r b c 0))) 3 (cpf (σ 2) (σ 3) 0 0 310)) 5 (pt (pt (σ 5) 1 (nx8 (σ 5 1))) 2 (min ((σ 5 2) + 1) 8))) 6 (cpf (cpf (σ 2) (σ 3) 0 0 310) (σ 6) 0 ((σ 5 1) * 310) 310)) 13 (pt (pt (pt (σ 13) 0 0) 5 (min ((σ 13 5) + 1) 8)) 14 ((σ 14) (2 + 121 * r) + 1))) 14 (mPut (σ 14) r ((σ 14) (2 + 121 * r)) b c)) (o := 21) (q := 15) (pt (σ 21) 0 (wr (opR (σ 2) 0 r b c 0))) (cpf (σ 14) (σ 15) 0 0 486) (by decide)))).trans (st_cm (st (st (st (st (st (st (st σ 2 (refF (opF (σ 2) 0 r b c 0))) 3 (cpf (σ 2) (σ 3) 0 0 310)) 5 (pt (pt (σ 5) 1 (nx8 (σ 5 1))) 2 (min ((σ 5 2) + 1) 8))) 6 (cpf (cpf (σ 2) (σ 3) 0 0 310) (σ 6) 0 ((σ 5 1) * 310) 310)) 13 (pt (pt (pt (σ 13) 0 0) 5 (min ((σ 13 5) + 1) 8)) 14 ((σ 14) (2 + 121 * r) + 1))) 14 (mPut (σ 14) r ((σ 14) (2 + 121 * r)) b c)) 15 (cpf (σ 14) (σ 15) 0 0 486)) (o := 21) (q := 17) (pt (σ 21) 0 (wr (opR (σ 2) 0 r b c 0))) (hiF (σ 17) (cpf (σ 14) (σ 15) 0 0 486) (σ 13 5)) (by decide))) ?_
    refine g_istore C (L' := [(7, .int (iI ((σ 14) (2 + 121 * r) + 1))), (6, .int (iI 0)), (0, .ref bS), (1, .ref (ea E 0)), (2, .ref (ea E 13)), (3, .ref (ea E 21)), (4, .ref (ea E 22)), (5, .int (iI i))]) dL_law_283 (by decide) rfl (q := 285) rfl ?_
    refine g_aload_n C dL_law_285 4 rfl rfl (q := 286) rfl ?_
    refine g_cV_i C (As := []) (c_X5_thrown l E _) ml_L_157 mf_X5_thrown (o := 13) (ci := 5) rfl rfl rfl rfl ⟨(Nat.le_of_ble_eq_true rfl), (Nat.le_of_ble_eq_true rfl)⟩ rfl rfl rfl (Nat.le_of_ble_eq_true rfl) hkn dL_law_286 (q := 289) rfl ?_
    refine g_top (b := 0) rfl ?_
    refine g_iload C dL_law_289 1 rfl (q := 291) rfl ?_
    refine g_icmp_eq C dL_law_291 (by omega) (q2 := 296) rfl (q := 294) rfl (fun hb2 => ?_) (fun hb2 => ?_)
    · skip
      refine g_iload C dL_law_296 1 rfl (q := 298) rfl ?_
      refine g_if_ne C dL_law_298 (by omega) (q2 := 313) rfl (q := 301) rfl (fun hb3 => ?_) (fun hb3 => ?_)
      · skip
        exfalso; omega
      · skip
        refine g_aload_n C dL_law_301 5 rfl rfl (q := 302) rfl ?_
        refine g_iconst C dL_law_302 (q := 303) rfl ?_
        refine gl_21 C dL_law_303 (q := 304) rfl ?_
        refine g_topl (b := (wr (opR (σ 2) 0 r b c 0))) (show (pt (σ 21) 0 (wr (opR (σ 2) 0 r b c 0))) 0 = (wr (opR (σ 2) 0 r b c 0)) from pt_s _ _ _) ?_
        refine g_iload C dL_law_304 0 rfl (q := 306) rfl ?_
        refine g_i2lw C dL_law_306 (q := 307) rfl ?_
        refine g_lcmpE C (by exact congrArg wr (mAn_op hM (k := 0) (by omega) hq0).symm) dL_law_307 (q := 308) rfl ?_
        refine g_if_eq C dL_law_308 (by omega) (q2 := 313) rfl (q := 311) rfl (fun hb4 => ?_) (fun hb4 => ?_)
        · skip
          refine g_goto C dL_law_313 (q := 2912) rfl ?_
          refine g_sub [2, 3, 4, 5, 6, 7] (L' := [(0, .ref bS), (1, .ref (ea E 0)), (2, .ref (ea E 13)), (3, .ref (ea E 21)), (4, .ref (ea E 22)), (5, .int (iI i))]) rfl ?_
          exact K _ (by exact INV_chg hI (RW_op hM (k := 0) (by omega) hq0) rfl rfl rfl rfl rfl rfl rfl hI.2.1 hI.2.2.2)
        · skip
          exfalso; omega
    · skip
      exfalso; omega
  · skip
    refine g_cL C (hh := th_L_append) (As := [.ref (ea E 0), .int (iI r), .int (iI b), .int (iI c), .ref (ea E 21)]) (c_L_append_1 l hst E _ r b c  (by assumption) (by assumption) (by assumption) (by assumption) (by assumption)) ml_L_151 mf_L_append rfl ⟨(Nat.le_of_ble_eq_true rfl), (Nat.le_of_ble_eq_true rfl)⟩ rfl rfl rfl (Nat.le_of_ble_eq_true rfl) hkn dL_law_256 (q := 259) rfl ?_
    refine g_istore C (L' := [(6, .int (iI 1)), (0, .ref bS), (1, .ref (ea E 0)), (2, .ref (ea E 13)), (3, .ref (ea E 21)), (4, .ref (ea E 22)), (5, .int (iI i))]) dL_law_259 (by decide) rfl (q := 261) rfl ?_
    refine g_aload_n C dL_law_261 3 rfl rfl (q := 262) rfl ?_
    refine g_aload_n C dL_law_262 1 rfl rfl (q := 263) rfl ?_
    refine g_iload C dL_law_263 6 rfl (q := 265) rfl ?_
    refine g_iconst C dL_law_265 (q := 266) rfl ?_
    refine g_iadd C dL_law_266 (q := 267) rfl ?_
    refine g_scr C hX (j := i + 1) (by omega) dL_law_267 (q := 268) rfl ?_
    refine g_top (b := r) hs_r ?_
    refine g_aload_n C dL_law_268 1 rfl rfl (q := 269) rfl ?_
    refine g_iload C dL_law_269 6 rfl (q := 271) rfl ?_
    refine g_iconst C dL_law_271 (q := 272) rfl ?_
    refine g_iadd C dL_law_272 (q := 273) rfl ?_
    refine g_scr C hX (j := i + 2) (by omega) dL_law_273 (q := 274) rfl ?_
    refine g_top (b := b) hs_b ?_
    refine g_aload_n C dL_law_274 1 rfl rfl (q := 275) rfl ?_
    refine g_iload C dL_law_275 6 rfl (q := 277) rfl ?_
    refine g_iconst C dL_law_277 (q := 278) rfl ?_
    refine g_iadd C dL_law_278 (q := 279) rfl ?_
    refine g_scr C hX (j := i + 3) (by omega) dL_law_279 (q := 280) rfl ?_
    refine g_top (b := c) hs_c ?_
    refine g_cV_i C (As := [.int (iI r), .int (iI b), .int (iI c)]) (c_X5_append_1 l E _ r b c (σ 2) (by assumption) (by omega) (by omega) (by omega) (by assumption)) ml_L_156 mf_X5_append (o := 13) (ci := 5) rfl rfl rfl rfl ⟨(Nat.le_of_ble_eq_true rfl), (Nat.le_of_ble_eq_true rfl)⟩ rfl rfl rfl (Nat.le_of_ble_eq_true rfl) hkn dL_law_280 (q := 283) rfl ?_
    refine g_istore C (L' := [(7, .int (iI 0)), (6, .int (iI 1)), (0, .ref bS), (1, .ref (ea E 0)), (2, .ref (ea E 13)), (3, .ref (ea E 21)), (4, .ref (ea E 22)), (5, .int (iI i))]) dL_law_283 (by decide) rfl (q := 285) rfl ?_
    refine g_aload_n C dL_law_285 4 rfl rfl (q := 286) rfl ?_
    refine g_cV_i C (As := []) (c_X5_thrown l E _) ml_L_157 mf_X5_thrown (o := 13) (ci := 5) rfl rfl rfl rfl ⟨(Nat.le_of_ble_eq_true rfl), (Nat.le_of_ble_eq_true rfl)⟩ rfl rfl rfl (Nat.le_of_ble_eq_true rfl) hkn dL_law_286 (q := 289) rfl ?_
    refine g_top (b := 1) rfl ?_
    refine g_iload C dL_law_289 1 rfl (q := 291) rfl ?_
    refine g_icmp_eq C dL_law_291 (by omega) (q2 := 296) rfl (q := 294) rfl (fun hb5 => ?_) (fun hb5 => ?_)
    · skip
      refine g_iload C dL_law_296 1 rfl (q := 298) rfl ?_
      refine g_if_ne C dL_law_298 (by omega) (q2 := 313) rfl (q := 301) rfl (fun hb6 => ?_) (fun hb6 => ?_)
      · skip
        refine g_goto C dL_law_313 (q := 2912) rfl ?_
        refine g_sub [2, 3, 4, 5, 6, 7] (L' := [(0, .ref bS), (1, .ref (ea E 0)), (2, .ref (ea E 13)), (3, .ref (ea E 21)), (4, .ref (ea E 22)), (5, .int (iI i))]) rfl ?_
        exact K _ (by exact hI)
      · skip
        exfalso; omega
    · skip
      exfalso; omega
  · skip
    refine g_cL C (hh := th_L_append) (As := [.ref (ea E 0), .int (iI r), .int (iI b), .int (iI c), .ref (ea E 21)]) (c_L_append_2 l hst E _ r b c  (by assumption) (by assumption) (by assumption) (by assumption) (by assumption)) ml_L_151 mf_L_append rfl ⟨(Nat.le_of_ble_eq_true rfl), (Nat.le_of_ble_eq_true rfl)⟩ rfl rfl rfl (Nat.le_of_ble_eq_true rfl) hkn dL_law_256 (q := 259) rfl ?_
    refine g_istore C (L' := [(6, .int (iI 2)), (0, .ref bS), (1, .ref (ea E 0)), (2, .ref (ea E 13)), (3, .ref (ea E 21)), (4, .ref (ea E 22)), (5, .int (iI i))]) dL_law_259 (by decide) rfl (q := 261) rfl ?_
    refine g_aload_n C dL_law_261 3 rfl rfl (q := 262) rfl ?_
    refine g_aload_n C dL_law_262 1 rfl rfl (q := 263) rfl ?_
    refine g_iload C dL_law_263 6 rfl (q := 265) rfl ?_
    refine g_iconst C dL_law_265 (q := 266) rfl ?_
    refine g_iadd C dL_law_266 (q := 267) rfl ?_
    refine g_scr C hX (j := i + 1) (by omega) dL_law_267 (q := 268) rfl ?_
    refine g_top (b := r) hs_r ?_
    refine g_aload_n C dL_law_268 1 rfl rfl (q := 269) rfl ?_
    refine g_iload C dL_law_269 6 rfl (q := 271) rfl ?_
    refine g_iconst C dL_law_271 (q := 272) rfl ?_
    refine g_iadd C dL_law_272 (q := 273) rfl ?_
    refine g_scr C hX (j := i + 2) (by omega) dL_law_273 (q := 274) rfl ?_
    refine g_top (b := b) hs_b ?_
    refine g_aload_n C dL_law_274 1 rfl rfl (q := 275) rfl ?_
    refine g_iload C dL_law_275 6 rfl (q := 277) rfl ?_
    refine g_iconst C dL_law_277 (q := 278) rfl ?_
    refine g_iadd C dL_law_278 (q := 279) rfl ?_
    refine g_scr C hX (j := i + 3) (by omega) dL_law_279 (q := 280) rfl ?_
    refine g_top (b := c) hs_c ?_
    refine g_cV_i C (As := [.int (iI r), .int (iI b), .int (iI c)]) (c_X5_append_2 l E _ r b c (σ 2) (by assumption) (by omega) (by omega) (by omega) (by assumption)) ml_L_156 mf_X5_append (o := 13) (ci := 5) rfl rfl rfl rfl ⟨(Nat.le_of_ble_eq_true rfl), (Nat.le_of_ble_eq_true rfl)⟩ rfl rfl rfl (Nat.le_of_ble_eq_true rfl) hkn dL_law_280 (q := 283) rfl ?_
    refine g_istore C (L' := [(7, .int (iI 0)), (6, .int (iI 2)), (0, .ref bS), (1, .ref (ea E 0)), (2, .ref (ea E 13)), (3, .ref (ea E 21)), (4, .ref (ea E 22)), (5, .int (iI i))]) dL_law_283 (by decide) rfl (q := 285) rfl ?_
    refine g_aload_n C dL_law_285 4 rfl rfl (q := 286) rfl ?_
    refine g_cV_i C (As := []) (c_X5_thrown l E _) ml_L_157 mf_X5_thrown (o := 13) (ci := 5) rfl rfl rfl rfl ⟨(Nat.le_of_ble_eq_true rfl), (Nat.le_of_ble_eq_true rfl)⟩ rfl rfl rfl (Nat.le_of_ble_eq_true rfl) hkn dL_law_286 (q := 289) rfl ?_
    refine g_top (b := 2) rfl ?_
    refine g_iload C dL_law_289 1 rfl (q := 291) rfl ?_
    refine g_icmp_eq C dL_law_291 (by omega) (q2 := 296) rfl (q := 294) rfl (fun hb7 => ?_) (fun hb7 => ?_)
    · skip
      refine g_iload C dL_law_296 1 rfl (q := 298) rfl ?_
      refine g_if_ne C dL_law_298 (by omega) (q2 := 313) rfl (q := 301) rfl (fun hb8 => ?_) (fun hb8 => ?_)
      · skip
        refine g_goto C dL_law_313 (q := 2912) rfl ?_
        refine g_sub [2, 3, 4, 5, 6, 7] (L' := [(0, .ref bS), (1, .ref (ea E 0)), (2, .ref (ea E 13)), (3, .ref (ea E 21)), (4, .ref (ea E 22)), (5, .int (iI i))]) rfl ?_
        exact K _ (by exact hI)
      · skip
        exfalso; omega
    · skip
      exfalso; omega
  · skip
    refine g_cL C (hh := th_L_append) (As := [.ref (ea E 0), .int (iI r), .int (iI b), .int (iI c), .ref (ea E 21)]) (c_L_append_3 l hst E _ r b c  (by assumption) (by assumption) (by assumption) (by assumption) (by assumption)) ml_L_151 mf_L_append rfl ⟨(Nat.le_of_ble_eq_true rfl), (Nat.le_of_ble_eq_true rfl)⟩ rfl rfl rfl (Nat.le_of_ble_eq_true rfl) hkn dL_law_256 (q := 259) rfl ?_
    refine g_istore C (L' := [(6, .int (iI 3)), (0, .ref bS), (1, .ref (ea E 0)), (2, .ref (ea E 13)), (3, .ref (ea E 21)), (4, .ref (ea E 22)), (5, .int (iI i))]) dL_law_259 (by decide) rfl (q := 261) rfl ?_
    refine g_aload_n C dL_law_261 3 rfl rfl (q := 262) rfl ?_
    refine g_aload_n C dL_law_262 1 rfl rfl (q := 263) rfl ?_
    refine g_iload C dL_law_263 6 rfl (q := 265) rfl ?_
    refine g_iconst C dL_law_265 (q := 266) rfl ?_
    refine g_iadd C dL_law_266 (q := 267) rfl ?_
    refine g_scr C hX (j := i + 1) (by omega) dL_law_267 (q := 268) rfl ?_
    refine g_top (b := r) hs_r ?_
    refine g_aload_n C dL_law_268 1 rfl rfl (q := 269) rfl ?_
    refine g_iload C dL_law_269 6 rfl (q := 271) rfl ?_
    refine g_iconst C dL_law_271 (q := 272) rfl ?_
    refine g_iadd C dL_law_272 (q := 273) rfl ?_
    refine g_scr C hX (j := i + 2) (by omega) dL_law_273 (q := 274) rfl ?_
    refine g_top (b := b) hs_b ?_
    refine g_aload_n C dL_law_274 1 rfl rfl (q := 275) rfl ?_
    refine g_iload C dL_law_275 6 rfl (q := 277) rfl ?_
    refine g_iconst C dL_law_277 (q := 278) rfl ?_
    refine g_iadd C dL_law_278 (q := 279) rfl ?_
    refine g_scr C hX (j := i + 3) (by omega) dL_law_279 (q := 280) rfl ?_
    refine g_top (b := c) hs_c ?_
    refine g_cV_i C (As := [.int (iI r), .int (iI b), .int (iI c)]) (c_X5_append_3 l E _ r b c (σ 2) (by assumption) (by omega) (by omega) (by omega) (by assumption)) ml_L_156 mf_X5_append (o := 13) (ci := 5) rfl rfl rfl rfl ⟨(Nat.le_of_ble_eq_true rfl), (Nat.le_of_ble_eq_true rfl)⟩ rfl rfl rfl (Nat.le_of_ble_eq_true rfl) hkn dL_law_280 (q := 283) rfl ?_
    refine g_istore C (L' := [(7, .int (iI 0)), (6, .int (iI 3)), (0, .ref bS), (1, .ref (ea E 0)), (2, .ref (ea E 13)), (3, .ref (ea E 21)), (4, .ref (ea E 22)), (5, .int (iI i))]) dL_law_283 (by decide) rfl (q := 285) rfl ?_
    refine g_aload_n C dL_law_285 4 rfl rfl (q := 286) rfl ?_
    refine g_cV_i C (As := []) (c_X5_thrown l E _) ml_L_157 mf_X5_thrown (o := 13) (ci := 5) rfl rfl rfl rfl ⟨(Nat.le_of_ble_eq_true rfl), (Nat.le_of_ble_eq_true rfl)⟩ rfl rfl rfl (Nat.le_of_ble_eq_true rfl) hkn dL_law_286 (q := 289) rfl ?_
    refine g_top (b := 3) rfl ?_
    refine g_iload C dL_law_289 1 rfl (q := 291) rfl ?_
    refine g_icmp_eq C dL_law_291 (by omega) (q2 := 296) rfl (q := 294) rfl (fun hb9 => ?_) (fun hb9 => ?_)
    · skip
      refine g_iload C dL_law_296 1 rfl (q := 298) rfl ?_
      refine g_if_ne C dL_law_298 (by omega) (q2 := 313) rfl (q := 301) rfl (fun hb10 => ?_) (fun hb10 => ?_)
      · skip
        refine g_goto C dL_law_313 (q := 2912) rfl ?_
        refine g_sub [2, 3, 4, 5, 6, 7] (L' := [(0, .ref bS), (1, .ref (ea E 0)), (2, .ref (ea E 13)), (3, .ref (ea E 21)), (4, .ref (ea E 22)), (5, .int (iI i))]) rfl ?_
        exact K _ (by exact hI)
      · skip
        exfalso; omega
    · skip
      exfalso; omega
set_option maxRecDepth 100000 in
set_option maxHeartbeats 4000000 in
theorem lc_1 {p : Program} {l : Launch} {e : Env} {s : State} {m : MethodId} {args : Array Value} {below : List Frame} {meth : Method} {c : Code} {E : EV} {A : Nat → Prop} {Q : State → Prop} {σ : SS} {k n : Nat} {bS N : Nat} {xs : Nat → Int32} (hst : l.stackTraces = false) (C : CX p l e room_1 s m args below meth c RL cL_law 9 E A (some .boolean)) (hX : SX bS N xs s A) (hkn : k + 1 ≤ room_1.cells ∧ n + 6 ≤ room_1.slots) (i : Int) (hi : 0 ≤ i ∧ i + 5 ≤ N) (hI : INV σ) (K : ∀ σ2 : SS, INV σ2 → GG p l e room_1 s m args below meth c Q E A 9 σ2 (k + 1) (n + 6) 2912 [(0, .ref bS), (1, .ref (ea E 0)), (2, .ref (ea E 13)), (3, .ref (ea E 21)), (4, .ref (ea E 22)), (5, .int (iI i))] []) : GG p l e room_1 s m args below meth c Q E A 9 σ k n 316 [(0, .ref bS), (1, .ref (ea E 0)), (2, .ref (ea E 13)), (3, .ref (ea E 21)), (4, .ref (ea E 22)), (5, .int (iI i))] [] := by
  have hM := hI.1.2
  have hP := hI.1.1
  have hW := hM.1
  have hH := hI.2.2.1.2.1
  have hK5 := hI.2.2.1.1
  have hN9 := hX.2.2.2
  have hkn0 : k ≤ room_1.cells ∧ n ≤ room_1.slots := ⟨Nat.le_of_succ_le hkn.1, Nat.le_trans (Nat.le_add_right n 6) hkn.2⟩
  obtain ⟨r, hs_r⟩ : ∃ v, scr xs (i + 1) = v := ⟨_, rfl⟩
  have hr_r := scr_rg xs (i + 1)
  rw [hs_r] at hr_r
  obtain ⟨b, hs_b⟩ : ∃ v, scr xs (i + 2) = v := ⟨_, rfl⟩
  have hr_b := scr_rg xs (i + 2)
  rw [hs_b] at hr_b
  obtain ⟨c, hs_c⟩ : ∃ v, scr xs (i + 3) = v := ⟨_, rfl⟩
  have hr_c := scr_rg xs (i + 3)
  rw [hs_c] at hr_c
  obtain ⟨d, hs_d⟩ : ∃ v, scr xs (i + 4) = v := ⟨_, rfl⟩
  have hr_d := scr_rg xs (i + 4)
  rw [hs_d] at hr_d
  have hcs := FK_cs (σ 2) 1 r b c d
  refine g_aload_n C dL_law_316 1 rfl rfl (q := 317) rfl ?_
  refine g_aload_n C dL_law_317 0 rfl rfl (q := 318) rfl ?_
  refine g_iload C dL_law_318 5 rfl (q := 320) rfl ?_
  refine g_iconst C dL_law_320 (q := 321) rfl ?_
  refine g_iadd C dL_law_321 (q := 322) rfl ?_
  refine g_scr C hX (j := i + 1) (by omega) dL_law_322 (q := 323) rfl ?_
  refine g_top (b := r) hs_r ?_
  refine g_aload_n C dL_law_323 0 rfl rfl (q := 324) rfl ?_
  refine g_iload C dL_law_324 5 rfl (q := 326) rfl ?_
  refine g_iconst C dL_law_326 (q := 327) rfl ?_
  refine g_iadd C dL_law_327 (q := 328) rfl ?_
  refine g_scr C hX (j := i + 2) (by omega) dL_law_328 (q := 329) rfl ?_
  refine g_top (b := b) hs_b ?_
  refine g_aload_n C dL_law_329 0 rfl rfl (q := 330) rfl ?_
  refine g_iload C dL_law_330 5 rfl (q := 332) rfl ?_
  refine g_iconst C dL_law_332 (q := 333) rfl ?_
  refine g_iadd C dL_law_333 (q := 334) rfl ?_
  refine g_scr C hX (j := i + 3) (by omega) dL_law_334 (q := 335) rfl ?_
  refine g_top (b := c) hs_c ?_
  refine g_aload_n C dL_law_335 0 rfl rfl (q := 336) rfl ?_
  refine g_iload C dL_law_336 5 rfl (q := 338) rfl ?_
  refine g_iconst C dL_law_338 (q := 339) rfl ?_
  refine g_iadd C dL_law_339 (q := 340) rfl ?_
  refine g_scr C hX (j := i + 4) (by omega) dL_law_340 (q := 341) rfl ?_
  refine g_top (b := d) hs_d ?_
  refine g_aload_n C dL_law_341 3 rfl rfl (q := 342) rfl ?_
  rcases (show ((FK (σ 2) 1 r b c d = 0)) ∨ ((FK (σ 2) 1 r b c d = 1)) ∨ ((FK (σ 2) 1 r b c d = 2)) ∨ ((FK (σ 2) 1 r b c d = 3)) by omega) with hq0 | hq0 | hq0 | hq0
  · skip
    refine g_cL C (hh := th_L_insert) (As := [.ref (ea E 0), .int (iI r), .int (iI b), .int (iI c), .int (iI d), .ref (ea E 21)]) (c_L_insert l hst E _ r b c d  (by assumption) (by assumption) (by assumption) (by assumption) (by assumption) (by assumption) (by assumption)) ml_L_160 mf_L_insert rfl ⟨(Nat.le_of_ble_eq_true rfl), (Nat.le_of_ble_eq_true rfl)⟩ rfl rfl rfl (Nat.le_of_ble_eq_true rfl) hkn dL_law_342 (q := 345) rfl ?_
    refine g_istore C (L' := [(6, .int (iI 0)), (0, .ref bS), (1, .ref (ea E 0)), (2, .ref (ea E 13)), (3, .ref (ea E 21)), (4, .ref (ea E 22)), (5, .int (iI i))]) dL_law_345 (by decide) rfl (q := 347) rfl ?_
    refine g_aload_n C dL_law_347 3 rfl rfl (q := 348) rfl ?_
    refine g_aload_n C dL_law_348 1 rfl rfl (q := 349) rfl ?_
    refine g_iload C dL_law_349 6 rfl (q := 351) rfl ?_
    refine g_iconst C dL_law_351 (q := 352) rfl ?_
    refine g_iadd C dL_law_352 (q := 353) rfl ?_
    refine g_scr C hX (j := i + 1) (by omega) dL_law_353 (q := 354) rfl ?_
    refine g_top (b := r) hs_r ?_
    refine g_aload_n C dL_law_354 1 rfl rfl (q := 355) rfl ?_
    refine g_iload C dL_law_355 6 rfl (q := 357) rfl ?_
    refine g_iconst C dL_law_357 (q := 358) rfl ?_
    refine g_iadd C dL_law_358 (q := 359) rfl ?_
    refine g_scr C hX (j := i + 2) (by omega) dL_law_359 (q := 360) rfl ?_
    refine g_top (b := b) hs_b ?_
    refine g_aload_n C dL_law_360 1 rfl rfl (q := 361) rfl ?_
    refine g_iload C dL_law_361 6 rfl (q := 363) rfl ?_
    refine g_iconst C dL_law_363 (q := 364) rfl ?_
    refine g_iadd C dL_law_364 (q := 365) rfl ?_
    refine g_scr C hX (j := i + 3) (by omega) dL_law_365 (q := 366) rfl ?_
    refine g_top (b := c) hs_c ?_
    refine g_aload_n C dL_law_366 1 rfl rfl (q := 367) rfl ?_
    refine g_iload C dL_law_367 6 rfl (q := 369) rfl ?_
    refine g_iconst C dL_law_369 (q := 370) rfl ?_
    refine g_iadd C dL_law_370 (q := 371) rfl ?_
    refine g_scr C hX (j := i + 4) (by omega) dL_law_371 (q := 372) rfl ?_
    refine g_top (b := d) hs_d ?_
    refine g_cV_i C (As := [.int (iI r), .int (iI b), .int (iI c), .int (iI d)]) (c_X5_insert l E _ r b c d (σ 2) (by show MS (σ 2) (σ 14); assumption) (by omega) (by omega) (by omega) (by omega) (by show 0 ≤ (σ 13 5) ∧ (σ 13 5) ≤ 8; omega) (by assumption)) ml_L_163 mf_X5_insert (o := 13) (ci := 5) rfl rfl rfl rfl ⟨(Nat.le_of_ble_eq_true rfl), (Nat.le_of_ble_eq_true rfl)⟩ rfl rfl rfl (Nat.le_of_ble_eq_true rfl) hkn dL_law_372 (q := 375) rfl ?_
    refine g_top (b := (σ 14) (2 + 121 * r) + 1) rfl ?_
    refine g_st (σ2 := (st (st (st (st (st (st (st (st (st σ 2 (refF (opF (σ 2) 1 r b c d))) 3 (cpf (σ 2) (σ 3) 0 0 310)) 5 (pt (pt (σ 5) 1 (nx8 (σ 5 1))) 2 (min ((σ 5 2) + 1) 8))) 6 (cpf (cpf (σ 2) (σ 3) 0 0 310) (σ 6) 0 ((σ 5 1) * 310) 310)) 13 (pt (pt (pt (σ 13) 0 0) 5 (min ((σ 13 5) + 1) 8)) 14 ((σ 14) (2 + 121 * r) + 1))) 14 (mPut (σ 14) r b c d)) 15 (cpf (σ 14) (σ 15) 0 0 486)) 17 (hiF (σ 17) (cpf (σ 14) (σ 15) 0 0 486) (σ 13 5))) 21 (pt (σ 21) 0 (wr (opR (σ 2) 1 r b c d))))) ((((congrArg (fun g9 => st g9 17 (hiF (σ 17) (cpf (σ 14) (σ 15) 0 0 486) (σ 13 5))) (congrArg (fun g9 => st g9 15 (cpf (σ 14) (σ 15) 0 0 486)) (congrArg (fun g9 => st g9 14 (mPut (σ 14) r b c d)) (st_cm (st (st (st (st σ 2 (refF (opF (σ 2) 1 r b c d))) 3 (cpf (σ 2) (σ 3) 0 0 310)) 5 (pt (pt (σ 5) 1 (nx8 (σ 5 1))) 2 (min ((σ 5 2) + 1) 8))) 6 (cpf (cpf (σ 2) (σ 3) 0 0 310) (σ 6) 0 ((σ 5 1) * 310) 310)) (o := 21) (q := 13) (pt (σ 21) 0 (wr (opR (σ 2) 1 r b c d))) (pt (pt (pt (σ 13) 0 0) 5 (min ((σ 13 5) + 1) 8)) 14 ((σ 14) (2 + 121 * r) + 1)) (by decide))))).trans (congrArg (fun g9 => st g9 17 (hiF (σ 17) (cpf (σ 14) (σ 15) 0 0 486) (σ 13 5))) (congrArg (fun g9 => st g9 15 (cpf (σ 14) (σ 15) 0 0 486)) (st_cm (st (st (st (st (st σ 2 (refF (opF (σ 2) 1 r b c d))) 3 (cpf (σ 2) (σ 3) 0 0 310)) 5 (pt (pt (σ 5) 1 (nx8 (σ 5 1))) 2 (min ((σ 5 2) + 1) 8))) 6 (cpf (cpf (σ 2) (σ 3) 0 0 310) (σ 6) 0 ((σ 5 1) * 310) 310)) 13 (pt (pt (pt (σ 13) 0 0) 5 (min ((σ 13 5) + 1) 8)) 14 ((σ 14) (2 + 121 * r) + 1))) (o := 21) (q := 14) (pt (σ 21) 0 (wr (opR (σ 2) 1 r b c d))) (mPut (σ 14) r b c d) (by decide))))).trans (congrArg (fun g9 => st g9 17 (hiF (σ 17) (cpf (σ 14) (σ 15) 0 0 486) (σ 13 5))) (st_cm (st (st (st (st (st (st σ 2 (refF (opF (σ 2) 1 r b c d))) 3 (cpf (σ 2) (σ 3) 0 0 310)) 5 (pt (pt (σ 5) 1 (nx8 (σ 5 1))) 2 (min ((σ 5 2) + 1) 8))) 6 (cpf (cpf (σ 2) (σ 3) 0 0 310) (σ 6) 0 ((σ 5 1) * 310) 310)) 13 (pt (pt (pt (σ 13) 0 0) 5 (min ((σ 13 5) + 1) 8)) 14 ((σ 14) (2 + 121 * r) + 1))) 14 (mPut (σ 14) r b c d)) (o := 21) (q := 15) (pt (σ 21) 0 (wr (opR (σ 2) 1 r b c d))) (cpf (σ 14) (σ 15) 0 0 486) (by decide)))).trans (st_cm (st (st (st (st (st (st (st σ 2 (refF (opF (σ 2) 1 r b c d))) 3 (cpf (σ 2) (σ 3) 0 0 310)) 5 (pt (pt (σ 5) 1 (nx8 (σ 5 1))) 2 (min ((σ 5 2) + 1) 8))) 6 (cpf (cpf (σ 2) (σ 3) 0 0 310) (σ 6) 0 ((σ 5 1) * 310) 310)) 13 (pt (pt (pt (σ 13) 0 0) 5 (min ((σ 13 5) + 1) 8)) 14 ((σ 14) (2 + 121 * r) + 1))) 14 (mPut (σ 14) r b c d)) 15 (cpf (σ 14) (σ 15) 0 0 486)) (o := 21) (q := 17) (pt (σ 21) 0 (wr (opR (σ 2) 1 r b c d))) (hiF (σ 17) (cpf (σ 14) (σ 15) 0 0 486) (σ 13 5)) (by decide))) ?_
    refine g_istore C (L' := [(7, .int (iI ((σ 14) (2 + 121 * r) + 1))), (6, .int (iI 0)), (0, .ref bS), (1, .ref (ea E 0)), (2, .ref (ea E 13)), (3, .ref (ea E 21)), (4, .ref (ea E 22)), (5, .int (iI i))]) dL_law_375 (by decide) rfl (q := 377) rfl ?_
    refine g_aload_n C dL_law_377 4 rfl rfl (q := 378) rfl ?_
    refine g_cV_i C (As := []) (c_X5_thrown l E _) ml_L_157 mf_X5_thrown (o := 13) (ci := 5) rfl rfl rfl rfl ⟨(Nat.le_of_ble_eq_true rfl), (Nat.le_of_ble_eq_true rfl)⟩ rfl rfl rfl (Nat.le_of_ble_eq_true rfl) hkn dL_law_378 (q := 381) rfl ?_
    refine g_top (b := 0) rfl ?_
    refine g_iload C dL_law_381 1 rfl (q := 383) rfl ?_
    refine g_icmp_eq C dL_law_383 (by omega) (q2 := 388) rfl (q := 386) rfl (fun hb2 => ?_) (fun hb2 => ?_)
    · skip
      refine g_iload C dL_law_388 1 rfl (q := 390) rfl ?_
      refine g_if_ne C dL_law_390 (by omega) (q2 := 405) rfl (q := 393) rfl (fun hb3 => ?_) (fun hb3 => ?_)
      · skip
        exfalso; omega
      · skip
        refine g_aload_n C dL_law_393 5 rfl rfl (q := 394) rfl ?_
        refine g_iconst C dL_law_394 (q := 395) rfl ?_
        refine gl_21 C dL_law_395 (q := 396) rfl ?_
        refine g_topl (b := (wr (opR (σ 2) 1 r b c d))) (show (pt (σ 21) 0 (wr (opR (σ 2) 1 r b c d))) 0 = (wr (opR (σ 2) 1 r b c d)) from pt_s _ _ _) ?_
        refine g_iload C dL_law_396 0 rfl (q := 398) rfl ?_
        refine g_i2lw C dL_law_398 (q := 399) rfl ?_
        refine g_lcmpE C (by exact congrArg wr (mAn_op hM (k := 1) (by omega) hq0).symm) dL_law_399 (q := 400) rfl ?_
        refine g_if_eq C dL_law_400 (by omega) (q2 := 405) rfl (q := 403) rfl (fun hb4 => ?_) (fun hb4 => ?_)
        · skip
          refine g_goto C dL_law_405 (q := 2912) rfl ?_
          refine g_sub [2, 3, 4, 5, 6, 7] (L' := [(0, .ref bS), (1, .ref (ea E 0)), (2, .ref (ea E 13)), (3, .ref (ea E 21)), (4, .ref (ea E 22)), (5, .int (iI i))]) rfl ?_
          exact K _ (by exact INV_chg hI (RW_op hM (k := 1) (by omega) hq0) rfl rfl rfl rfl rfl rfl rfl hI.2.1 hI.2.2.2)
        · skip
          exfalso; omega
    · skip
      exfalso; omega
  · skip
    refine g_cL C (hh := th_L_insert) (As := [.ref (ea E 0), .int (iI r), .int (iI b), .int (iI c), .int (iI d), .ref (ea E 21)]) (c_L_insert_1 l hst E _ r b c d  (by assumption) (by assumption) (by assumption) (by assumption) (by assumption) (by assumption)) ml_L_160 mf_L_insert rfl ⟨(Nat.le_of_ble_eq_true rfl), (Nat.le_of_ble_eq_true rfl)⟩ rfl rfl rfl (Nat.le_of_ble_eq_true rfl) hkn dL_law_342 (q := 345) rfl ?_
    refine g_istore C (L' := [(6, .int (iI 1)), (0, .ref bS), (1, .ref (ea E 0)), (2, .ref (ea E 13)), (3, .ref (ea E 21)), (4, .ref (ea E 22)), (5, .int (iI i))]) dL_law_345 (by decide) rfl (q := 347) rfl ?_
    refine g_aload_n C dL_law_347 3 rfl rfl (q := 348) rfl ?_
    refine g_aload_n C dL_law_348 1 rfl rfl (q := 349) rfl ?_
    refine g_iload C dL_law_349 6 rfl (q := 351) rfl ?_
    refine g_iconst C dL_law_351 (q := 352) rfl ?_
    refine g_iadd C dL_law_352 (q := 353) rfl ?_
    refine g_scr C hX (j := i + 1) (by omega) dL_law_353 (q := 354) rfl ?_
    refine g_top (b := r) hs_r ?_
    refine g_aload_n C dL_law_354 1 rfl rfl (q := 355) rfl ?_
    refine g_iload C dL_law_355 6 rfl (q := 357) rfl ?_
    refine g_iconst C dL_law_357 (q := 358) rfl ?_
    refine g_iadd C dL_law_358 (q := 359) rfl ?_
    refine g_scr C hX (j := i + 2) (by omega) dL_law_359 (q := 360) rfl ?_
    refine g_top (b := b) hs_b ?_
    refine g_aload_n C dL_law_360 1 rfl rfl (q := 361) rfl ?_
    refine g_iload C dL_law_361 6 rfl (q := 363) rfl ?_
    refine g_iconst C dL_law_363 (q := 364) rfl ?_
    refine g_iadd C dL_law_364 (q := 365) rfl ?_
    refine g_scr C hX (j := i + 3) (by omega) dL_law_365 (q := 366) rfl ?_
    refine g_top (b := c) hs_c ?_
    refine g_aload_n C dL_law_366 1 rfl rfl (q := 367) rfl ?_
    refine g_iload C dL_law_367 6 rfl (q := 369) rfl ?_
    refine g_iconst C dL_law_369 (q := 370) rfl ?_
    refine g_iadd C dL_law_370 (q := 371) rfl ?_
    refine g_scr C hX (j := i + 4) (by omega) dL_law_371 (q := 372) rfl ?_
    refine g_top (b := d) hs_d ?_
    refine g_cV_i C (As := [.int (iI r), .int (iI b), .int (iI c), .int (iI d)]) (c_X5_insert_1 l E _ r b c d (σ 2) (by assumption) (by omega) (by omega) (by omega) (by omega) (by assumption)) ml_L_163 mf_X5_insert (o := 13) (ci := 5) rfl rfl rfl rfl ⟨(Nat.le_of_ble_eq_true rfl), (Nat.le_of_ble_eq_true rfl)⟩ rfl rfl rfl (Nat.le_of_ble_eq_true rfl) hkn dL_law_372 (q := 375) rfl ?_
    refine g_istore C (L' := [(7, .int (iI 0)), (6, .int (iI 1)), (0, .ref bS), (1, .ref (ea E 0)), (2, .ref (ea E 13)), (3, .ref (ea E 21)), (4, .ref (ea E 22)), (5, .int (iI i))]) dL_law_375 (by decide) rfl (q := 377) rfl ?_
    refine g_aload_n C dL_law_377 4 rfl rfl (q := 378) rfl ?_
    refine g_cV_i C (As := []) (c_X5_thrown l E _) ml_L_157 mf_X5_thrown (o := 13) (ci := 5) rfl rfl rfl rfl ⟨(Nat.le_of_ble_eq_true rfl), (Nat.le_of_ble_eq_true rfl)⟩ rfl rfl rfl (Nat.le_of_ble_eq_true rfl) hkn dL_law_378 (q := 381) rfl ?_
    refine g_top (b := 1) rfl ?_
    refine g_iload C dL_law_381 1 rfl (q := 383) rfl ?_
    refine g_icmp_eq C dL_law_383 (by omega) (q2 := 388) rfl (q := 386) rfl (fun hb5 => ?_) (fun hb5 => ?_)
    · skip
      refine g_iload C dL_law_388 1 rfl (q := 390) rfl ?_
      refine g_if_ne C dL_law_390 (by omega) (q2 := 405) rfl (q := 393) rfl (fun hb6 => ?_) (fun hb6 => ?_)
      · skip
        refine g_goto C dL_law_405 (q := 2912) rfl ?_
        refine g_sub [2, 3, 4, 5, 6, 7] (L' := [(0, .ref bS), (1, .ref (ea E 0)), (2, .ref (ea E 13)), (3, .ref (ea E 21)), (4, .ref (ea E 22)), (5, .int (iI i))]) rfl ?_
        exact K _ (by exact hI)
      · skip
        exfalso; omega
    · skip
      exfalso; omega
  · skip
    refine g_cL C (hh := th_L_insert) (As := [.ref (ea E 0), .int (iI r), .int (iI b), .int (iI c), .int (iI d), .ref (ea E 21)]) (c_L_insert_2 l hst E _ r b c d  (by assumption) (by assumption) (by assumption) (by assumption) (by assumption) (by assumption)) ml_L_160 mf_L_insert rfl ⟨(Nat.le_of_ble_eq_true rfl), (Nat.le_of_ble_eq_true rfl)⟩ rfl rfl rfl (Nat.le_of_ble_eq_true rfl) hkn dL_law_342 (q := 345) rfl ?_
    refine g_istore C (L' := [(6, .int (iI 2)), (0, .ref bS), (1, .ref (ea E 0)), (2, .ref (ea E 13)), (3, .ref (ea E 21)), (4, .ref (ea E 22)), (5, .int (iI i))]) dL_law_345 (by decide) rfl (q := 347) rfl ?_
    refine g_aload_n C dL_law_347 3 rfl rfl (q := 348) rfl ?_
    refine g_aload_n C dL_law_348 1 rfl rfl (q := 349) rfl ?_
    refine g_iload C dL_law_349 6 rfl (q := 351) rfl ?_
    refine g_iconst C dL_law_351 (q := 352) rfl ?_
    refine g_iadd C dL_law_352 (q := 353) rfl ?_
    refine g_scr C hX (j := i + 1) (by omega) dL_law_353 (q := 354) rfl ?_
    refine g_top (b := r) hs_r ?_
    refine g_aload_n C dL_law_354 1 rfl rfl (q := 355) rfl ?_
    refine g_iload C dL_law_355 6 rfl (q := 357) rfl ?_
    refine g_iconst C dL_law_357 (q := 358) rfl ?_
    refine g_iadd C dL_law_358 (q := 359) rfl ?_
    refine g_scr C hX (j := i + 2) (by omega) dL_law_359 (q := 360) rfl ?_
    refine g_top (b := b) hs_b ?_
    refine g_aload_n C dL_law_360 1 rfl rfl (q := 361) rfl ?_
    refine g_iload C dL_law_361 6 rfl (q := 363) rfl ?_
    refine g_iconst C dL_law_363 (q := 364) rfl ?_
    refine g_iadd C dL_law_364 (q := 365) rfl ?_
    refine g_scr C hX (j := i + 3) (by omega) dL_law_365 (q := 366) rfl ?_
    refine g_top (b := c) hs_c ?_
    refine g_aload_n C dL_law_366 1 rfl rfl (q := 367) rfl ?_
    refine g_iload C dL_law_367 6 rfl (q := 369) rfl ?_
    refine g_iconst C dL_law_369 (q := 370) rfl ?_
    refine g_iadd C dL_law_370 (q := 371) rfl ?_
    refine g_scr C hX (j := i + 4) (by omega) dL_law_371 (q := 372) rfl ?_
    refine g_top (b := d) hs_d ?_
    refine g_cV_i C (As := [.int (iI r), .int (iI b), .int (iI c), .int (iI d)]) (c_X5_insert_2 l E _ r b c d (σ 2) (by assumption) (by omega) (by omega) (by omega) (by omega) (by assumption)) ml_L_163 mf_X5_insert (o := 13) (ci := 5) rfl rfl rfl rfl ⟨(Nat.le_of_ble_eq_true rfl), (Nat.le_of_ble_eq_true rfl)⟩ rfl rfl rfl (Nat.le_of_ble_eq_true rfl) hkn dL_law_372 (q := 375) rfl ?_
    refine g_istore C (L' := [(7, .int (iI 0)), (6, .int (iI 2)), (0, .ref bS), (1, .ref (ea E 0)), (2, .ref (ea E 13)), (3, .ref (ea E 21)), (4, .ref (ea E 22)), (5, .int (iI i))]) dL_law_375 (by decide) rfl (q := 377) rfl ?_
    refine g_aload_n C dL_law_377 4 rfl rfl (q := 378) rfl ?_
    refine g_cV_i C (As := []) (c_X5_thrown l E _) ml_L_157 mf_X5_thrown (o := 13) (ci := 5) rfl rfl rfl rfl ⟨(Nat.le_of_ble_eq_true rfl), (Nat.le_of_ble_eq_true rfl)⟩ rfl rfl rfl (Nat.le_of_ble_eq_true rfl) hkn dL_law_378 (q := 381) rfl ?_
    refine g_top (b := 2) rfl ?_
    refine g_iload C dL_law_381 1 rfl (q := 383) rfl ?_
    refine g_icmp_eq C dL_law_383 (by omega) (q2 := 388) rfl (q := 386) rfl (fun hb7 => ?_) (fun hb7 => ?_)
    · skip
      refine g_iload C dL_law_388 1 rfl (q := 390) rfl ?_
      refine g_if_ne C dL_law_390 (by omega) (q2 := 405) rfl (q := 393) rfl (fun hb8 => ?_) (fun hb8 => ?_)
      · skip
        refine g_goto C dL_law_405 (q := 2912) rfl ?_
        refine g_sub [2, 3, 4, 5, 6, 7] (L' := [(0, .ref bS), (1, .ref (ea E 0)), (2, .ref (ea E 13)), (3, .ref (ea E 21)), (4, .ref (ea E 22)), (5, .int (iI i))]) rfl ?_
        exact K _ (by exact hI)
      · skip
        exfalso; omega
    · skip
      exfalso; omega
  · skip
    refine g_cL C (hh := th_L_insert) (As := [.ref (ea E 0), .int (iI r), .int (iI b), .int (iI c), .int (iI d), .ref (ea E 21)]) (c_L_insert_3 l hst E _ r b c d  (by assumption) (by assumption) (by assumption) (by assumption) (by assumption) (by assumption)) ml_L_160 mf_L_insert rfl ⟨(Nat.le_of_ble_eq_true rfl), (Nat.le_of_ble_eq_true rfl)⟩ rfl rfl rfl (Nat.le_of_ble_eq_true rfl) hkn dL_law_342 (q := 345) rfl ?_
    refine g_istore C (L' := [(6, .int (iI 3)), (0, .ref bS), (1, .ref (ea E 0)), (2, .ref (ea E 13)), (3, .ref (ea E 21)), (4, .ref (ea E 22)), (5, .int (iI i))]) dL_law_345 (by decide) rfl (q := 347) rfl ?_
    refine g_aload_n C dL_law_347 3 rfl rfl (q := 348) rfl ?_
    refine g_aload_n C dL_law_348 1 rfl rfl (q := 349) rfl ?_
    refine g_iload C dL_law_349 6 rfl (q := 351) rfl ?_
    refine g_iconst C dL_law_351 (q := 352) rfl ?_
    refine g_iadd C dL_law_352 (q := 353) rfl ?_
    refine g_scr C hX (j := i + 1) (by omega) dL_law_353 (q := 354) rfl ?_
    refine g_top (b := r) hs_r ?_
    refine g_aload_n C dL_law_354 1 rfl rfl (q := 355) rfl ?_
    refine g_iload C dL_law_355 6 rfl (q := 357) rfl ?_
    refine g_iconst C dL_law_357 (q := 358) rfl ?_
    refine g_iadd C dL_law_358 (q := 359) rfl ?_
    refine g_scr C hX (j := i + 2) (by omega) dL_law_359 (q := 360) rfl ?_
    refine g_top (b := b) hs_b ?_
    refine g_aload_n C dL_law_360 1 rfl rfl (q := 361) rfl ?_
    refine g_iload C dL_law_361 6 rfl (q := 363) rfl ?_
    refine g_iconst C dL_law_363 (q := 364) rfl ?_
    refine g_iadd C dL_law_364 (q := 365) rfl ?_
    refine g_scr C hX (j := i + 3) (by omega) dL_law_365 (q := 366) rfl ?_
    refine g_top (b := c) hs_c ?_
    refine g_aload_n C dL_law_366 1 rfl rfl (q := 367) rfl ?_
    refine g_iload C dL_law_367 6 rfl (q := 369) rfl ?_
    refine g_iconst C dL_law_369 (q := 370) rfl ?_
    refine g_iadd C dL_law_370 (q := 371) rfl ?_
    refine g_scr C hX (j := i + 4) (by omega) dL_law_371 (q := 372) rfl ?_
    refine g_top (b := d) hs_d ?_
    refine g_cV_i C (As := [.int (iI r), .int (iI b), .int (iI c), .int (iI d)]) (c_X5_insert_3 l E _ r b c d (σ 2) (by assumption) (by omega) (by omega) (by omega) (by omega) (by assumption)) ml_L_163 mf_X5_insert (o := 13) (ci := 5) rfl rfl rfl rfl ⟨(Nat.le_of_ble_eq_true rfl), (Nat.le_of_ble_eq_true rfl)⟩ rfl rfl rfl (Nat.le_of_ble_eq_true rfl) hkn dL_law_372 (q := 375) rfl ?_
    refine g_istore C (L' := [(7, .int (iI 0)), (6, .int (iI 3)), (0, .ref bS), (1, .ref (ea E 0)), (2, .ref (ea E 13)), (3, .ref (ea E 21)), (4, .ref (ea E 22)), (5, .int (iI i))]) dL_law_375 (by decide) rfl (q := 377) rfl ?_
    refine g_aload_n C dL_law_377 4 rfl rfl (q := 378) rfl ?_
    refine g_cV_i C (As := []) (c_X5_thrown l E _) ml_L_157 mf_X5_thrown (o := 13) (ci := 5) rfl rfl rfl rfl ⟨(Nat.le_of_ble_eq_true rfl), (Nat.le_of_ble_eq_true rfl)⟩ rfl rfl rfl (Nat.le_of_ble_eq_true rfl) hkn dL_law_378 (q := 381) rfl ?_
    refine g_top (b := 3) rfl ?_
    refine g_iload C dL_law_381 1 rfl (q := 383) rfl ?_
    refine g_icmp_eq C dL_law_383 (by omega) (q2 := 388) rfl (q := 386) rfl (fun hb9 => ?_) (fun hb9 => ?_)
    · skip
      refine g_iload C dL_law_388 1 rfl (q := 390) rfl ?_
      refine g_if_ne C dL_law_390 (by omega) (q2 := 405) rfl (q := 393) rfl (fun hb10 => ?_) (fun hb10 => ?_)
      · skip
        refine g_goto C dL_law_405 (q := 2912) rfl ?_
        refine g_sub [2, 3, 4, 5, 6, 7] (L' := [(0, .ref bS), (1, .ref (ea E 0)), (2, .ref (ea E 13)), (3, .ref (ea E 21)), (4, .ref (ea E 22)), (5, .int (iI i))]) rfl ?_
        exact K _ (by exact hI)
      · skip
        exfalso; omega
    · skip
      exfalso; omega
set_option maxRecDepth 100000 in
set_option maxHeartbeats 4000000 in
theorem lc_2 {p : Program} {l : Launch} {e : Env} {s : State} {m : MethodId} {args : Array Value} {below : List Frame} {meth : Method} {c : Code} {E : EV} {A : Nat → Prop} {Q : State → Prop} {σ : SS} {k n : Nat} {bS N : Nat} {xs : Nat → Int32} (hst : l.stackTraces = false) (C : CX p l e room_1 s m args below meth c RL cL_law 9 E A (some .boolean)) (hX : SX bS N xs s A) (hkn : k + 1 ≤ room_1.cells ∧ n + 6 ≤ room_1.slots) (i : Int) (hi : 0 ≤ i ∧ i + 5 ≤ N) (hI : INV σ) (K : ∀ σ2 : SS, INV σ2 → GG p l e room_1 s m args below meth c Q E A 9 σ2 (k + 1) (n + 6) 2912 [(0, .ref bS), (1, .ref (ea E 0)), (2, .ref (ea E 13)), (3, .ref (ea E 21)), (4, .ref (ea E 22)), (5, .int (iI i))] []) : GG p l e room_1 s m args below meth c Q E A 9 σ k n 408 [(0, .ref bS), (1, .ref (ea E 0)), (2, .ref (ea E 13)), (3, .ref (ea E 21)), (4, .ref (ea E 22)), (5, .int (iI i))] [] := by
  have hM := hI.1.2
  have hP := hI.1.1
  have hW := hM.1
  have hH := hI.2.2.1.2.1
  have hK5 := hI.2.2.1.1
  have hN9 := hX.2.2.2
  have hkn0 : k ≤ room_1.cells ∧ n ≤ room_1.slots := ⟨Nat.le_of_succ_le hkn.1, Nat.le_trans (Nat.le_add_right n 6) hkn.2⟩
  obtain ⟨r, hs_r⟩ : ∃ v, scr xs (i + 1) = v := ⟨_, rfl⟩
  have hr_r := scr_rg xs (i + 1)
  rw [hs_r] at hr_r
  obtain ⟨b, hs_b⟩ : ∃ v, scr xs (i + 2) = v := ⟨_, rfl⟩
  have hr_b := scr_rg xs (i + 2)
  rw [hs_b] at hr_b
  have hcs := FK_cs (σ 2) 2 r b 0 0
  refine g_aload_n C dL_law_408 1 rfl rfl (q := 409) rfl ?_
  refine g_aload_n C dL_law_409 0 rfl rfl (q := 410) rfl ?_
  refine g_iload C dL_law_410 5 rfl (q := 412) rfl ?_
  refine g_iconst C dL_law_412 (q := 413) rfl ?_
  refine g_iadd C dL_law_413 (q := 414) rfl ?_
  refine g_scr C hX (j := i + 1) (by omega) dL_law_414 (q := 415) rfl ?_
  refine g_top (b := r) hs_r ?_
  refine g_aload_n C dL_law_415 0 rfl rfl (q := 416) rfl ?_
  refine g_iload C dL_law_416 5 rfl (q := 418) rfl ?_
  refine g_iconst C dL_law_418 (q := 419) rfl ?_
  refine g_iadd C dL_law_419 (q := 420) rfl ?_
  refine g_scr C hX (j := i + 2) (by omega) dL_law_420 (q := 421) rfl ?_
  refine g_top (b := b) hs_b ?_
  refine g_aload_n C dL_law_421 3 rfl rfl (q := 422) rfl ?_
  rcases (show ((FK (σ 2) 2 r b 0 0 = 0)) ∨ ((FK (σ 2) 2 r b 0 0 = 1)) by omega) with hq0 | hq0
  · skip
    refine g_cL C (hh := th_L_remove) (As := [.ref (ea E 0), .int (iI r), .int (iI b), .ref (ea E 21)]) (c_L_remove l hst E _ r b  (by assumption) (by assumption) (by assumption) (by assumption) (by assumption)) ml_L_164 mf_L_remove rfl ⟨(Nat.le_of_ble_eq_true rfl), (Nat.le_of_ble_eq_true rfl)⟩ rfl rfl rfl (Nat.le_of_ble_eq_true rfl) hkn dL_law_422 (q := 425) rfl ?_
    refine g_istore C (L' := [(6, .int (iI 0)), (0, .ref bS), (1, .ref (ea E 0)), (2, .ref (ea E 13)), (3, .ref (ea E 21)), (4, .ref (ea E 22)), (5, .int (iI i))]) dL_law_425 (by decide) rfl (q := 427) rfl ?_
    refine g_aload_n C dL_law_427 3 rfl rfl (q := 428) rfl ?_
    refine g_aload_n C dL_law_428 1 rfl rfl (q := 429) rfl ?_
    refine g_iload C dL_law_429 6 rfl (q := 431) rfl ?_
    refine g_iconst C dL_law_431 (q := 432) rfl ?_
    refine g_iadd C dL_law_432 (q := 433) rfl ?_
    refine g_scr C hX (j := i + 1) (by omega) dL_law_433 (q := 434) rfl ?_
    refine g_top (b := r) hs_r ?_
    refine g_aload_n C dL_law_434 1 rfl rfl (q := 435) rfl ?_
    refine g_iload C dL_law_435 6 rfl (q := 437) rfl ?_
    refine g_iconst C dL_law_437 (q := 438) rfl ?_
    refine g_iadd C dL_law_438 (q := 439) rfl ?_
    refine g_scr C hX (j := i + 2) (by omega) dL_law_439 (q := 440) rfl ?_
    refine g_top (b := b) hs_b ?_
    refine g_cV_i C (As := [.int (iI r), .int (iI b)]) (c_X5_remove l E _ r b (σ 2) (by show MS (σ 2) (σ 14); assumption) (by omega) (by omega) (by show 0 ≤ (σ 13 5) ∧ (σ 13 5) ≤ 8; omega) (by assumption)) ml_L_167 mf_X5_remove (o := 13) (ci := 5) rfl rfl rfl rfl ⟨(Nat.le_of_ble_eq_true rfl), (Nat.le_of_ble_eq_true rfl)⟩ rfl rfl rfl (Nat.le_of_ble_eq_true rfl) hkn dL_law_440 (q := 443) rfl ?_
    refine g_top (b := (σ 14) (3 + 121 * r + 2 * b)) rfl ?_
    refine g_st (σ2 := (st (st (st (st (st (st (st (st (st σ 2 (refF (opF (σ 2) 2 r b 0 0))) 3 (cpf (σ 2) (σ 3) 0 0 310)) 5 (pt (pt (σ 5) 1 (nx8 (σ 5 1))) 2 (min ((σ 5 2) + 1) 8))) 6 (cpf (cpf (σ 2) (σ 3) 0 0 310) (σ 6) 0 ((σ 5 1) * 310) 310)) 13 (pt (pt (pt (σ 13) 0 0) 5 (min ((σ 13 5) + 1) 8)) 14 ((σ 14) (3 + 121 * r + 2 * b)))) 14 (mTake (σ 14) r b)) 15 (cpf (σ 14) (σ 15) 0 0 486)) 17 (hiF (σ 17) (cpf (σ 14) (σ 15) 0 0 486) (σ 13 5))) 21 (pt (σ 21) 0 (wr (opR (σ 2) 2 r b 0 0))))) ((((congrArg (fun g9 => st g9 17 (hiF (σ 17) (cpf (σ 14) (σ 15) 0 0 486) (σ 13 5))) (congrArg (fun g9 => st g9 15 (cpf (σ 14) (σ 15) 0 0 486)) (congrArg (fun g9 => st g9 14 (mTake (σ 14) r b)) (st_cm (st (st (st (st σ 2 (refF (opF (σ 2) 2 r b 0 0))) 3 (cpf (σ 2) (σ 3) 0 0 310)) 5 (pt (pt (σ 5) 1 (nx8 (σ 5 1))) 2 (min ((σ 5 2) + 1) 8))) 6 (cpf (cpf (σ 2) (σ 3) 0 0 310) (σ 6) 0 ((σ 5 1) * 310) 310)) (o := 21) (q := 13) (pt (σ 21) 0 (wr (opR (σ 2) 2 r b 0 0))) (pt (pt (pt (σ 13) 0 0) 5 (min ((σ 13 5) + 1) 8)) 14 ((σ 14) (3 + 121 * r + 2 * b))) (by decide))))).trans (congrArg (fun g9 => st g9 17 (hiF (σ 17) (cpf (σ 14) (σ 15) 0 0 486) (σ 13 5))) (congrArg (fun g9 => st g9 15 (cpf (σ 14) (σ 15) 0 0 486)) (st_cm (st (st (st (st (st σ 2 (refF (opF (σ 2) 2 r b 0 0))) 3 (cpf (σ 2) (σ 3) 0 0 310)) 5 (pt (pt (σ 5) 1 (nx8 (σ 5 1))) 2 (min ((σ 5 2) + 1) 8))) 6 (cpf (cpf (σ 2) (σ 3) 0 0 310) (σ 6) 0 ((σ 5 1) * 310) 310)) 13 (pt (pt (pt (σ 13) 0 0) 5 (min ((σ 13 5) + 1) 8)) 14 ((σ 14) (3 + 121 * r + 2 * b)))) (o := 21) (q := 14) (pt (σ 21) 0 (wr (opR (σ 2) 2 r b 0 0))) (mTake (σ 14) r b) (by decide))))).trans (congrArg (fun g9 => st g9 17 (hiF (σ 17) (cpf (σ 14) (σ 15) 0 0 486) (σ 13 5))) (st_cm (st (st (st (st (st (st σ 2 (refF (opF (σ 2) 2 r b 0 0))) 3 (cpf (σ 2) (σ 3) 0 0 310)) 5 (pt (pt (σ 5) 1 (nx8 (σ 5 1))) 2 (min ((σ 5 2) + 1) 8))) 6 (cpf (cpf (σ 2) (σ 3) 0 0 310) (σ 6) 0 ((σ 5 1) * 310) 310)) 13 (pt (pt (pt (σ 13) 0 0) 5 (min ((σ 13 5) + 1) 8)) 14 ((σ 14) (3 + 121 * r + 2 * b)))) 14 (mTake (σ 14) r b)) (o := 21) (q := 15) (pt (σ 21) 0 (wr (opR (σ 2) 2 r b 0 0))) (cpf (σ 14) (σ 15) 0 0 486) (by decide)))).trans (st_cm (st (st (st (st (st (st (st σ 2 (refF (opF (σ 2) 2 r b 0 0))) 3 (cpf (σ 2) (σ 3) 0 0 310)) 5 (pt (pt (σ 5) 1 (nx8 (σ 5 1))) 2 (min ((σ 5 2) + 1) 8))) 6 (cpf (cpf (σ 2) (σ 3) 0 0 310) (σ 6) 0 ((σ 5 1) * 310) 310)) 13 (pt (pt (pt (σ 13) 0 0) 5 (min ((σ 13 5) + 1) 8)) 14 ((σ 14) (3 + 121 * r + 2 * b)))) 14 (mTake (σ 14) r b)) 15 (cpf (σ 14) (σ 15) 0 0 486)) (o := 21) (q := 17) (pt (σ 21) 0 (wr (opR (σ 2) 2 r b 0 0))) (hiF (σ 17) (cpf (σ 14) (σ 15) 0 0 486) (σ 13 5)) (by decide))) ?_
    refine g_istore C (L' := [(7, .int (iI ((σ 14) (3 + 121 * r + 2 * b)))), (6, .int (iI 0)), (0, .ref bS), (1, .ref (ea E 0)), (2, .ref (ea E 13)), (3, .ref (ea E 21)), (4, .ref (ea E 22)), (5, .int (iI i))]) dL_law_443 (by decide) rfl (q := 445) rfl ?_
    refine g_aload_n C dL_law_445 4 rfl rfl (q := 446) rfl ?_
    refine g_cV_i C (As := []) (c_X5_thrown l E _) ml_L_157 mf_X5_thrown (o := 13) (ci := 5) rfl rfl rfl rfl ⟨(Nat.le_of_ble_eq_true rfl), (Nat.le_of_ble_eq_true rfl)⟩ rfl rfl rfl (Nat.le_of_ble_eq_true rfl) hkn dL_law_446 (q := 449) rfl ?_
    refine g_top (b := 0) rfl ?_
    refine g_iload C dL_law_449 1 rfl (q := 451) rfl ?_
    refine g_icmp_eq C dL_law_451 (by omega) (q2 := 456) rfl (q := 454) rfl (fun hb2 => ?_) (fun hb2 => ?_)
    · skip
      refine g_iload C dL_law_456 1 rfl (q := 458) rfl ?_
      refine g_if_ne C dL_law_458 (by omega) (q2 := 473) rfl (q := 461) rfl (fun hb3 => ?_) (fun hb3 => ?_)
      · skip
        exfalso; omega
      · skip
        refine g_aload_n C dL_law_461 5 rfl rfl (q := 462) rfl ?_
        refine g_iconst C dL_law_462 (q := 463) rfl ?_
        refine gl_21 C dL_law_463 (q := 464) rfl ?_
        refine g_topl (b := (wr (opR (σ 2) 2 r b 0 0))) (show (pt (σ 21) 0 (wr (opR (σ 2) 2 r b 0 0))) 0 = (wr (opR (σ 2) 2 r b 0 0)) from pt_s _ _ _) ?_
        refine g_iload C dL_law_464 0 rfl (q := 466) rfl ?_
        refine g_i2lw C dL_law_466 (q := 467) rfl ?_
        refine g_lcmpE C (by exact congrArg wr (mAn_op hM (k := 2) (by omega) hq0).symm) dL_law_467 (q := 468) rfl ?_
        refine g_if_eq C dL_law_468 (by omega) (q2 := 473) rfl (q := 471) rfl (fun hb4 => ?_) (fun hb4 => ?_)
        · skip
          refine g_goto C dL_law_473 (q := 2912) rfl ?_
          refine g_sub [2, 3, 4, 5, 6, 7] (L' := [(0, .ref bS), (1, .ref (ea E 0)), (2, .ref (ea E 13)), (3, .ref (ea E 21)), (4, .ref (ea E 22)), (5, .int (iI i))]) rfl ?_
          exact K _ (by exact INV_chg hI (RW_op hM (k := 2) (by omega) hq0) rfl rfl rfl rfl rfl rfl rfl hI.2.1 hI.2.2.2)
        · skip
          exfalso; omega
    · skip
      exfalso; omega
  · skip
    refine g_cL C (hh := th_L_remove) (As := [.ref (ea E 0), .int (iI r), .int (iI b), .ref (ea E 21)]) (c_L_remove_1 l hst E _ r b  (by assumption) (by assumption) (by assumption) (by assumption)) ml_L_164 mf_L_remove rfl ⟨(Nat.le_of_ble_eq_true rfl), (Nat.le_of_ble_eq_true rfl)⟩ rfl rfl rfl (Nat.le_of_ble_eq_true rfl) hkn dL_law_422 (q := 425) rfl ?_
    refine g_istore C (L' := [(6, .int (iI 1)), (0, .ref bS), (1, .ref (ea E 0)), (2, .ref (ea E 13)), (3, .ref (ea E 21)), (4, .ref (ea E 22)), (5, .int (iI i))]) dL_law_425 (by decide) rfl (q := 427) rfl ?_
    refine g_aload_n C dL_law_427 3 rfl rfl (q := 428) rfl ?_
    refine g_aload_n C dL_law_428 1 rfl rfl (q := 429) rfl ?_
    refine g_iload C dL_law_429 6 rfl (q := 431) rfl ?_
    refine g_iconst C dL_law_431 (q := 432) rfl ?_
    refine g_iadd C dL_law_432 (q := 433) rfl ?_
    refine g_scr C hX (j := i + 1) (by omega) dL_law_433 (q := 434) rfl ?_
    refine g_top (b := r) hs_r ?_
    refine g_aload_n C dL_law_434 1 rfl rfl (q := 435) rfl ?_
    refine g_iload C dL_law_435 6 rfl (q := 437) rfl ?_
    refine g_iconst C dL_law_437 (q := 438) rfl ?_
    refine g_iadd C dL_law_438 (q := 439) rfl ?_
    refine g_scr C hX (j := i + 2) (by omega) dL_law_439 (q := 440) rfl ?_
    refine g_top (b := b) hs_b ?_
    refine g_cV_i C (As := [.int (iI r), .int (iI b)]) (c_X5_remove_1 l E _ r b (σ 2) (by assumption) (by omega) (by omega) (by assumption)) ml_L_167 mf_X5_remove (o := 13) (ci := 5) rfl rfl rfl rfl ⟨(Nat.le_of_ble_eq_true rfl), (Nat.le_of_ble_eq_true rfl)⟩ rfl rfl rfl (Nat.le_of_ble_eq_true rfl) hkn dL_law_440 (q := 443) rfl ?_
    refine g_istore C (L' := [(7, .int (iI 0)), (6, .int (iI 1)), (0, .ref bS), (1, .ref (ea E 0)), (2, .ref (ea E 13)), (3, .ref (ea E 21)), (4, .ref (ea E 22)), (5, .int (iI i))]) dL_law_443 (by decide) rfl (q := 445) rfl ?_
    refine g_aload_n C dL_law_445 4 rfl rfl (q := 446) rfl ?_
    refine g_cV_i C (As := []) (c_X5_thrown l E _) ml_L_157 mf_X5_thrown (o := 13) (ci := 5) rfl rfl rfl rfl ⟨(Nat.le_of_ble_eq_true rfl), (Nat.le_of_ble_eq_true rfl)⟩ rfl rfl rfl (Nat.le_of_ble_eq_true rfl) hkn dL_law_446 (q := 449) rfl ?_
    refine g_top (b := 1) rfl ?_
    refine g_iload C dL_law_449 1 rfl (q := 451) rfl ?_
    refine g_icmp_eq C dL_law_451 (by omega) (q2 := 456) rfl (q := 454) rfl (fun hb5 => ?_) (fun hb5 => ?_)
    · skip
      refine g_iload C dL_law_456 1 rfl (q := 458) rfl ?_
      refine g_if_ne C dL_law_458 (by omega) (q2 := 473) rfl (q := 461) rfl (fun hb6 => ?_) (fun hb6 => ?_)
      · skip
        refine g_goto C dL_law_473 (q := 2912) rfl ?_
        refine g_sub [2, 3, 4, 5, 6, 7] (L' := [(0, .ref bS), (1, .ref (ea E 0)), (2, .ref (ea E 13)), (3, .ref (ea E 21)), (4, .ref (ea E 22)), (5, .int (iI i))]) rfl ?_
        exact K _ (by exact hI)
      · skip
        exfalso; omega
    · skip
      exfalso; omega
set_option maxRecDepth 100000 in
set_option maxHeartbeats 4000000 in
theorem lc_3 {p : Program} {l : Launch} {e : Env} {s : State} {m : MethodId} {args : Array Value} {below : List Frame} {meth : Method} {c : Code} {E : EV} {A : Nat → Prop} {Q : State → Prop} {σ : SS} {k n : Nat} {bS N : Nat} {xs : Nat → Int32} (hst : l.stackTraces = false) (C : CX p l e room_1 s m args below meth c RL cL_law 9 E A (some .boolean)) (hX : SX bS N xs s A) (hkn : k + 1 ≤ room_1.cells ∧ n + 6 ≤ room_1.slots) (i : Int) (hi : 0 ≤ i ∧ i + 5 ≤ N) (hI : INV σ) (K : ∀ σ2 : SS, INV σ2 → GG p l e room_1 s m args below meth c Q E A 9 σ2 (k + 1) (n + 6) 2912 [(0, .ref bS), (1, .ref (ea E 0)), (2, .ref (ea E 13)), (3, .ref (ea E 21)), (4, .ref (ea E 22)), (5, .int (iI i))] []) : GG p l e room_1 s m args below meth c Q E A 9 σ k n 476 [(0, .ref bS), (1, .ref (ea E 0)), (2, .ref (ea E 13)), (3, .ref (ea E 21)), (4, .ref (ea E 22)), (5, .int (iI i))] [] := by
  have hM := hI.1.2
  have hP := hI.1.1
  have hW := hM.1
  have hH := hI.2.2.1.2.1
  have hK5 := hI.2.2.1.1
  have hN9 := hX.2.2.2
  have hkn0 : k ≤ room_1.cells ∧ n ≤ room_1.slots := ⟨Nat.le_of_succ_le hkn.1, Nat.le_trans (Nat.le_add_right n 6) hkn.2⟩
  obtain ⟨r, hs_r⟩ : ∃ v, scr xs (i + 1) = v := ⟨_, rfl⟩
  have hr_r := scr_rg xs (i + 1)
  rw [hs_r] at hr_r
  obtain ⟨b, hs_b⟩ : ∃ v, scr xs (i + 2) = v := ⟨_, rfl⟩
  have hr_b := scr_rg xs (i + 2)
  rw [hs_b] at hr_b
  obtain ⟨c, hs_c⟩ : ∃ v, scr xs (i + 3) = v := ⟨_, rfl⟩
  have hr_c := scr_rg xs (i + 3)
  rw [hs_c] at hr_c
  have hcs := FK_cs (σ 2) 3 r b c 0
  refine g_aload_n C dL_law_476 1 rfl rfl (q := 477) rfl ?_
  refine g_aload_n C dL_law_477 0 rfl rfl (q := 478) rfl ?_
  refine g_iload C dL_law_478 5 rfl (q := 480) rfl ?_
  refine g_iconst C dL_law_480 (q := 481) rfl ?_
  refine g_iadd C dL_law_481 (q := 482) rfl ?_
  refine g_scr C hX (j := i + 1) (by omega) dL_law_482 (q := 483) rfl ?_
  refine g_top (b := r) hs_r ?_
  refine g_aload_n C dL_law_483 0 rfl rfl (q := 484) rfl ?_
  refine g_iload C dL_law_484 5 rfl (q := 486) rfl ?_
  refine g_iconst C dL_law_486 (q := 487) rfl ?_
  refine g_iadd C dL_law_487 (q := 488) rfl ?_
  refine g_scr C hX (j := i + 2) (by omega) dL_law_488 (q := 489) rfl ?_
  refine g_top (b := b) hs_b ?_
  refine g_aload_n C dL_law_489 0 rfl rfl (q := 490) rfl ?_
  refine g_iload C dL_law_490 5 rfl (q := 492) rfl ?_
  refine g_iconst C dL_law_492 (q := 493) rfl ?_
  refine g_iadd C dL_law_493 (q := 494) rfl ?_
  refine g_scr C hX (j := i + 3) (by omega) dL_law_494 (q := 495) rfl ?_
  refine g_top (b := c) hs_c ?_
  refine g_aload_n C dL_law_495 3 rfl rfl (q := 496) rfl ?_
  rcases (show ((FK (σ 2) 3 r b c 0 = 0)) ∨ ((FK (σ 2) 3 r b c 0 = 1)) ∨ ((FK (σ 2) 3 r b c 0 = 2)) by omega) with hq0 | hq0 | hq0
  · skip
    refine g_cL C (hh := th_L_retie) (As := [.ref (ea E 0), .int (iI r), .int (iI b), .int (iI c), .ref (ea E 21)]) (c_L_retie l hst E _ r b c  (by assumption) (by assumption) (by assumption) (by assumption) (by assumption) (by assumption)) ml_L_168 mf_L_retie rfl ⟨(Nat.le_of_ble_eq_true rfl), (Nat.le_of_ble_eq_true rfl)⟩ rfl rfl rfl (Nat.le_of_ble_eq_true rfl) hkn dL_law_496 (q := 499) rfl ?_
    refine g_istore C (L' := [(6, .int (iI 0)), (0, .ref bS), (1, .ref (ea E 0)), (2, .ref (ea E 13)), (3, .ref (ea E 21)), (4, .ref (ea E 22)), (5, .int (iI i))]) dL_law_499 (by decide) rfl (q := 501) rfl ?_
    refine g_aload_n C dL_law_501 3 rfl rfl (q := 502) rfl ?_
    refine g_aload_n C dL_law_502 1 rfl rfl (q := 503) rfl ?_
    refine g_iload C dL_law_503 6 rfl (q := 505) rfl ?_
    refine g_iconst C dL_law_505 (q := 506) rfl ?_
    refine g_iadd C dL_law_506 (q := 507) rfl ?_
    refine g_scr C hX (j := i + 1) (by omega) dL_law_507 (q := 508) rfl ?_
    refine g_top (b := r) hs_r ?_
    refine g_aload_n C dL_law_508 1 rfl rfl (q := 509) rfl ?_
    refine g_iload C dL_law_509 6 rfl (q := 511) rfl ?_
    refine g_iconst C dL_law_511 (q := 512) rfl ?_
    refine g_iadd C dL_law_512 (q := 513) rfl ?_
    refine g_scr C hX (j := i + 2) (by omega) dL_law_513 (q := 514) rfl ?_
    refine g_top (b := b) hs_b ?_
    refine g_aload_n C dL_law_514 1 rfl rfl (q := 515) rfl ?_
    refine g_iload C dL_law_515 6 rfl (q := 517) rfl ?_
    refine g_iconst C dL_law_517 (q := 518) rfl ?_
    refine g_iadd C dL_law_518 (q := 519) rfl ?_
    refine g_scr C hX (j := i + 3) (by omega) dL_law_519 (q := 520) rfl ?_
    refine g_top (b := c) hs_c ?_
    refine g_cV_i C (As := [.int (iI r), .int (iI b), .int (iI c)]) (c_X5_retie l E _ r b c (σ 2) (by show MS (σ 2) (σ 14); assumption) (by omega) (by omega) (by omega) (by show 0 ≤ (σ 13 5) ∧ (σ 13 5) ≤ 8; omega) (by assumption)) ml_L_170 mf_X5_retie (o := 13) (ci := 5) rfl rfl rfl rfl ⟨(Nat.le_of_ble_eq_true rfl), (Nat.le_of_ble_eq_true rfl)⟩ rfl rfl rfl (Nat.le_of_ble_eq_true rfl) hkn dL_law_520 (q := 523) rfl ?_
    refine g_top (b := (σ 14) (3 + 121 * r + 2 * b)) rfl ?_
    refine g_st (σ2 := (st (st (st (st (st (st (st (st (st σ 2 (refF (opF (σ 2) 3 r b c 0))) 3 (cpf (σ 2) (σ 3) 0 0 310)) 5 (pt (pt (σ 5) 1 (nx8 (σ 5 1))) 2 (min ((σ 5 2) + 1) 8))) 6 (cpf (cpf (σ 2) (σ 3) 0 0 310) (σ 6) 0 ((σ 5 1) * 310) 310)) 13 (pt (pt (pt (σ 13) 0 0) 5 (min ((σ 13 5) + 1) 8)) 14 ((σ 14) (3 + 121 * r + 2 * b)))) 14 (mS (σ 14) r b c ((σ 14) (4 + 121 * r + 2 * b)))) 15 (cpf (σ 14) (σ 15) 0 0 486)) 17 (hiF (σ 17) (cpf (σ 14) (σ 15) 0 0 486) (σ 13 5))) 21 (pt (σ 21) 0 (wr (opR (σ 2) 3 r b c 0))))) ((((congrArg (fun g9 => st g9 17 (hiF (σ 17) (cpf (σ 14) (σ 15) 0 0 486) (σ 13 5))) (congrArg (fun g9 => st g9 15 (cpf (σ 14) (σ 15) 0 0 486)) (congrArg (fun g9 => st g9 14 (mS (σ 14) r b c ((σ 14) (4 + 121 * r + 2 * b)))) (st_cm (st (st (st (st σ 2 (refF (opF (σ 2) 3 r b c 0))) 3 (cpf (σ 2) (σ 3) 0 0 310)) 5 (pt (pt (σ 5) 1 (nx8 (σ 5 1))) 2 (min ((σ 5 2) + 1) 8))) 6 (cpf (cpf (σ 2) (σ 3) 0 0 310) (σ 6) 0 ((σ 5 1) * 310) 310)) (o := 21) (q := 13) (pt (σ 21) 0 (wr (opR (σ 2) 3 r b c 0))) (pt (pt (pt (σ 13) 0 0) 5 (min ((σ 13 5) + 1) 8)) 14 ((σ 14) (3 + 121 * r + 2 * b))) (by decide))))).trans (congrArg (fun g9 => st g9 17 (hiF (σ 17) (cpf (σ 14) (σ 15) 0 0 486) (σ 13 5))) (congrArg (fun g9 => st g9 15 (cpf (σ 14) (σ 15) 0 0 486)) (st_cm (st (st (st (st (st σ 2 (refF (opF (σ 2) 3 r b c 0))) 3 (cpf (σ 2) (σ 3) 0 0 310)) 5 (pt (pt (σ 5) 1 (nx8 (σ 5 1))) 2 (min ((σ 5 2) + 1) 8))) 6 (cpf (cpf (σ 2) (σ 3) 0 0 310) (σ 6) 0 ((σ 5 1) * 310) 310)) 13 (pt (pt (pt (σ 13) 0 0) 5 (min ((σ 13 5) + 1) 8)) 14 ((σ 14) (3 + 121 * r + 2 * b)))) (o := 21) (q := 14) (pt (σ 21) 0 (wr (opR (σ 2) 3 r b c 0))) (mS (σ 14) r b c ((σ 14) (4 + 121 * r + 2 * b))) (by decide))))).trans (congrArg (fun g9 => st g9 17 (hiF (σ 17) (cpf (σ 14) (σ 15) 0 0 486) (σ 13 5))) (st_cm (st (st (st (st (st (st σ 2 (refF (opF (σ 2) 3 r b c 0))) 3 (cpf (σ 2) (σ 3) 0 0 310)) 5 (pt (pt (σ 5) 1 (nx8 (σ 5 1))) 2 (min ((σ 5 2) + 1) 8))) 6 (cpf (cpf (σ 2) (σ 3) 0 0 310) (σ 6) 0 ((σ 5 1) * 310) 310)) 13 (pt (pt (pt (σ 13) 0 0) 5 (min ((σ 13 5) + 1) 8)) 14 ((σ 14) (3 + 121 * r + 2 * b)))) 14 (mS (σ 14) r b c ((σ 14) (4 + 121 * r + 2 * b)))) (o := 21) (q := 15) (pt (σ 21) 0 (wr (opR (σ 2) 3 r b c 0))) (cpf (σ 14) (σ 15) 0 0 486) (by decide)))).trans (st_cm (st (st (st (st (st (st (st σ 2 (refF (opF (σ 2) 3 r b c 0))) 3 (cpf (σ 2) (σ 3) 0 0 310)) 5 (pt (pt (σ 5) 1 (nx8 (σ 5 1))) 2 (min ((σ 5 2) + 1) 8))) 6 (cpf (cpf (σ 2) (σ 3) 0 0 310) (σ 6) 0 ((σ 5 1) * 310) 310)) 13 (pt (pt (pt (σ 13) 0 0) 5 (min ((σ 13 5) + 1) 8)) 14 ((σ 14) (3 + 121 * r + 2 * b)))) 14 (mS (σ 14) r b c ((σ 14) (4 + 121 * r + 2 * b)))) 15 (cpf (σ 14) (σ 15) 0 0 486)) (o := 21) (q := 17) (pt (σ 21) 0 (wr (opR (σ 2) 3 r b c 0))) (hiF (σ 17) (cpf (σ 14) (σ 15) 0 0 486) (σ 13 5)) (by decide))) ?_
    refine g_istore C (L' := [(7, .int (iI ((σ 14) (3 + 121 * r + 2 * b)))), (6, .int (iI 0)), (0, .ref bS), (1, .ref (ea E 0)), (2, .ref (ea E 13)), (3, .ref (ea E 21)), (4, .ref (ea E 22)), (5, .int (iI i))]) dL_law_523 (by decide) rfl (q := 525) rfl ?_
    refine g_aload_n C dL_law_525 4 rfl rfl (q := 526) rfl ?_
    refine g_cV_i C (As := []) (c_X5_thrown l E _) ml_L_157 mf_X5_thrown (o := 13) (ci := 5) rfl rfl rfl rfl ⟨(Nat.le_of_ble_eq_true rfl), (Nat.le_of_ble_eq_true rfl)⟩ rfl rfl rfl (Nat.le_of_ble_eq_true rfl) hkn dL_law_526 (q := 529) rfl ?_
    refine g_top (b := 0) rfl ?_
    refine g_iload C dL_law_529 1 rfl (q := 531) rfl ?_
    refine g_icmp_eq C dL_law_531 (by omega) (q2 := 536) rfl (q := 534) rfl (fun hb2 => ?_) (fun hb2 => ?_)
    · skip
      refine g_iload C dL_law_536 1 rfl (q := 538) rfl ?_
      refine g_if_ne C dL_law_538 (by omega) (q2 := 553) rfl (q := 541) rfl (fun hb3 => ?_) (fun hb3 => ?_)
      · skip
        exfalso; omega
      · skip
        refine g_aload_n C dL_law_541 5 rfl rfl (q := 542) rfl ?_
        refine g_iconst C dL_law_542 (q := 543) rfl ?_
        refine gl_21 C dL_law_543 (q := 544) rfl ?_
        refine g_topl (b := (wr (opR (σ 2) 3 r b c 0))) (show (pt (σ 21) 0 (wr (opR (σ 2) 3 r b c 0))) 0 = (wr (opR (σ 2) 3 r b c 0)) from pt_s _ _ _) ?_
        refine g_iload C dL_law_544 0 rfl (q := 546) rfl ?_
        refine g_i2lw C dL_law_546 (q := 547) rfl ?_
        refine g_lcmpE C (by exact congrArg wr (mAn_op hM (k := 3) (by omega) hq0).symm) dL_law_547 (q := 548) rfl ?_
        refine g_if_eq C dL_law_548 (by omega) (q2 := 553) rfl (q := 551) rfl (fun hb4 => ?_) (fun hb4 => ?_)
        · skip
          refine g_goto C dL_law_553 (q := 2912) rfl ?_
          refine g_sub [2, 3, 4, 5, 6, 7] (L' := [(0, .ref bS), (1, .ref (ea E 0)), (2, .ref (ea E 13)), (3, .ref (ea E 21)), (4, .ref (ea E 22)), (5, .int (iI i))]) rfl ?_
          exact K _ (by exact INV_chg hI (RW_op hM (k := 3) (by omega) hq0) rfl rfl rfl rfl rfl rfl rfl hI.2.1 hI.2.2.2)
        · skip
          exfalso; omega
    · skip
      exfalso; omega
  · skip
    refine g_cL C (hh := th_L_retie) (As := [.ref (ea E 0), .int (iI r), .int (iI b), .int (iI c), .ref (ea E 21)]) (c_L_retie_1 l hst E _ r b c  (by assumption) (by assumption) (by assumption) (by assumption) (by assumption)) ml_L_168 mf_L_retie rfl ⟨(Nat.le_of_ble_eq_true rfl), (Nat.le_of_ble_eq_true rfl)⟩ rfl rfl rfl (Nat.le_of_ble_eq_true rfl) hkn dL_law_496 (q := 499) rfl ?_
    refine g_istore C (L' := [(6, .int (iI 1)), (0, .ref bS), (1, .ref (ea E 0)), (2, .ref (ea E 13)), (3, .ref (ea E 21)), (4, .ref (ea E 22)), (5, .int (iI i))]) dL_law_499 (by decide) rfl (q := 501) rfl ?_
    refine g_aload_n C dL_law_501 3 rfl rfl (q := 502) rfl ?_
    refine g_aload_n C dL_law_502 1 rfl rfl (q := 503) rfl ?_
    refine g_iload C dL_law_503 6 rfl (q := 505) rfl ?_
    refine g_iconst C dL_law_505 (q := 506) rfl ?_
    refine g_iadd C dL_law_506 (q := 507) rfl ?_
    refine g_scr C hX (j := i + 1) (by omega) dL_law_507 (q := 508) rfl ?_
    refine g_top (b := r) hs_r ?_
    refine g_aload_n C dL_law_508 1 rfl rfl (q := 509) rfl ?_
    refine g_iload C dL_law_509 6 rfl (q := 511) rfl ?_
    refine g_iconst C dL_law_511 (q := 512) rfl ?_
    refine g_iadd C dL_law_512 (q := 513) rfl ?_
    refine g_scr C hX (j := i + 2) (by omega) dL_law_513 (q := 514) rfl ?_
    refine g_top (b := b) hs_b ?_
    refine g_aload_n C dL_law_514 1 rfl rfl (q := 515) rfl ?_
    refine g_iload C dL_law_515 6 rfl (q := 517) rfl ?_
    refine g_iconst C dL_law_517 (q := 518) rfl ?_
    refine g_iadd C dL_law_518 (q := 519) rfl ?_
    refine g_scr C hX (j := i + 3) (by omega) dL_law_519 (q := 520) rfl ?_
    refine g_top (b := c) hs_c ?_
    refine g_cV_i C (As := [.int (iI r), .int (iI b), .int (iI c)]) (c_X5_retie_1 l E _ r b c (σ 2) (by assumption) (by omega) (by omega) (by omega) (by assumption)) ml_L_170 mf_X5_retie (o := 13) (ci := 5) rfl rfl rfl rfl ⟨(Nat.le_of_ble_eq_true rfl), (Nat.le_of_ble_eq_true rfl)⟩ rfl rfl rfl (Nat.le_of_ble_eq_true rfl) hkn dL_law_520 (q := 523) rfl ?_
    refine g_istore C (L' := [(7, .int (iI 0)), (6, .int (iI 1)), (0, .ref bS), (1, .ref (ea E 0)), (2, .ref (ea E 13)), (3, .ref (ea E 21)), (4, .ref (ea E 22)), (5, .int (iI i))]) dL_law_523 (by decide) rfl (q := 525) rfl ?_
    refine g_aload_n C dL_law_525 4 rfl rfl (q := 526) rfl ?_
    refine g_cV_i C (As := []) (c_X5_thrown l E _) ml_L_157 mf_X5_thrown (o := 13) (ci := 5) rfl rfl rfl rfl ⟨(Nat.le_of_ble_eq_true rfl), (Nat.le_of_ble_eq_true rfl)⟩ rfl rfl rfl (Nat.le_of_ble_eq_true rfl) hkn dL_law_526 (q := 529) rfl ?_
    refine g_top (b := 1) rfl ?_
    refine g_iload C dL_law_529 1 rfl (q := 531) rfl ?_
    refine g_icmp_eq C dL_law_531 (by omega) (q2 := 536) rfl (q := 534) rfl (fun hb5 => ?_) (fun hb5 => ?_)
    · skip
      refine g_iload C dL_law_536 1 rfl (q := 538) rfl ?_
      refine g_if_ne C dL_law_538 (by omega) (q2 := 553) rfl (q := 541) rfl (fun hb6 => ?_) (fun hb6 => ?_)
      · skip
        refine g_goto C dL_law_553 (q := 2912) rfl ?_
        refine g_sub [2, 3, 4, 5, 6, 7] (L' := [(0, .ref bS), (1, .ref (ea E 0)), (2, .ref (ea E 13)), (3, .ref (ea E 21)), (4, .ref (ea E 22)), (5, .int (iI i))]) rfl ?_
        exact K _ (by exact hI)
      · skip
        exfalso; omega
    · skip
      exfalso; omega
  · skip
    refine g_cL C (hh := th_L_retie) (As := [.ref (ea E 0), .int (iI r), .int (iI b), .int (iI c), .ref (ea E 21)]) (c_L_retie_2 l hst E _ r b c  (by assumption) (by assumption) (by assumption) (by assumption) (by assumption)) ml_L_168 mf_L_retie rfl ⟨(Nat.le_of_ble_eq_true rfl), (Nat.le_of_ble_eq_true rfl)⟩ rfl rfl rfl (Nat.le_of_ble_eq_true rfl) hkn dL_law_496 (q := 499) rfl ?_
    refine g_istore C (L' := [(6, .int (iI 2)), (0, .ref bS), (1, .ref (ea E 0)), (2, .ref (ea E 13)), (3, .ref (ea E 21)), (4, .ref (ea E 22)), (5, .int (iI i))]) dL_law_499 (by decide) rfl (q := 501) rfl ?_
    refine g_aload_n C dL_law_501 3 rfl rfl (q := 502) rfl ?_
    refine g_aload_n C dL_law_502 1 rfl rfl (q := 503) rfl ?_
    refine g_iload C dL_law_503 6 rfl (q := 505) rfl ?_
    refine g_iconst C dL_law_505 (q := 506) rfl ?_
    refine g_iadd C dL_law_506 (q := 507) rfl ?_
    refine g_scr C hX (j := i + 1) (by omega) dL_law_507 (q := 508) rfl ?_
    refine g_top (b := r) hs_r ?_
    refine g_aload_n C dL_law_508 1 rfl rfl (q := 509) rfl ?_
    refine g_iload C dL_law_509 6 rfl (q := 511) rfl ?_
    refine g_iconst C dL_law_511 (q := 512) rfl ?_
    refine g_iadd C dL_law_512 (q := 513) rfl ?_
    refine g_scr C hX (j := i + 2) (by omega) dL_law_513 (q := 514) rfl ?_
    refine g_top (b := b) hs_b ?_
    refine g_aload_n C dL_law_514 1 rfl rfl (q := 515) rfl ?_
    refine g_iload C dL_law_515 6 rfl (q := 517) rfl ?_
    refine g_iconst C dL_law_517 (q := 518) rfl ?_
    refine g_iadd C dL_law_518 (q := 519) rfl ?_
    refine g_scr C hX (j := i + 3) (by omega) dL_law_519 (q := 520) rfl ?_
    refine g_top (b := c) hs_c ?_
    refine g_cV_i C (As := [.int (iI r), .int (iI b), .int (iI c)]) (c_X5_retie_2 l E _ r b c (σ 2) (by assumption) (by omega) (by omega) (by omega) (by assumption)) ml_L_170 mf_X5_retie (o := 13) (ci := 5) rfl rfl rfl rfl ⟨(Nat.le_of_ble_eq_true rfl), (Nat.le_of_ble_eq_true rfl)⟩ rfl rfl rfl (Nat.le_of_ble_eq_true rfl) hkn dL_law_520 (q := 523) rfl ?_
    refine g_istore C (L' := [(7, .int (iI 0)), (6, .int (iI 2)), (0, .ref bS), (1, .ref (ea E 0)), (2, .ref (ea E 13)), (3, .ref (ea E 21)), (4, .ref (ea E 22)), (5, .int (iI i))]) dL_law_523 (by decide) rfl (q := 525) rfl ?_
    refine g_aload_n C dL_law_525 4 rfl rfl (q := 526) rfl ?_
    refine g_cV_i C (As := []) (c_X5_thrown l E _) ml_L_157 mf_X5_thrown (o := 13) (ci := 5) rfl rfl rfl rfl ⟨(Nat.le_of_ble_eq_true rfl), (Nat.le_of_ble_eq_true rfl)⟩ rfl rfl rfl (Nat.le_of_ble_eq_true rfl) hkn dL_law_526 (q := 529) rfl ?_
    refine g_top (b := 2) rfl ?_
    refine g_iload C dL_law_529 1 rfl (q := 531) rfl ?_
    refine g_icmp_eq C dL_law_531 (by omega) (q2 := 536) rfl (q := 534) rfl (fun hb7 => ?_) (fun hb7 => ?_)
    · skip
      refine g_iload C dL_law_536 1 rfl (q := 538) rfl ?_
      refine g_if_ne C dL_law_538 (by omega) (q2 := 553) rfl (q := 541) rfl (fun hb8 => ?_) (fun hb8 => ?_)
      · skip
        refine g_goto C dL_law_553 (q := 2912) rfl ?_
        refine g_sub [2, 3, 4, 5, 6, 7] (L' := [(0, .ref bS), (1, .ref (ea E 0)), (2, .ref (ea E 13)), (3, .ref (ea E 21)), (4, .ref (ea E 22)), (5, .int (iI i))]) rfl ?_
        exact K _ (by exact hI)
      · skip
        exfalso; omega
    · skip
      exfalso; omega
set_option maxRecDepth 100000 in
set_option maxHeartbeats 4000000 in
theorem lc_4 {p : Program} {l : Launch} {e : Env} {s : State} {m : MethodId} {args : Array Value} {below : List Frame} {meth : Method} {c : Code} {E : EV} {A : Nat → Prop} {Q : State → Prop} {σ : SS} {k n : Nat} {bS N : Nat} {xs : Nat → Int32} (hst : l.stackTraces = false) (C : CX p l e room_1 s m args below meth c RL cL_law 9 E A (some .boolean)) (hX : SX bS N xs s A) (hkn : k + 1 ≤ room_1.cells ∧ n + 6 ≤ room_1.slots) (i : Int) (hi : 0 ≤ i ∧ i + 5 ≤ N) (hI : INV σ) (K : ∀ σ2 : SS, INV σ2 → GG p l e room_1 s m args below meth c Q E A 9 σ2 (k + 1) (n + 6) 2912 [(0, .ref bS), (1, .ref (ea E 0)), (2, .ref (ea E 13)), (3, .ref (ea E 21)), (4, .ref (ea E 22)), (5, .int (iI i))] []) : GG p l e room_1 s m args below meth c Q E A 9 σ k n 556 [(0, .ref bS), (1, .ref (ea E 0)), (2, .ref (ea E 13)), (3, .ref (ea E 21)), (4, .ref (ea E 22)), (5, .int (iI i))] [] := by
  have hM := hI.1.2
  have hP := hI.1.1
  have hW := hM.1
  have hH := hI.2.2.1.2.1
  have hK5 := hI.2.2.1.1
  have hN9 := hX.2.2.2
  have hkn0 : k ≤ room_1.cells ∧ n ≤ room_1.slots := ⟨Nat.le_of_succ_le hkn.1, Nat.le_trans (Nat.le_add_right n 6) hkn.2⟩
  obtain ⟨r, hs_r⟩ : ∃ v, scr xs (i + 1) = v := ⟨_, rfl⟩
  have hr_r := scr_rg xs (i + 1)
  rw [hs_r] at hr_r
  have hq_0 := fR_c r
  refine g_aload_n C dL_law_556 1 rfl rfl (q := 557) rfl ?_
  refine g_aload_n C dL_law_557 0 rfl rfl (q := 558) rfl ?_
  refine g_iload C dL_law_558 5 rfl (q := 560) rfl ?_
  refine g_iconst C dL_law_560 (q := 561) rfl ?_
  refine g_iadd C dL_law_561 (q := 562) rfl ?_
  refine g_scr C hX (j := i + 1) (by omega) dL_law_562 (q := 563) rfl ?_
  refine g_top (b := r) hs_r ?_
  refine g_aload_n C dL_law_563 3 rfl rfl (q := 564) rfl ?_
  rcases (show ((fR r = 0)) ∨ ((fR r = 1)) by omega) with hq0 | hq0
  · skip
    refine g_cL C (hh := th_L_segmentCount) (As := [.ref (ea E 0), .int (iI r), .ref (ea E 21)]) (c_L_segmentCount l hst E _ r  (by assumption) (by assumption) (by assumption)) ml_L_171 mf_L_segmentCount rfl ⟨(Nat.le_of_ble_eq_true rfl), (Nat.le_of_ble_eq_true rfl)⟩ rfl rfl rfl (Nat.le_of_ble_eq_true rfl) hkn dL_law_564 (q := 567) rfl ?_
    refine g_istore C (L' := [(6, .int (iI 0)), (0, .ref bS), (1, .ref (ea E 0)), (2, .ref (ea E 13)), (3, .ref (ea E 21)), (4, .ref (ea E 22)), (5, .int (iI i))]) dL_law_567 (by decide) rfl (q := 569) rfl ?_
    refine g_aload_n C dL_law_569 3 rfl rfl (q := 570) rfl ?_
    refine g_aload_n C dL_law_570 1 rfl rfl (q := 571) rfl ?_
    refine g_iload C dL_law_571 6 rfl (q := 573) rfl ?_
    refine g_iconst C dL_law_573 (q := 574) rfl ?_
    refine g_iadd C dL_law_574 (q := 575) rfl ?_
    refine g_scr C hX (j := i + 1) (by omega) dL_law_575 (q := 576) rfl ?_
    refine g_top (b := r) hs_r ?_
    refine g_cV_i C (As := [.int (iI r)]) (c_X5_segmentCount l E _ r (σ 2) (by show MS (σ 2) (σ 14); assumption) (by omega) (by assumption)) ml_L_174 mf_X5_segmentCount (o := 13) (ci := 5) rfl rfl rfl rfl ⟨(Nat.le_of_ble_eq_true rfl), (Nat.le_of_ble_eq_true rfl)⟩ rfl rfl rfl (Nat.le_of_ble_eq_true rfl) hkn dL_law_576 (q := 579) rfl ?_
    refine g_st (σ2 := (st (st σ 13 (pt (σ 13) 0 0)) 21 (pt (σ 21) 0 (wr ((σ 2) (240 + r)))))) (st_cm σ (o := 21) (q := 13) (pt (σ 21) 0 (wr ((σ 2) (240 + r)))) (pt (σ 13) 0 0) (by decide)) ?_
    refine g_istore C (L' := [(7, .int (iI ((σ 2) (240 + r)))), (6, .int (iI 0)), (0, .ref bS), (1, .ref (ea E 0)), (2, .ref (ea E 13)), (3, .ref (ea E 21)), (4, .ref (ea E 22)), (5, .int (iI i))]) dL_law_579 (by decide) rfl (q := 581) rfl ?_
    refine g_aload_n C dL_law_581 4 rfl rfl (q := 582) rfl ?_
    refine g_cV_i C (As := []) (c_X5_thrown l E _) ml_L_157 mf_X5_thrown (o := 13) (ci := 5) rfl rfl rfl rfl ⟨(Nat.le_of_ble_eq_true rfl), (Nat.le_of_ble_eq_true rfl)⟩ rfl rfl rfl (Nat.le_of_ble_eq_true rfl) hkn dL_law_582 (q := 585) rfl ?_
    refine g_top (b := 0) rfl ?_
    refine g_iload C dL_law_585 1 rfl (q := 587) rfl ?_
    refine g_icmp_eq C dL_law_587 (by omega) (q2 := 592) rfl (q := 590) rfl (fun hb2 => ?_) (fun hb2 => ?_)
    · skip
      refine g_iload C dL_law_592 1 rfl (q := 594) rfl ?_
      refine g_if_ne C dL_law_594 (by omega) (q2 := 609) rfl (q := 597) rfl (fun hb3 => ?_) (fun hb3 => ?_)
      · skip
        exfalso; omega
      · skip
        refine g_aload_n C dL_law_597 5 rfl rfl (q := 598) rfl ?_
        refine g_iconst C dL_law_598 (q := 599) rfl ?_
        refine gl_21 C dL_law_599 (q := 600) rfl ?_
        refine g_topl (b := (wr ((σ 2) (240 + r)))) (show (pt (σ 21) 0 (wr ((σ 2) (240 + r)))) 0 = (wr ((σ 2) (240 + r))) from pt_s _ _ _) ?_
        refine g_iload C dL_law_600 0 rfl (q := 602) rfl ?_
        refine g_i2lw C dL_law_602 (q := 603) rfl ?_
        refine g_lcmpE C (by rfl) dL_law_603 (q := 604) rfl ?_
        refine g_if_eq C dL_law_604 (by omega) (q2 := 609) rfl (q := 607) rfl (fun hb4 => ?_) (fun hb4 => ?_)
        · skip
          refine g_goto C dL_law_609 (q := 2912) rfl ?_
          refine g_sub [2, 3, 4, 5, 6, 7] (L' := [(0, .ref bS), (1, .ref (ea E 0)), (2, .ref (ea E 13)), (3, .ref (ea E 21)), (4, .ref (ea E 22)), (5, .int (iI i))]) rfl ?_
          exact K _ (by exact hI)
        · skip
          exfalso; omega
    · skip
      exfalso; omega
  · skip
    refine g_cL C (hh := th_L_segmentCount) (As := [.ref (ea E 0), .int (iI r), .ref (ea E 21)]) (c_L_segmentCount_11 l hst E _ r  (by assumption) (by assumption) (by assumption)) ml_L_171 mf_L_segmentCount rfl ⟨(Nat.le_of_ble_eq_true rfl), (Nat.le_of_ble_eq_true rfl)⟩ rfl rfl rfl (Nat.le_of_ble_eq_true rfl) hkn dL_law_564 (q := 567) rfl ?_
    refine g_istore C (L' := [(6, .int (iI 1)), (0, .ref bS), (1, .ref (ea E 0)), (2, .ref (ea E 13)), (3, .ref (ea E 21)), (4, .ref (ea E 22)), (5, .int (iI i))]) dL_law_567 (by decide) rfl (q := 569) rfl ?_
    refine g_aload_n C dL_law_569 3 rfl rfl (q := 570) rfl ?_
    refine g_aload_n C dL_law_570 1 rfl rfl (q := 571) rfl ?_
    refine g_iload C dL_law_571 6 rfl (q := 573) rfl ?_
    refine g_iconst C dL_law_573 (q := 574) rfl ?_
    refine g_iadd C dL_law_574 (q := 575) rfl ?_
    refine g_scr C hX (j := i + 1) (by omega) dL_law_575 (q := 576) rfl ?_
    refine g_top (b := r) hs_r ?_
    refine g_cV_i C (As := [.int (iI r)]) (c_X5_segmentCount_11 l E _ r (σ 2) (by assumption) (by omega) (by assumption)) ml_L_174 mf_X5_segmentCount (o := 13) (ci := 5) rfl rfl rfl rfl ⟨(Nat.le_of_ble_eq_true rfl), (Nat.le_of_ble_eq_true rfl)⟩ rfl rfl rfl (Nat.le_of_ble_eq_true rfl) hkn dL_law_576 (q := 579) rfl ?_
    refine g_istore C (L' := [(7, .int (iI 0)), (6, .int (iI 1)), (0, .ref bS), (1, .ref (ea E 0)), (2, .ref (ea E 13)), (3, .ref (ea E 21)), (4, .ref (ea E 22)), (5, .int (iI i))]) dL_law_579 (by decide) rfl (q := 581) rfl ?_
    refine g_aload_n C dL_law_581 4 rfl rfl (q := 582) rfl ?_
    refine g_cV_i C (As := []) (c_X5_thrown l E _) ml_L_157 mf_X5_thrown (o := 13) (ci := 5) rfl rfl rfl rfl ⟨(Nat.le_of_ble_eq_true rfl), (Nat.le_of_ble_eq_true rfl)⟩ rfl rfl rfl (Nat.le_of_ble_eq_true rfl) hkn dL_law_582 (q := 585) rfl ?_
    refine g_top (b := 1) rfl ?_
    refine g_iload C dL_law_585 1 rfl (q := 587) rfl ?_
    refine g_icmp_eq C dL_law_587 (by omega) (q2 := 592) rfl (q := 590) rfl (fun hb5 => ?_) (fun hb5 => ?_)
    · skip
      refine g_iload C dL_law_592 1 rfl (q := 594) rfl ?_
      refine g_if_ne C dL_law_594 (by omega) (q2 := 609) rfl (q := 597) rfl (fun hb6 => ?_) (fun hb6 => ?_)
      · skip
        refine g_goto C dL_law_609 (q := 2912) rfl ?_
        refine g_sub [2, 3, 4, 5, 6, 7] (L' := [(0, .ref bS), (1, .ref (ea E 0)), (2, .ref (ea E 13)), (3, .ref (ea E 21)), (4, .ref (ea E 22)), (5, .int (iI i))]) rfl ?_
        exact K _ (by exact hI)
      · skip
        exfalso; omega
    · skip
      exfalso; omega
set_option maxRecDepth 100000 in
set_option maxHeartbeats 4000000 in
theorem lc_5 {p : Program} {l : Launch} {e : Env} {s : State} {m : MethodId} {args : Array Value} {below : List Frame} {meth : Method} {c : Code} {E : EV} {A : Nat → Prop} {Q : State → Prop} {σ : SS} {k n : Nat} {bS N : Nat} {xs : Nat → Int32} (hst : l.stackTraces = false) (C : CX p l e room_1 s m args below meth c RL cL_law 9 E A (some .boolean)) (hX : SX bS N xs s A) (hkn : k + 1 ≤ room_1.cells ∧ n + 6 ≤ room_1.slots) (i : Int) (hi : 0 ≤ i ∧ i + 5 ≤ N) (hI : INV σ) (K : ∀ σ2 : SS, INV σ2 → GG p l e room_1 s m args below meth c Q E A 9 σ2 (k + 1) (n + 6) 2912 [(0, .ref bS), (1, .ref (ea E 0)), (2, .ref (ea E 13)), (3, .ref (ea E 21)), (4, .ref (ea E 22)), (5, .int (iI i))] []) : GG p l e room_1 s m args below meth c Q E A 9 σ k n 612 [(0, .ref bS), (1, .ref (ea E 0)), (2, .ref (ea E 13)), (3, .ref (ea E 21)), (4, .ref (ea E 22)), (5, .int (iI i))] [] := by
  have hM := hI.1.2
  have hP := hI.1.1
  have hW := hM.1
  have hH := hI.2.2.1.2.1
  have hK5 := hI.2.2.1.1
  have hN9 := hX.2.2.2
  have hkn0 : k ≤ room_1.cells ∧ n ≤ room_1.slots := ⟨Nat.le_of_succ_le hkn.1, Nat.le_trans (Nat.le_add_right n 6) hkn.2⟩
  obtain ⟨r, hs_r⟩ : ∃ v, scr xs (i + 1) = v := ⟨_, rfl⟩
  have hr_r := scr_rg xs (i + 1)
  rw [hs_r] at hr_r
  obtain ⟨p, hs_p⟩ : ∃ v, scr xs (i + 2) = v := ⟨_, rfl⟩
  have hr_p := scr_rg xs (i + 2)
  rw [hs_p] at hr_p
  have hq_0 := fP_c (σ 2) r p
  refine g_aload_n C dL_law_612 1 rfl rfl (q := 613) rfl ?_
  refine g_aload_n C dL_law_613 0 rfl rfl (q := 614) rfl ?_
  refine g_iload C dL_law_614 5 rfl (q := 616) rfl ?_
  refine g_iconst C dL_law_616 (q := 617) rfl ?_
  refine g_iadd C dL_law_617 (q := 618) rfl ?_
  refine g_scr C hX (j := i + 1) (by omega) dL_law_618 (q := 619) rfl ?_
  refine g_top (b := r) hs_r ?_
  refine g_aload_n C dL_law_619 0 rfl rfl (q := 620) rfl ?_
  refine g_iload C dL_law_620 5 rfl (q := 622) rfl ?_
  refine g_iconst C dL_law_622 (q := 623) rfl ?_
  refine g_iadd C dL_law_623 (q := 624) rfl ?_
  refine g_scr C hX (j := i + 2) (by omega) dL_law_624 (q := 625) rfl ?_
  refine g_top (b := p) hs_p ?_
  refine g_aload_n C dL_law_625 3 rfl rfl (q := 626) rfl ?_
  rcases (show ((fP (σ 2) r p = 0)) ∨ ((fP (σ 2) r p = 1)) by omega) with hq0 | hq0
  · skip
    refine g_cL C (hh := th_L_length) (As := [.ref (ea E 0), .int (iI r), .int (iI p), .ref (ea E 21)]) (c_L_length l hst E _ r p  (by assumption) (by assumption) (by assumption) (by assumption)) ml_L_175 mf_L_length rfl ⟨(Nat.le_of_ble_eq_true rfl), (Nat.le_of_ble_eq_true rfl)⟩ rfl rfl rfl (Nat.le_of_ble_eq_true rfl) hkn dL_law_626 (q := 629) rfl ?_
    refine g_istore C (L' := [(6, .int (iI 0)), (0, .ref bS), (1, .ref (ea E 0)), (2, .ref (ea E 13)), (3, .ref (ea E 21)), (4, .ref (ea E 22)), (5, .int (iI i))]) dL_law_629 (by decide) rfl (q := 631) rfl ?_
    refine g_aload_n C dL_law_631 3 rfl rfl (q := 632) rfl ?_
    refine g_aload_n C dL_law_632 1 rfl rfl (q := 633) rfl ?_
    refine g_iload C dL_law_633 6 rfl (q := 635) rfl ?_
    refine g_iconst C dL_law_635 (q := 636) rfl ?_
    refine g_iadd C dL_law_636 (q := 637) rfl ?_
    refine g_scr C hX (j := i + 1) (by omega) dL_law_637 (q := 638) rfl ?_
    refine g_top (b := r) hs_r ?_
    refine g_aload_n C dL_law_638 1 rfl rfl (q := 639) rfl ?_
    refine g_iload C dL_law_639 6 rfl (q := 641) rfl ?_
    refine g_iconst C dL_law_641 (q := 642) rfl ?_
    refine g_iadd C dL_law_642 (q := 643) rfl ?_
    refine g_scr C hX (j := i + 2) (by omega) dL_law_643 (q := 644) rfl ?_
    refine g_top (b := p) hs_p ?_
    refine g_cV_i C (As := [.int (iI r), .int (iI p)]) (c_X5_length l E _ r p (σ 2) (by show MS (σ 2) (σ 14); assumption) (by omega) (by omega) (by assumption)) ml_L_177 mf_X5_length (o := 13) (ci := 5) rfl rfl rfl rfl ⟨(Nat.le_of_ble_eq_true rfl), (Nat.le_of_ble_eq_true rfl)⟩ rfl rfl rfl (Nat.le_of_ble_eq_true rfl) hkn dL_law_644 (q := 647) rfl ?_
    refine g_st (σ2 := (st (st σ 13 (pt (σ 13) 0 0)) 21 (pt (σ 21) 0 (wr ((σ 2) (r * 60 + p) / 8))))) (st_cm σ (o := 21) (q := 13) (pt (σ 21) 0 (wr ((σ 2) (r * 60 + p) / 8))) (pt (σ 13) 0 0) (by decide)) ?_
    refine g_istore C (L' := [(7, .int (iI ((σ 2) (r * 60 + p) / 8))), (6, .int (iI 0)), (0, .ref bS), (1, .ref (ea E 0)), (2, .ref (ea E 13)), (3, .ref (ea E 21)), (4, .ref (ea E 22)), (5, .int (iI i))]) dL_law_647 (by decide) rfl (q := 649) rfl ?_
    refine g_aload_n C dL_law_649 4 rfl rfl (q := 650) rfl ?_
    refine g_cV_i C (As := []) (c_X5_thrown l E _) ml_L_157 mf_X5_thrown (o := 13) (ci := 5) rfl rfl rfl rfl ⟨(Nat.le_of_ble_eq_true rfl), (Nat.le_of_ble_eq_true rfl)⟩ rfl rfl rfl (Nat.le_of_ble_eq_true rfl) hkn dL_law_650 (q := 653) rfl ?_
    refine g_top (b := 0) rfl ?_
    refine g_iload C dL_law_653 1 rfl (q := 655) rfl ?_
    refine g_icmp_eq C dL_law_655 (by omega) (q2 := 660) rfl (q := 658) rfl (fun hb2 => ?_) (fun hb2 => ?_)
    · skip
      refine g_iload C dL_law_660 1 rfl (q := 662) rfl ?_
      refine g_if_ne C dL_law_662 (by omega) (q2 := 677) rfl (q := 665) rfl (fun hb3 => ?_) (fun hb3 => ?_)
      · skip
        exfalso; omega
      · skip
        refine g_aload_n C dL_law_665 5 rfl rfl (q := 666) rfl ?_
        refine g_iconst C dL_law_666 (q := 667) rfl ?_
        refine gl_21 C dL_law_667 (q := 668) rfl ?_
        refine g_topl (b := (wr ((σ 2) (r * 60 + p) / 8))) (show (pt (σ 21) 0 (wr ((σ 2) (r * 60 + p) / 8))) 0 = (wr ((σ 2) (r * 60 + p) / 8)) from pt_s _ _ _) ?_
        refine g_iload C dL_law_668 0 rfl (q := 670) rfl ?_
        refine g_i2lw C dL_law_670 (q := 671) rfl ?_
        refine g_lcmpE C (by rfl) dL_law_671 (q := 672) rfl ?_
        refine g_if_eq C dL_law_672 (by omega) (q2 := 677) rfl (q := 675) rfl (fun hb4 => ?_) (fun hb4 => ?_)
        · skip
          refine g_goto C dL_law_677 (q := 2912) rfl ?_
          refine g_sub [2, 3, 4, 5, 6, 7] (L' := [(0, .ref bS), (1, .ref (ea E 0)), (2, .ref (ea E 13)), (3, .ref (ea E 21)), (4, .ref (ea E 22)), (5, .int (iI i))]) rfl ?_
          exact K _ (by exact hI)
        · skip
          exfalso; omega
    · skip
      exfalso; omega
  · skip
    refine g_cL C (hh := th_L_length) (As := [.ref (ea E 0), .int (iI r), .int (iI p), .ref (ea E 21)]) (c_L_length_11 l hst E _ r p  (by assumption) (by assumption) (by assumption) (by assumption)) ml_L_175 mf_L_length rfl ⟨(Nat.le_of_ble_eq_true rfl), (Nat.le_of_ble_eq_true rfl)⟩ rfl rfl rfl (Nat.le_of_ble_eq_true rfl) hkn dL_law_626 (q := 629) rfl ?_
    refine g_istore C (L' := [(6, .int (iI 1)), (0, .ref bS), (1, .ref (ea E 0)), (2, .ref (ea E 13)), (3, .ref (ea E 21)), (4, .ref (ea E 22)), (5, .int (iI i))]) dL_law_629 (by decide) rfl (q := 631) rfl ?_
    refine g_aload_n C dL_law_631 3 rfl rfl (q := 632) rfl ?_
    refine g_aload_n C dL_law_632 1 rfl rfl (q := 633) rfl ?_
    refine g_iload C dL_law_633 6 rfl (q := 635) rfl ?_
    refine g_iconst C dL_law_635 (q := 636) rfl ?_
    refine g_iadd C dL_law_636 (q := 637) rfl ?_
    refine g_scr C hX (j := i + 1) (by omega) dL_law_637 (q := 638) rfl ?_
    refine g_top (b := r) hs_r ?_
    refine g_aload_n C dL_law_638 1 rfl rfl (q := 639) rfl ?_
    refine g_iload C dL_law_639 6 rfl (q := 641) rfl ?_
    refine g_iconst C dL_law_641 (q := 642) rfl ?_
    refine g_iadd C dL_law_642 (q := 643) rfl ?_
    refine g_scr C hX (j := i + 2) (by omega) dL_law_643 (q := 644) rfl ?_
    refine g_top (b := p) hs_p ?_
    refine g_cV_i C (As := [.int (iI r), .int (iI p)]) (c_X5_length_11 l E _ r p (σ 2) (by assumption) (by omega) (by omega) (by assumption)) ml_L_177 mf_X5_length (o := 13) (ci := 5) rfl rfl rfl rfl ⟨(Nat.le_of_ble_eq_true rfl), (Nat.le_of_ble_eq_true rfl)⟩ rfl rfl rfl (Nat.le_of_ble_eq_true rfl) hkn dL_law_644 (q := 647) rfl ?_
    refine g_istore C (L' := [(7, .int (iI 0)), (6, .int (iI 1)), (0, .ref bS), (1, .ref (ea E 0)), (2, .ref (ea E 13)), (3, .ref (ea E 21)), (4, .ref (ea E 22)), (5, .int (iI i))]) dL_law_647 (by decide) rfl (q := 649) rfl ?_
    refine g_aload_n C dL_law_649 4 rfl rfl (q := 650) rfl ?_
    refine g_cV_i C (As := []) (c_X5_thrown l E _) ml_L_157 mf_X5_thrown (o := 13) (ci := 5) rfl rfl rfl rfl ⟨(Nat.le_of_ble_eq_true rfl), (Nat.le_of_ble_eq_true rfl)⟩ rfl rfl rfl (Nat.le_of_ble_eq_true rfl) hkn dL_law_650 (q := 653) rfl ?_
    refine g_top (b := 1) rfl ?_
    refine g_iload C dL_law_653 1 rfl (q := 655) rfl ?_
    refine g_icmp_eq C dL_law_655 (by omega) (q2 := 660) rfl (q := 658) rfl (fun hb5 => ?_) (fun hb5 => ?_)
    · skip
      refine g_iload C dL_law_660 1 rfl (q := 662) rfl ?_
      refine g_if_ne C dL_law_662 (by omega) (q2 := 677) rfl (q := 665) rfl (fun hb6 => ?_) (fun hb6 => ?_)
      · skip
        refine g_goto C dL_law_677 (q := 2912) rfl ?_
        refine g_sub [2, 3, 4, 5, 6, 7] (L' := [(0, .ref bS), (1, .ref (ea E 0)), (2, .ref (ea E 13)), (3, .ref (ea E 21)), (4, .ref (ea E 22)), (5, .int (iI i))]) rfl ?_
        exact K _ (by exact hI)
      · skip
        exfalso; omega
    · skip
      exfalso; omega
set_option maxRecDepth 100000 in
set_option maxHeartbeats 4000000 in
theorem lc_6 {p : Program} {l : Launch} {e : Env} {s : State} {m : MethodId} {args : Array Value} {below : List Frame} {meth : Method} {c : Code} {E : EV} {A : Nat → Prop} {Q : State → Prop} {σ : SS} {k n : Nat} {bS N : Nat} {xs : Nat → Int32} (hst : l.stackTraces = false) (C : CX p l e room_1 s m args below meth c RL cL_law 9 E A (some .boolean)) (hX : SX bS N xs s A) (hkn : k + 1 ≤ room_1.cells ∧ n + 6 ≤ room_1.slots) (i : Int) (hi : 0 ≤ i ∧ i + 5 ≤ N) (hI : INV σ) (K : ∀ σ2 : SS, INV σ2 → GG p l e room_1 s m args below meth c Q E A 9 σ2 (k + 1) (n + 6) 2912 [(0, .ref bS), (1, .ref (ea E 0)), (2, .ref (ea E 13)), (3, .ref (ea E 21)), (4, .ref (ea E 22)), (5, .int (iI i))] []) : GG p l e room_1 s m args below meth c Q E A 9 σ k n 680 [(0, .ref bS), (1, .ref (ea E 0)), (2, .ref (ea E 13)), (3, .ref (ea E 21)), (4, .ref (ea E 22)), (5, .int (iI i))] [] := by
  have hM := hI.1.2
  have hP := hI.1.1
  have hW := hM.1
  have hH := hI.2.2.1.2.1
  have hK5 := hI.2.2.1.1
  have hN9 := hX.2.2.2
  have hkn0 : k ≤ room_1.cells ∧ n ≤ room_1.slots := ⟨Nat.le_of_succ_le hkn.1, Nat.le_trans (Nat.le_add_right n 6) hkn.2⟩
  obtain ⟨r, hs_r⟩ : ∃ v, scr xs (i + 1) = v := ⟨_, rfl⟩
  have hr_r := scr_rg xs (i + 1)
  rw [hs_r] at hr_r
  obtain ⟨p, hs_p⟩ : ∃ v, scr xs (i + 2) = v := ⟨_, rfl⟩
  have hr_p := scr_rg xs (i + 2)
  rw [hs_p] at hr_p
  have hq_0 := fP_c (σ 2) r p
  refine g_aload_n C dL_law_680 1 rfl rfl (q := 681) rfl ?_
  refine g_aload_n C dL_law_681 0 rfl rfl (q := 682) rfl ?_
  refine g_iload C dL_law_682 5 rfl (q := 684) rfl ?_
  refine g_iconst C dL_law_684 (q := 685) rfl ?_
  refine g_iadd C dL_law_685 (q := 686) rfl ?_
  refine g_scr C hX (j := i + 1) (by omega) dL_law_686 (q := 687) rfl ?_
  refine g_top (b := r) hs_r ?_
  refine g_aload_n C dL_law_687 0 rfl rfl (q := 688) rfl ?_
  refine g_iload C dL_law_688 5 rfl (q := 690) rfl ?_
  refine g_iconst C dL_law_690 (q := 691) rfl ?_
  refine g_iadd C dL_law_691 (q := 692) rfl ?_
  refine g_scr C hX (j := i + 2) (by omega) dL_law_692 (q := 693) rfl ?_
  refine g_top (b := p) hs_p ?_
  refine g_aload_n C dL_law_693 3 rfl rfl (q := 694) rfl ?_
  rcases (show ((fP (σ 2) r p = 0)) ∨ ((fP (σ 2) r p = 1)) by omega) with hq0 | hq0
  · skip
    refine g_cL C (hh := th_L_colour) (As := [.ref (ea E 0), .int (iI r), .int (iI p), .ref (ea E 21)]) (c_L_colour l hst E _ r p  (by assumption) (by assumption) (by assumption) (by assumption)) ml_L_178 mf_L_colour rfl ⟨(Nat.le_of_ble_eq_true rfl), (Nat.le_of_ble_eq_true rfl)⟩ rfl rfl rfl (Nat.le_of_ble_eq_true rfl) hkn dL_law_694 (q := 697) rfl ?_
    refine g_istore C (L' := [(6, .int (iI 0)), (0, .ref bS), (1, .ref (ea E 0)), (2, .ref (ea E 13)), (3, .ref (ea E 21)), (4, .ref (ea E 22)), (5, .int (iI i))]) dL_law_697 (by decide) rfl (q := 699) rfl ?_
    refine g_aload_n C dL_law_699 3 rfl rfl (q := 700) rfl ?_
    refine g_aload_n C dL_law_700 1 rfl rfl (q := 701) rfl ?_
    refine g_iload C dL_law_701 6 rfl (q := 703) rfl ?_
    refine g_iconst C dL_law_703 (q := 704) rfl ?_
    refine g_iadd C dL_law_704 (q := 705) rfl ?_
    refine g_scr C hX (j := i + 1) (by omega) dL_law_705 (q := 706) rfl ?_
    refine g_top (b := r) hs_r ?_
    refine g_aload_n C dL_law_706 1 rfl rfl (q := 707) rfl ?_
    refine g_iload C dL_law_707 6 rfl (q := 709) rfl ?_
    refine g_iconst C dL_law_709 (q := 710) rfl ?_
    refine g_iadd C dL_law_710 (q := 711) rfl ?_
    refine g_scr C hX (j := i + 2) (by omega) dL_law_711 (q := 712) rfl ?_
    refine g_top (b := p) hs_p ?_
    refine g_cV_i C (As := [.int (iI r), .int (iI p)]) (c_X5_colour l E _ r p (σ 2) (by show MS (σ 2) (σ 14); assumption) (by omega) (by omega) (by assumption)) ml_L_180 mf_X5_colour (o := 13) (ci := 5) rfl rfl rfl rfl ⟨(Nat.le_of_ble_eq_true rfl), (Nat.le_of_ble_eq_true rfl)⟩ rfl rfl rfl (Nat.le_of_ble_eq_true rfl) hkn dL_law_712 (q := 715) rfl ?_
    refine g_st (σ2 := (st (st σ 13 (pt (σ 13) 0 0)) 21 (pt (σ 21) 0 (wr ((σ 2) (r * 60 + p) % 8))))) (st_cm σ (o := 21) (q := 13) (pt (σ 21) 0 (wr ((σ 2) (r * 60 + p) % 8))) (pt (σ 13) 0 0) (by decide)) ?_
    refine g_istore C (L' := [(7, .int (iI ((σ 2) (r * 60 + p) % 8))), (6, .int (iI 0)), (0, .ref bS), (1, .ref (ea E 0)), (2, .ref (ea E 13)), (3, .ref (ea E 21)), (4, .ref (ea E 22)), (5, .int (iI i))]) dL_law_715 (by decide) rfl (q := 717) rfl ?_
    refine g_aload_n C dL_law_717 4 rfl rfl (q := 718) rfl ?_
    refine g_cV_i C (As := []) (c_X5_thrown l E _) ml_L_157 mf_X5_thrown (o := 13) (ci := 5) rfl rfl rfl rfl ⟨(Nat.le_of_ble_eq_true rfl), (Nat.le_of_ble_eq_true rfl)⟩ rfl rfl rfl (Nat.le_of_ble_eq_true rfl) hkn dL_law_718 (q := 721) rfl ?_
    refine g_top (b := 0) rfl ?_
    refine g_iload C dL_law_721 1 rfl (q := 723) rfl ?_
    refine g_icmp_eq C dL_law_723 (by omega) (q2 := 728) rfl (q := 726) rfl (fun hb2 => ?_) (fun hb2 => ?_)
    · skip
      refine g_iload C dL_law_728 1 rfl (q := 730) rfl ?_
      refine g_if_ne C dL_law_730 (by omega) (q2 := 745) rfl (q := 733) rfl (fun hb3 => ?_) (fun hb3 => ?_)
      · skip
        exfalso; omega
      · skip
        refine g_aload_n C dL_law_733 5 rfl rfl (q := 734) rfl ?_
        refine g_iconst C dL_law_734 (q := 735) rfl ?_
        refine gl_21 C dL_law_735 (q := 736) rfl ?_
        refine g_topl (b := (wr ((σ 2) (r * 60 + p) % 8))) (show (pt (σ 21) 0 (wr ((σ 2) (r * 60 + p) % 8))) 0 = (wr ((σ 2) (r * 60 + p) % 8)) from pt_s _ _ _) ?_
        refine g_iload C dL_law_736 0 rfl (q := 738) rfl ?_
        refine g_i2lw C dL_law_738 (q := 739) rfl ?_
        refine g_lcmpE C (by rfl) dL_law_739 (q := 740) rfl ?_
        refine g_if_eq C dL_law_740 (by omega) (q2 := 745) rfl (q := 743) rfl (fun hb4 => ?_) (fun hb4 => ?_)
        · skip
          refine g_goto C dL_law_745 (q := 2912) rfl ?_
          refine g_sub [2, 3, 4, 5, 6, 7] (L' := [(0, .ref bS), (1, .ref (ea E 0)), (2, .ref (ea E 13)), (3, .ref (ea E 21)), (4, .ref (ea E 22)), (5, .int (iI i))]) rfl ?_
          exact K _ (by exact hI)
        · skip
          exfalso; omega
    · skip
      exfalso; omega
  · skip
    refine g_cL C (hh := th_L_colour) (As := [.ref (ea E 0), .int (iI r), .int (iI p), .ref (ea E 21)]) (c_L_colour_11 l hst E _ r p  (by assumption) (by assumption) (by assumption) (by assumption)) ml_L_178 mf_L_colour rfl ⟨(Nat.le_of_ble_eq_true rfl), (Nat.le_of_ble_eq_true rfl)⟩ rfl rfl rfl (Nat.le_of_ble_eq_true rfl) hkn dL_law_694 (q := 697) rfl ?_
    refine g_istore C (L' := [(6, .int (iI 1)), (0, .ref bS), (1, .ref (ea E 0)), (2, .ref (ea E 13)), (3, .ref (ea E 21)), (4, .ref (ea E 22)), (5, .int (iI i))]) dL_law_697 (by decide) rfl (q := 699) rfl ?_
    refine g_aload_n C dL_law_699 3 rfl rfl (q := 700) rfl ?_
    refine g_aload_n C dL_law_700 1 rfl rfl (q := 701) rfl ?_
    refine g_iload C dL_law_701 6 rfl (q := 703) rfl ?_
    refine g_iconst C dL_law_703 (q := 704) rfl ?_
    refine g_iadd C dL_law_704 (q := 705) rfl ?_
    refine g_scr C hX (j := i + 1) (by omega) dL_law_705 (q := 706) rfl ?_
    refine g_top (b := r) hs_r ?_
    refine g_aload_n C dL_law_706 1 rfl rfl (q := 707) rfl ?_
    refine g_iload C dL_law_707 6 rfl (q := 709) rfl ?_
    refine g_iconst C dL_law_709 (q := 710) rfl ?_
    refine g_iadd C dL_law_710 (q := 711) rfl ?_
    refine g_scr C hX (j := i + 2) (by omega) dL_law_711 (q := 712) rfl ?_
    refine g_top (b := p) hs_p ?_
    refine g_cV_i C (As := [.int (iI r), .int (iI p)]) (c_X5_colour_11 l E _ r p (σ 2) (by assumption) (by omega) (by omega) (by assumption)) ml_L_180 mf_X5_colour (o := 13) (ci := 5) rfl rfl rfl rfl ⟨(Nat.le_of_ble_eq_true rfl), (Nat.le_of_ble_eq_true rfl)⟩ rfl rfl rfl (Nat.le_of_ble_eq_true rfl) hkn dL_law_712 (q := 715) rfl ?_
    refine g_istore C (L' := [(7, .int (iI 0)), (6, .int (iI 1)), (0, .ref bS), (1, .ref (ea E 0)), (2, .ref (ea E 13)), (3, .ref (ea E 21)), (4, .ref (ea E 22)), (5, .int (iI i))]) dL_law_715 (by decide) rfl (q := 717) rfl ?_
    refine g_aload_n C dL_law_717 4 rfl rfl (q := 718) rfl ?_
    refine g_cV_i C (As := []) (c_X5_thrown l E _) ml_L_157 mf_X5_thrown (o := 13) (ci := 5) rfl rfl rfl rfl ⟨(Nat.le_of_ble_eq_true rfl), (Nat.le_of_ble_eq_true rfl)⟩ rfl rfl rfl (Nat.le_of_ble_eq_true rfl) hkn dL_law_718 (q := 721) rfl ?_
    refine g_top (b := 1) rfl ?_
    refine g_iload C dL_law_721 1 rfl (q := 723) rfl ?_
    refine g_icmp_eq C dL_law_723 (by omega) (q2 := 728) rfl (q := 726) rfl (fun hb5 => ?_) (fun hb5 => ?_)
    · skip
      refine g_iload C dL_law_728 1 rfl (q := 730) rfl ?_
      refine g_if_ne C dL_law_730 (by omega) (q2 := 745) rfl (q := 733) rfl (fun hb6 => ?_) (fun hb6 => ?_)
      · skip
        refine g_goto C dL_law_745 (q := 2912) rfl ?_
        refine g_sub [2, 3, 4, 5, 6, 7] (L' := [(0, .ref bS), (1, .ref (ea E 0)), (2, .ref (ea E 13)), (3, .ref (ea E 21)), (4, .ref (ea E 22)), (5, .int (iI i))]) rfl ?_
        exact K _ (by exact hI)
      · skip
        exfalso; omega
    · skip
      exfalso; omega
set_option maxRecDepth 100000 in
set_option maxHeartbeats 4000000 in
theorem lc_7 {p : Program} {l : Launch} {e : Env} {s : State} {m : MethodId} {args : Array Value} {below : List Frame} {meth : Method} {c : Code} {E : EV} {A : Nat → Prop} {Q : State → Prop} {σ : SS} {k n : Nat} {bS N : Nat} {xs : Nat → Int32} (hst : l.stackTraces = false) (C : CX p l e room_1 s m args below meth c RL cL_law 9 E A (some .boolean)) (hX : SX bS N xs s A) (hkn : k + 1 ≤ room_1.cells ∧ n + 6 ≤ room_1.slots) (i : Int) (hi : 0 ≤ i ∧ i + 5 ≤ N) (hI : INV σ) (K : ∀ σ2 : SS, INV σ2 → GG p l e room_1 s m args below meth c Q E A 9 σ2 (k + 1) (n + 6) 2912 [(0, .ref bS), (1, .ref (ea E 0)), (2, .ref (ea E 13)), (3, .ref (ea E 21)), (4, .ref (ea E 22)), (5, .int (iI i))] []) : GG p l e room_1 s m args below meth c Q E A 9 σ k n 748 [(0, .ref bS), (1, .ref (ea E 0)), (2, .ref (ea E 13)), (3, .ref (ea E 21)), (4, .ref (ea E 22)), (5, .int (iI i))] [] := by
  have hM := hI.1.2
  have hP := hI.1.1
  have hW := hM.1
  have hH := hI.2.2.1.2.1
  have hK5 := hI.2.2.1.1
  have hN9 := hX.2.2.2
  have hkn0 : k ≤ room_1.cells ∧ n ≤ room_1.slots := ⟨Nat.le_of_succ_le hkn.1, Nat.le_trans (Nat.le_add_right n 6) hkn.2⟩
  obtain ⟨r, hs_r⟩ : ∃ v, scr xs (i + 1) = v := ⟨_, rfl⟩
  have hr_r := scr_rg xs (i + 1)
  rw [hs_r] at hr_r
  obtain ⟨b, hs_b⟩ : ∃ v, scr xs (i + 2) = v := ⟨_, rfl⟩
  have hr_b := scr_rg xs (i + 2)
  rw [hs_b] at hr_b
  obtain ⟨c, hs_c⟩ : ∃ v, scr xs (i + 3) = v := ⟨_, rfl⟩
  have hr_c := scr_rg xs (i + 3)
  rw [hs_c] at hr_c
  have hcs := FK_cs (σ 2) 4 r b c 0
  refine g_aload_n C dL_law_748 1 rfl rfl (q := 749) rfl ?_
  refine g_aload_n C dL_law_749 0 rfl rfl (q := 750) rfl ?_
  refine g_iload C dL_law_750 5 rfl (q := 752) rfl ?_
  refine g_iconst C dL_law_752 (q := 753) rfl ?_
  refine g_iadd C dL_law_753 (q := 754) rfl ?_
  refine g_scr C hX (j := i + 1) (by omega) dL_law_754 (q := 755) rfl ?_
  refine g_top (b := r) hs_r ?_
  refine g_aload_n C dL_law_755 0 rfl rfl (q := 756) rfl ?_
  refine g_iload C dL_law_756 5 rfl (q := 758) rfl ?_
  refine g_iconst C dL_law_758 (q := 759) rfl ?_
  refine g_iadd C dL_law_759 (q := 760) rfl ?_
  refine g_scr C hX (j := i + 2) (by omega) dL_law_760 (q := 761) rfl ?_
  refine g_top (b := b) hs_b ?_
  refine g_aload_n C dL_law_761 0 rfl rfl (q := 762) rfl ?_
  refine g_iload C dL_law_762 5 rfl (q := 764) rfl ?_
  refine g_iconst C dL_law_764 (q := 765) rfl ?_
  refine g_iadd C dL_law_765 (q := 766) rfl ?_
  refine g_scr C hX (j := i + 3) (by omega) dL_law_766 (q := 767) rfl ?_
  refine g_top (b := c) hs_c ?_
  refine g_aload_n C dL_law_767 3 rfl rfl (q := 768) rfl ?_
  rcases (show ((FK (σ 2) 4 r b c 0 = 0)) ∨ ((FK (σ 2) 4 r b c 0 = 1)) ∨ ((FK (σ 2) 4 r b c 0 = 2)) ∨ ((FK (σ 2) 4 r b c 0 = 3)) by omega) with hq0 | hq0 | hq0 | hq0
  · skip
    refine g_cL C (hh := th_L_cut) (As := [.ref (ea E 0), .int (iI r), .int (iI b), .int (iI c), .ref (ea E 21)]) (c_L_cut l hst E _ r b c  (by assumption) (by assumption) (by assumption) (by assumption) (by assumption) (by assumption)) ml_L_181 mf_L_cut rfl ⟨(Nat.le_of_ble_eq_true rfl), (Nat.le_of_ble_eq_true rfl)⟩ rfl rfl rfl (Nat.le_of_ble_eq_true rfl) hkn dL_law_768 (q := 771) rfl ?_
    refine g_istore C (L' := [(6, .int (iI 0)), (0, .ref bS), (1, .ref (ea E 0)), (2, .ref (ea E 13)), (3, .ref (ea E 21)), (4, .ref (ea E 22)), (5, .int (iI i))]) dL_law_771 (by decide) rfl (q := 773) rfl ?_
    refine g_aload_n C dL_law_773 3 rfl rfl (q := 774) rfl ?_
    refine g_aload_n C dL_law_774 1 rfl rfl (q := 775) rfl ?_
    refine g_iload C dL_law_775 6 rfl (q := 777) rfl ?_
    refine g_iconst C dL_law_777 (q := 778) rfl ?_
    refine g_iadd C dL_law_778 (q := 779) rfl ?_
    refine g_scr C hX (j := i + 1) (by omega) dL_law_779 (q := 780) rfl ?_
    refine g_top (b := r) hs_r ?_
    refine g_aload_n C dL_law_780 1 rfl rfl (q := 781) rfl ?_
    refine g_iload C dL_law_781 6 rfl (q := 783) rfl ?_
    refine g_iconst C dL_law_783 (q := 784) rfl ?_
    refine g_iadd C dL_law_784 (q := 785) rfl ?_
    refine g_scr C hX (j := i + 2) (by omega) dL_law_785 (q := 786) rfl ?_
    refine g_top (b := b) hs_b ?_
    refine g_aload_n C dL_law_786 1 rfl rfl (q := 787) rfl ?_
    refine g_iload C dL_law_787 6 rfl (q := 789) rfl ?_
    refine g_iconst C dL_law_789 (q := 790) rfl ?_
    refine g_iadd C dL_law_790 (q := 791) rfl ?_
    refine g_scr C hX (j := i + 3) (by omega) dL_law_791 (q := 792) rfl ?_
    refine g_top (b := c) hs_c ?_
    refine g_cV_i C (As := [.int (iI r), .int (iI b), .int (iI c)]) (c_X5_cut l E _ r b c (σ 2) (by show MS (σ 2) (σ 14); assumption) (by omega) (by omega) (by omega) (by show 0 ≤ (σ 13 5) ∧ (σ 13 5) ≤ 8; omega) (by assumption)) ml_L_183 mf_X5_cut (o := 13) (ci := 5) rfl rfl rfl rfl ⟨(Nat.le_of_ble_eq_true rfl), (Nat.le_of_ble_eq_true rfl)⟩ rfl rfl rfl (Nat.le_of_ble_eq_true rfl) hkn dL_law_792 (q := 795) rfl ?_
    refine g_top (b := (σ 14) (2 + 121 * r) - b) rfl ?_
    refine g_st (σ2 := (st (st (st (st (st (st (st (st (st σ 2 (refF (opF (σ 2) 4 r b c 0))) 3 (cpf (σ 2) (σ 3) 0 0 310)) 5 (pt (pt (σ 5) 1 (nx8 (σ 5 1))) 2 (min ((σ 5 2) + 1) 8))) 6 (cpf (cpf (σ 2) (σ 3) 0 0 310) (σ 6) 0 ((σ 5 1) * 310) 310)) 13 (pt (pt (pt (σ 13) 0 0) 5 (min ((σ 13 5) + 1) 8)) 14 ((σ 14) (2 + 121 * r) - b))) 14 (mMov (pt (σ 14) 0 ((σ 14) 0 + 1)) r b c)) 15 (cpf (σ 14) (σ 15) 0 0 486)) 17 (hiF (σ 17) (cpf (σ 14) (σ 15) 0 0 486) (σ 13 5))) 21 (pt (σ 21) 0 (wr (opR (σ 2) 4 r b c 0))))) ((((congrArg (fun g9 => st g9 17 (hiF (σ 17) (cpf (σ 14) (σ 15) 0 0 486) (σ 13 5))) (congrArg (fun g9 => st g9 15 (cpf (σ 14) (σ 15) 0 0 486)) (congrArg (fun g9 => st g9 14 (mMov (pt (σ 14) 0 ((σ 14) 0 + 1)) r b c)) (st_cm (st (st (st (st σ 2 (refF (opF (σ 2) 4 r b c 0))) 3 (cpf (σ 2) (σ 3) 0 0 310)) 5 (pt (pt (σ 5) 1 (nx8 (σ 5 1))) 2 (min ((σ 5 2) + 1) 8))) 6 (cpf (cpf (σ 2) (σ 3) 0 0 310) (σ 6) 0 ((σ 5 1) * 310) 310)) (o := 21) (q := 13) (pt (σ 21) 0 (wr (opR (σ 2) 4 r b c 0))) (pt (pt (pt (σ 13) 0 0) 5 (min ((σ 13 5) + 1) 8)) 14 ((σ 14) (2 + 121 * r) - b)) (by decide))))).trans (congrArg (fun g9 => st g9 17 (hiF (σ 17) (cpf (σ 14) (σ 15) 0 0 486) (σ 13 5))) (congrArg (fun g9 => st g9 15 (cpf (σ 14) (σ 15) 0 0 486)) (st_cm (st (st (st (st (st σ 2 (refF (opF (σ 2) 4 r b c 0))) 3 (cpf (σ 2) (σ 3) 0 0 310)) 5 (pt (pt (σ 5) 1 (nx8 (σ 5 1))) 2 (min ((σ 5 2) + 1) 8))) 6 (cpf (cpf (σ 2) (σ 3) 0 0 310) (σ 6) 0 ((σ 5 1) * 310) 310)) 13 (pt (pt (pt (σ 13) 0 0) 5 (min ((σ 13 5) + 1) 8)) 14 ((σ 14) (2 + 121 * r) - b))) (o := 21) (q := 14) (pt (σ 21) 0 (wr (opR (σ 2) 4 r b c 0))) (mMov (pt (σ 14) 0 ((σ 14) 0 + 1)) r b c) (by decide))))).trans (congrArg (fun g9 => st g9 17 (hiF (σ 17) (cpf (σ 14) (σ 15) 0 0 486) (σ 13 5))) (st_cm (st (st (st (st (st (st σ 2 (refF (opF (σ 2) 4 r b c 0))) 3 (cpf (σ 2) (σ 3) 0 0 310)) 5 (pt (pt (σ 5) 1 (nx8 (σ 5 1))) 2 (min ((σ 5 2) + 1) 8))) 6 (cpf (cpf (σ 2) (σ 3) 0 0 310) (σ 6) 0 ((σ 5 1) * 310) 310)) 13 (pt (pt (pt (σ 13) 0 0) 5 (min ((σ 13 5) + 1) 8)) 14 ((σ 14) (2 + 121 * r) - b))) 14 (mMov (pt (σ 14) 0 ((σ 14) 0 + 1)) r b c)) (o := 21) (q := 15) (pt (σ 21) 0 (wr (opR (σ 2) 4 r b c 0))) (cpf (σ 14) (σ 15) 0 0 486) (by decide)))).trans (st_cm (st (st (st (st (st (st (st σ 2 (refF (opF (σ 2) 4 r b c 0))) 3 (cpf (σ 2) (σ 3) 0 0 310)) 5 (pt (pt (σ 5) 1 (nx8 (σ 5 1))) 2 (min ((σ 5 2) + 1) 8))) 6 (cpf (cpf (σ 2) (σ 3) 0 0 310) (σ 6) 0 ((σ 5 1) * 310) 310)) 13 (pt (pt (pt (σ 13) 0 0) 5 (min ((σ 13 5) + 1) 8)) 14 ((σ 14) (2 + 121 * r) - b))) 14 (mMov (pt (σ 14) 0 ((σ 14) 0 + 1)) r b c)) 15 (cpf (σ 14) (σ 15) 0 0 486)) (o := 21) (q := 17) (pt (σ 21) 0 (wr (opR (σ 2) 4 r b c 0))) (hiF (σ 17) (cpf (σ 14) (σ 15) 0 0 486) (σ 13 5)) (by decide))) ?_
    refine g_istore C (L' := [(7, .int (iI ((σ 14) (2 + 121 * r) - b))), (6, .int (iI 0)), (0, .ref bS), (1, .ref (ea E 0)), (2, .ref (ea E 13)), (3, .ref (ea E 21)), (4, .ref (ea E 22)), (5, .int (iI i))]) dL_law_795 (by decide) rfl (q := 797) rfl ?_
    refine g_aload_n C dL_law_797 4 rfl rfl (q := 798) rfl ?_
    refine g_cV_i C (As := []) (c_X5_thrown l E _) ml_L_157 mf_X5_thrown (o := 13) (ci := 5) rfl rfl rfl rfl ⟨(Nat.le_of_ble_eq_true rfl), (Nat.le_of_ble_eq_true rfl)⟩ rfl rfl rfl (Nat.le_of_ble_eq_true rfl) hkn dL_law_798 (q := 801) rfl ?_
    refine g_top (b := 0) rfl ?_
    refine g_iload C dL_law_801 1 rfl (q := 803) rfl ?_
    refine g_icmp_eq C dL_law_803 (by omega) (q2 := 808) rfl (q := 806) rfl (fun hb2 => ?_) (fun hb2 => ?_)
    · skip
      refine g_iload C dL_law_808 1 rfl (q := 810) rfl ?_
      refine g_if_ne C dL_law_810 (by omega) (q2 := 825) rfl (q := 813) rfl (fun hb3 => ?_) (fun hb3 => ?_)
      · skip
        exfalso; omega
      · skip
        refine g_aload_n C dL_law_813 5 rfl rfl (q := 814) rfl ?_
        refine g_iconst C dL_law_814 (q := 815) rfl ?_
        refine gl_21 C dL_law_815 (q := 816) rfl ?_
        refine g_topl (b := (wr (opR (σ 2) 4 r b c 0))) (show (pt (σ 21) 0 (wr (opR (σ 2) 4 r b c 0))) 0 = (wr (opR (σ 2) 4 r b c 0)) from pt_s _ _ _) ?_
        refine g_iload C dL_law_816 0 rfl (q := 818) rfl ?_
        refine g_i2lw C dL_law_818 (q := 819) rfl ?_
        refine g_lcmpE C (by exact congrArg wr (mAn_op hM (k := 4) (by omega) hq0).symm) dL_law_819 (q := 820) rfl ?_
        refine g_if_eq C dL_law_820 (by omega) (q2 := 825) rfl (q := 823) rfl (fun hb4 => ?_) (fun hb4 => ?_)
        · skip
          refine g_goto C dL_law_825 (q := 2912) rfl ?_
          refine g_sub [2, 3, 4, 5, 6, 7] (L' := [(0, .ref bS), (1, .ref (ea E 0)), (2, .ref (ea E 13)), (3, .ref (ea E 21)), (4, .ref (ea E 22)), (5, .int (iI i))]) rfl ?_
          exact K _ (by exact INV_chg hI (RW_op hM (k := 4) (by omega) hq0) rfl rfl rfl rfl rfl rfl rfl hI.2.1 hI.2.2.2)
        · skip
          exfalso; omega
    · skip
      exfalso; omega
  · skip
    refine g_cL C (hh := th_L_cut) (As := [.ref (ea E 0), .int (iI r), .int (iI b), .int (iI c), .ref (ea E 21)]) (c_L_cut_1 l hst E _ r b c  (by assumption) (by assumption) (by assumption) (by assumption) (by assumption)) ml_L_181 mf_L_cut rfl ⟨(Nat.le_of_ble_eq_true rfl), (Nat.le_of_ble_eq_true rfl)⟩ rfl rfl rfl (Nat.le_of_ble_eq_true rfl) hkn dL_law_768 (q := 771) rfl ?_
    refine g_istore C (L' := [(6, .int (iI 1)), (0, .ref bS), (1, .ref (ea E 0)), (2, .ref (ea E 13)), (3, .ref (ea E 21)), (4, .ref (ea E 22)), (5, .int (iI i))]) dL_law_771 (by decide) rfl (q := 773) rfl ?_
    refine g_aload_n C dL_law_773 3 rfl rfl (q := 774) rfl ?_
    refine g_aload_n C dL_law_774 1 rfl rfl (q := 775) rfl ?_
    refine g_iload C dL_law_775 6 rfl (q := 777) rfl ?_
    refine g_iconst C dL_law_777 (q := 778) rfl ?_
    refine g_iadd C dL_law_778 (q := 779) rfl ?_
    refine g_scr C hX (j := i + 1) (by omega) dL_law_779 (q := 780) rfl ?_
    refine g_top (b := r) hs_r ?_
    refine g_aload_n C dL_law_780 1 rfl rfl (q := 781) rfl ?_
    refine g_iload C dL_law_781 6 rfl (q := 783) rfl ?_
    refine g_iconst C dL_law_783 (q := 784) rfl ?_
    refine g_iadd C dL_law_784 (q := 785) rfl ?_
    refine g_scr C hX (j := i + 2) (by omega) dL_law_785 (q := 786) rfl ?_
    refine g_top (b := b) hs_b ?_
    refine g_aload_n C dL_law_786 1 rfl rfl (q := 787) rfl ?_
    refine g_iload C dL_law_787 6 rfl (q := 789) rfl ?_
    refine g_iconst C dL_law_789 (q := 790) rfl ?_
    refine g_iadd C dL_law_790 (q := 791) rfl ?_
    refine g_scr C hX (j := i + 3) (by omega) dL_law_791 (q := 792) rfl ?_
    refine g_top (b := c) hs_c ?_
    refine g_cV_i C (As := [.int (iI r), .int (iI b), .int (iI c)]) (c_X5_cut_1 l E _ r b c (σ 2) (by assumption) (by omega) (by omega) (by omega) (by assumption)) ml_L_183 mf_X5_cut (o := 13) (ci := 5) rfl rfl rfl rfl ⟨(Nat.le_of_ble_eq_true rfl), (Nat.le_of_ble_eq_true rfl)⟩ rfl rfl rfl (Nat.le_of_ble_eq_true rfl) hkn dL_law_792 (q := 795) rfl ?_
    refine g_istore C (L' := [(7, .int (iI 0)), (6, .int (iI 1)), (0, .ref bS), (1, .ref (ea E 0)), (2, .ref (ea E 13)), (3, .ref (ea E 21)), (4, .ref (ea E 22)), (5, .int (iI i))]) dL_law_795 (by decide) rfl (q := 797) rfl ?_
    refine g_aload_n C dL_law_797 4 rfl rfl (q := 798) rfl ?_
    refine g_cV_i C (As := []) (c_X5_thrown l E _) ml_L_157 mf_X5_thrown (o := 13) (ci := 5) rfl rfl rfl rfl ⟨(Nat.le_of_ble_eq_true rfl), (Nat.le_of_ble_eq_true rfl)⟩ rfl rfl rfl (Nat.le_of_ble_eq_true rfl) hkn dL_law_798 (q := 801) rfl ?_
    refine g_top (b := 1) rfl ?_
    refine g_iload C dL_law_801 1 rfl (q := 803) rfl ?_
    refine g_icmp_eq C dL_law_803 (by omega) (q2 := 808) rfl (q := 806) rfl (fun hb5 => ?_) (fun hb5 => ?_)
    · skip
      refine g_iload C dL_law_808 1 rfl (q := 810) rfl ?_
      refine g_if_ne C dL_law_810 (by omega) (q2 := 825) rfl (q := 813) rfl (fun hb6 => ?_) (fun hb6 => ?_)
      · skip
        refine g_goto C dL_law_825 (q := 2912) rfl ?_
        refine g_sub [2, 3, 4, 5, 6, 7] (L' := [(0, .ref bS), (1, .ref (ea E 0)), (2, .ref (ea E 13)), (3, .ref (ea E 21)), (4, .ref (ea E 22)), (5, .int (iI i))]) rfl ?_
        exact K _ (by exact hI)
      · skip
        exfalso; omega
    · skip
      exfalso; omega
  · skip
    refine g_cL C (hh := th_L_cut) (As := [.ref (ea E 0), .int (iI r), .int (iI b), .int (iI c), .ref (ea E 21)]) (c_L_cut_2 l hst E _ r b c  (by assumption) (by assumption) (by assumption) (by assumption) (by assumption)) ml_L_181 mf_L_cut rfl ⟨(Nat.le_of_ble_eq_true rfl), (Nat.le_of_ble_eq_true rfl)⟩ rfl rfl rfl (Nat.le_of_ble_eq_true rfl) hkn dL_law_768 (q := 771) rfl ?_
    refine g_istore C (L' := [(6, .int (iI 2)), (0, .ref bS), (1, .ref (ea E 0)), (2, .ref (ea E 13)), (3, .ref (ea E 21)), (4, .ref (ea E 22)), (5, .int (iI i))]) dL_law_771 (by decide) rfl (q := 773) rfl ?_
    refine g_aload_n C dL_law_773 3 rfl rfl (q := 774) rfl ?_
    refine g_aload_n C dL_law_774 1 rfl rfl (q := 775) rfl ?_
    refine g_iload C dL_law_775 6 rfl (q := 777) rfl ?_
    refine g_iconst C dL_law_777 (q := 778) rfl ?_
    refine g_iadd C dL_law_778 (q := 779) rfl ?_
    refine g_scr C hX (j := i + 1) (by omega) dL_law_779 (q := 780) rfl ?_
    refine g_top (b := r) hs_r ?_
    refine g_aload_n C dL_law_780 1 rfl rfl (q := 781) rfl ?_
    refine g_iload C dL_law_781 6 rfl (q := 783) rfl ?_
    refine g_iconst C dL_law_783 (q := 784) rfl ?_
    refine g_iadd C dL_law_784 (q := 785) rfl ?_
    refine g_scr C hX (j := i + 2) (by omega) dL_law_785 (q := 786) rfl ?_
    refine g_top (b := b) hs_b ?_
    refine g_aload_n C dL_law_786 1 rfl rfl (q := 787) rfl ?_
    refine g_iload C dL_law_787 6 rfl (q := 789) rfl ?_
    refine g_iconst C dL_law_789 (q := 790) rfl ?_
    refine g_iadd C dL_law_790 (q := 791) rfl ?_
    refine g_scr C hX (j := i + 3) (by omega) dL_law_791 (q := 792) rfl ?_
    refine g_top (b := c) hs_c ?_
    refine g_cV_i C (As := [.int (iI r), .int (iI b), .int (iI c)]) (c_X5_cut_2 l E _ r b c (σ 2) (by assumption) (by omega) (by omega) (by omega) (by assumption)) ml_L_183 mf_X5_cut (o := 13) (ci := 5) rfl rfl rfl rfl ⟨(Nat.le_of_ble_eq_true rfl), (Nat.le_of_ble_eq_true rfl)⟩ rfl rfl rfl (Nat.le_of_ble_eq_true rfl) hkn dL_law_792 (q := 795) rfl ?_
    refine g_istore C (L' := [(7, .int (iI 0)), (6, .int (iI 2)), (0, .ref bS), (1, .ref (ea E 0)), (2, .ref (ea E 13)), (3, .ref (ea E 21)), (4, .ref (ea E 22)), (5, .int (iI i))]) dL_law_795 (by decide) rfl (q := 797) rfl ?_
    refine g_aload_n C dL_law_797 4 rfl rfl (q := 798) rfl ?_
    refine g_cV_i C (As := []) (c_X5_thrown l E _) ml_L_157 mf_X5_thrown (o := 13) (ci := 5) rfl rfl rfl rfl ⟨(Nat.le_of_ble_eq_true rfl), (Nat.le_of_ble_eq_true rfl)⟩ rfl rfl rfl (Nat.le_of_ble_eq_true rfl) hkn dL_law_798 (q := 801) rfl ?_
    refine g_top (b := 2) rfl ?_
    refine g_iload C dL_law_801 1 rfl (q := 803) rfl ?_
    refine g_icmp_eq C dL_law_803 (by omega) (q2 := 808) rfl (q := 806) rfl (fun hb7 => ?_) (fun hb7 => ?_)
    · skip
      refine g_iload C dL_law_808 1 rfl (q := 810) rfl ?_
      refine g_if_ne C dL_law_810 (by omega) (q2 := 825) rfl (q := 813) rfl (fun hb8 => ?_) (fun hb8 => ?_)
      · skip
        refine g_goto C dL_law_825 (q := 2912) rfl ?_
        refine g_sub [2, 3, 4, 5, 6, 7] (L' := [(0, .ref bS), (1, .ref (ea E 0)), (2, .ref (ea E 13)), (3, .ref (ea E 21)), (4, .ref (ea E 22)), (5, .int (iI i))]) rfl ?_
        exact K _ (by exact hI)
      · skip
        exfalso; omega
    · skip
      exfalso; omega
  · skip
    refine g_cL C (hh := th_L_cut) (As := [.ref (ea E 0), .int (iI r), .int (iI b), .int (iI c), .ref (ea E 21)]) (c_L_cut_3 l hst E _ r b c  (by assumption) (by assumption) (by assumption) (by assumption) (by assumption)) ml_L_181 mf_L_cut rfl ⟨(Nat.le_of_ble_eq_true rfl), (Nat.le_of_ble_eq_true rfl)⟩ rfl rfl rfl (Nat.le_of_ble_eq_true rfl) hkn dL_law_768 (q := 771) rfl ?_
    refine g_istore C (L' := [(6, .int (iI 3)), (0, .ref bS), (1, .ref (ea E 0)), (2, .ref (ea E 13)), (3, .ref (ea E 21)), (4, .ref (ea E 22)), (5, .int (iI i))]) dL_law_771 (by decide) rfl (q := 773) rfl ?_
    refine g_aload_n C dL_law_773 3 rfl rfl (q := 774) rfl ?_
    refine g_aload_n C dL_law_774 1 rfl rfl (q := 775) rfl ?_
    refine g_iload C dL_law_775 6 rfl (q := 777) rfl ?_
    refine g_iconst C dL_law_777 (q := 778) rfl ?_
    refine g_iadd C dL_law_778 (q := 779) rfl ?_
    refine g_scr C hX (j := i + 1) (by omega) dL_law_779 (q := 780) rfl ?_
    refine g_top (b := r) hs_r ?_
    refine g_aload_n C dL_law_780 1 rfl rfl (q := 781) rfl ?_
    refine g_iload C dL_law_781 6 rfl (q := 783) rfl ?_
    refine g_iconst C dL_law_783 (q := 784) rfl ?_
    refine g_iadd C dL_law_784 (q := 785) rfl ?_
    refine g_scr C hX (j := i + 2) (by omega) dL_law_785 (q := 786) rfl ?_
    refine g_top (b := b) hs_b ?_
    refine g_aload_n C dL_law_786 1 rfl rfl (q := 787) rfl ?_
    refine g_iload C dL_law_787 6 rfl (q := 789) rfl ?_
    refine g_iconst C dL_law_789 (q := 790) rfl ?_
    refine g_iadd C dL_law_790 (q := 791) rfl ?_
    refine g_scr C hX (j := i + 3) (by omega) dL_law_791 (q := 792) rfl ?_
    refine g_top (b := c) hs_c ?_
    refine g_cV_i C (As := [.int (iI r), .int (iI b), .int (iI c)]) (c_X5_cut_3 l E _ r b c (σ 2) (by assumption) (by omega) (by omega) (by omega) (by assumption)) ml_L_183 mf_X5_cut (o := 13) (ci := 5) rfl rfl rfl rfl ⟨(Nat.le_of_ble_eq_true rfl), (Nat.le_of_ble_eq_true rfl)⟩ rfl rfl rfl (Nat.le_of_ble_eq_true rfl) hkn dL_law_792 (q := 795) rfl ?_
    refine g_istore C (L' := [(7, .int (iI 0)), (6, .int (iI 3)), (0, .ref bS), (1, .ref (ea E 0)), (2, .ref (ea E 13)), (3, .ref (ea E 21)), (4, .ref (ea E 22)), (5, .int (iI i))]) dL_law_795 (by decide) rfl (q := 797) rfl ?_
    refine g_aload_n C dL_law_797 4 rfl rfl (q := 798) rfl ?_
    refine g_cV_i C (As := []) (c_X5_thrown l E _) ml_L_157 mf_X5_thrown (o := 13) (ci := 5) rfl rfl rfl rfl ⟨(Nat.le_of_ble_eq_true rfl), (Nat.le_of_ble_eq_true rfl)⟩ rfl rfl rfl (Nat.le_of_ble_eq_true rfl) hkn dL_law_798 (q := 801) rfl ?_
    refine g_top (b := 3) rfl ?_
    refine g_iload C dL_law_801 1 rfl (q := 803) rfl ?_
    refine g_icmp_eq C dL_law_803 (by omega) (q2 := 808) rfl (q := 806) rfl (fun hb9 => ?_) (fun hb9 => ?_)
    · skip
      refine g_iload C dL_law_808 1 rfl (q := 810) rfl ?_
      refine g_if_ne C dL_law_810 (by omega) (q2 := 825) rfl (q := 813) rfl (fun hb10 => ?_) (fun hb10 => ?_)
      · skip
        refine g_goto C dL_law_825 (q := 2912) rfl ?_
        refine g_sub [2, 3, 4, 5, 6, 7] (L' := [(0, .ref bS), (1, .ref (ea E 0)), (2, .ref (ea E 13)), (3, .ref (ea E 21)), (4, .ref (ea E 22)), (5, .int (iI i))]) rfl ?_
        exact K _ (by exact hI)
      · skip
        exfalso; omega
    · skip
      exfalso; omega
