theorem tot_sb9 {f : Int → Int} (hW : CW f) (hP : PW f) : 0 + sb f 0 (f (240 + 0)) + sb f 1 (f (240 + 1)) + sb f 2 (f (240 + 2)) + sb f 3 (f (240 + 3)) = tot f := by
  unfold tot
  rw [sgl_sb hW hP (r := 0) (by omega), sgl_sb hW hP (r := 1) (by omega), sgl_sb hW hP (r := 2) (by omega), sgl_sb hW hP (r := 3) (by omega)]
  omega
theorem LOK_1 {kind r q res : Int} {f g : Int → Int} (h : LOK kind f g r q res) : (18 ≤ kind ∧ kind ≤ 22 → g 308 = f 308 + 1) ∧ (¬ (18 ≤ kind ∧ kind ≤ 22) → g 308 = f 308) :=
  ⟨fun hk => by rw [h.1, if_pos hk], fun hk => by rw [h.1, if_neg hk]; omega⟩
theorem LOK_2 {kind r q res : Int} {f g : Int → Int} (h : LOK kind f g r q res) : kind ≤ 38 → (23 ≤ kind ∧ kind ≤ 27 → g 309 = f 309 + 1) ∧ (¬ (23 ≤ kind ∧ kind ≤ 27) → g 309 = f 309) :=
  fun h3 => ⟨fun hk => by rw [h.2.1 h3, if_pos hk], fun hk => by rw [h.2.1 h3, if_neg hk]; omega⟩
theorem INV_st {σ : SS} (hW : CW (σ 2)) (hP : PW (σ 2)) (hz : σ 2 308 = 0 ∧ σ 2 309 = 0 ∧ σ 5 1 = 0 ∧ σ 5 2 = 0 ∧ σ 7 1 = 0) (hKP : KPW (σ 9) (σ 10)) : INV (st σ 13 (pt (σ 13) 0 (SUM (σ 2)))) 0 0 := by
  obtain ⟨h1, h2, h3, h4, h5⟩ := hz
  refine ⟨hW, hP, ⟨⟨?_, ?_⟩, ?_, ?_⟩, ⟨?_, ?_, ?_⟩, hKP, h5, ?_, fun i h0 h9 => ?_⟩
  · show 0 ≤ σ 2 308; omega
  · show σ 2 308 ≤ 0; omega
  · show 0 ≤ σ 2 309; omega
  · show σ 2 309 ≤ 8 * 0; omega
  · show 0 ≤ σ 5 1; omega
  · show σ 5 1 < 8; omega
  · show σ 5 2 = min 0 8; omega
  · show pt (σ 13) 0 (SUM (σ 2)) 0 = SUM (σ 2)
    exact pt_s _ _ _
  · have h9' : i < σ 5 2 := h9
    omega
set_option maxRecDepth 100000 in
set_option maxHeartbeats 16000000 in
theorem law_15 {p_ : Program} {l : Launch} {e_ : Env} {s_ : State} {m_ : MethodId} {a_ : Array Value} {b_ : List Frame} {h_ : Method} {c_ : Code} {E : EV} {A : Nat → Prop} {Q : State → Prop} (hst : l.stackTraces = false) (C : CX p_ l e_ room_1 s_ m_ a_ b_ h_ c_ RL cL_law 21 E A (some .boolean)) (hN : (eN E : Int) ≤ 260) (σ : SS) (hW : CW (σ 2)) (hP : PW (σ 2)) (hz : σ 2 308 = 0 ∧ σ 2 309 = 0 ∧ σ 5 1 = 0 ∧ σ 5 2 = 0 ∧ σ 7 1 = 0) (hKP : KPW (σ 9) (σ 10)) (k0 n0 : Nat) (hk0 : k0 ≤ 1000) (hn0 : n0 ≤ 100000) (hend : ∀ (σ' : SS) (k n : Nat) (L : List (Nat × Value)), k ≤ 600312 → n ≤ 7292162 → GG p_ l e_ room_1 s_ m_ a_ b_ h_ c_ Q E A 21 σ' k n 709 L [.int (iI 1)]) : GG p_ l e_ room_1 s_ m_ a_ b_ h_ c_ Q E A 21 σ k0 n0 15 [(0, .ref (eb E)), (1, .ref (ea E 0)), (2, .ref (ea E 13)), (3, .int (iI 0))] [] := by
  refine g_aload_n C dL_law_15 2 rfl rfl (q := 16) rfl ?_
  refine g_iload_n C dL_law_16 3 rfl rfl (q := 17) rfl ?_
  refine g_aload_n C dL_law_17 1 rfl rfl (q := 18) rfl ?_
  refine g_cN_l C (As := [.ref (ea E 0)]) (c_L_sum l hst E _   (by first | assumption | omega) (by omega)) ml_L_178 mf_L_sum rfl rfl ⟨(Nat.le_of_ble_eq_true rfl), (Nat.le_of_ble_eq_true rfl)⟩ rfl rfl rfl (Nat.le_of_ble_eq_true rfl) ⟨by show k0 + 0 ≤ 600312; omega, by show n0 + 0 ≤ 7292162; omega⟩ dL_law_18 (q := 21) rfl ?_
  refine g_k (k2 := k0) (n2 := n0) (by omega) (by omega) ?_
  refine gs_13 C (by omega) dL_law_21 (q := 22) rfl ?_
  refine g_iconst C dL_law_22 (q := 23) rfl ?_
  refine g_istore C (L' := [(4, .int (iI 0)), (0, .ref (eb E)), (1, .ref (ea E 0)), (2, .ref (ea E 13)), (3, .int (iI 0))]) dL_law_23 (by decide) rfl (q := 25) rfl ?_
  refine g_iconst C dL_law_25 (q := 26) rfl ?_
  refine g_istore C (L' := [(5, .int (iI 0)), (4, .int (iI 0)), (0, .ref (eb E)), (1, .ref (ea E 0)), (2, .ref (ea E 13)), (3, .int (iI 0))]) dL_law_26 (by decide) rfl (q := 28) rfl ?_
  refine g_sub [2, 3, 4, 5, 1, 0] (L' := [(0, .ref (eb E)), (1, .ref (ea E 0)), (2, .ref (ea E 13)), (3, .int (iI 0)), (4, .int (iI 0)), (5, .int (iI 0))]) rfl ?_
  have lp28 : ∀ (k9 : Nat) (ρ : SS) (made : Int) (kk : Int) (rd : Int) (ka na : Nat), (56 - rd).toNat < k9 → (0 ≤ rd ∧ rd ≤ 56) → (0 ≤ made ∧ made ≤ rd) → (kk = 6 * rd) → (INV ρ made rd) → ((ka : Int) ≤ 1000 + 130 * rd) → ((na : Int) ≤ 100000 + 2700 * rd) → GG p_ l e_ room_1 s_ m_ a_ b_ h_ c_ Q E A 21 ρ ka na 28 [(0, .ref (eb E)), (1, .ref (ea E 0)), (2, .ref (ea E 13)), (3, .int (iI made)), (4, .int (iI kk)), (5, .int (iI rd))] [] := by
    intro k9
    induction k9 with
    | zero => intro ρ made kk rd ka na hk9; omega
    | succ k9 ih28 =>
      intro ρ made kk rd ka na hk9 hrd hm hkk hI hka hna
      have hW := hI.1
      have hP := hI.2.1
      have hB := hI.2.2.1
      have h5m := hI.2.2.2.1
      have hR5 : 0 ≤ ρ 5 1 ∧ ρ 5 1 < 8 ∧ 0 ≤ ρ 5 2 ∧ ρ 5 2 ≤ 8 := by omega
      have hKP := hI.2.2.2.2.1
      have h71 := hI.2.2.2.2.2.1
      refine g_iload C dL_law_28 5 rfl (q := 30) rfl ?_
      refine g_bipush C dL_law_30 (by decide) (q := 32) rfl ?_
      refine g_icmp_ge C dL_law_32 (by omega) (q2 := 703) rfl (q := 35) rfl (fun hb1 => ?_) (fun hb1 => ?_)
      · skip
        refine g_aload_n C dL_law_703 1 rfl rfl (q := 704) rfl ?_
        refine g_aload_n C dL_law_704 2 rfl rfl (q := 705) rfl ?_
        refine g_iload_n C dL_law_705 3 rfl rfl (q := 706) rfl ?_
        refine g_cX_i C (As := [.ref (ea E 0), .ref (ea E 13), .int (iI made)]) (c_L_isKept l hst E _ made  (by exact ⟨hI.1, hI.2.1, by have := hI.2.2.1; omega, hI.2.2.2⟩) (by first | assumption | omega)) ml_L_213 mf_L_isKept rfl rfl ⟨(Nat.le_of_ble_eq_true rfl), (Nat.le_of_ble_eq_true rfl)⟩ rfl rfl rfl (Nat.le_of_ble_eq_true rfl) ⟨by show ka + 4 ≤ 600312; omega, by show na + 24 ≤ 7292162; omega⟩ dL_law_706 (q := 709) rfl (fun vk σk hk9 => ?_)
        refine g_k (k2 := (ka + 4)) (n2 := (na + 24)) (by omega) (by omega) ?_
        refine g_top (b := 1) (by omega) ?_
        exact hend _ _ _ _ (by omega) (by omega)
      · skip
        refine g_aload_n C dL_law_35 1 rfl rfl (q := 36) rfl ?_
        refine g_cN_l C (As := [.ref (ea E 0)]) (c_L_sum l hst E _   (by first | assumption | omega) (by first | assumption | omega)) ml_L_178 mf_L_sum rfl rfl ⟨(Nat.le_of_ble_eq_true rfl), (Nat.le_of_ble_eq_true rfl)⟩ rfl rfl rfl (Nat.le_of_ble_eq_true rfl) ⟨by show ka + 0 ≤ 600312; omega, by show na + 0 ≤ 7292162; omega⟩ dL_law_36 (q := 39) rfl ?_
        refine g_k (k2 := ka) (n2 := na) (by omega) (by omega) ?_
        refine g_lstore C (L' := [(6, .long (iL (SUM (ρ 2)))), (0, .ref (eb E)), (1, .ref (ea E 0)), (2, .ref (ea E 13)), (3, .int (iI made)), (4, .int (iI kk)), (5, .int (iI rd))]) dL_law_39 (by decide) rfl (q := 41) rfl ?_
        have j41_1 : ∀ (kd : Int), (0 ≤ kd ∧ kd ≤ 39) → GG p_ l e_ room_1 s_ m_ a_ b_ h_ c_ Q E A 21 ρ ka na 60 [(6, .long (iL (SUM (ρ 2)))), (0, .ref (eb E)), (1, .ref (ea E 0)), (2, .ref (ea E 13)), (3, .int (iI made)), (4, .int (iI kk)), (5, .int (iI rd))] [.int (iI kd)] := by
          intro kd hkd
          refine g_istore C (L' := [(8, .int (iI kd)), (6, .long (iL (SUM (ρ 2)))), (0, .ref (eb E)), (1, .ref (ea E 0)), (2, .ref (ea E 13)), (3, .int (iI made)), (4, .int (iI kk)), (5, .int (iI rd))]) dL_law_60 (by decide) rfl (q := 62) rfl ?_
          have j62_2 : ∀ (rr : Int), (0 ≤ rr ∧ rr ≤ 4) → GG p_ l e_ room_1 s_ m_ a_ b_ h_ c_ Q E A 21 ρ ka na 85 [(8, .int (iI kd)), (6, .long (iL (SUM (ρ 2)))), (0, .ref (eb E)), (1, .ref (ea E 0)), (2, .ref (ea E 13)), (3, .int (iI made)), (4, .int (iI kk)), (5, .int (iI rd))] [.int (iI rr)] := by
            intro rr hrr
            refine g_istore C (L' := [(9, .int (iI rr)), (8, .int (iI kd)), (6, .long (iL (SUM (ρ 2)))), (0, .ref (eb E)), (1, .ref (ea E 0)), (2, .ref (ea E 13)), (3, .int (iI made)), (4, .int (iI kk)), (5, .int (iI rd))]) dL_law_85 (by decide) rfl (q := 87) rfl ?_
            have j87_3 : ∀ (qq : Int), (0 ≤ qq ∧ qq ≤ 4) → GG p_ l e_ room_1 s_ m_ a_ b_ h_ c_ Q E A 21 ρ ka na 110 [(9, .int (iI rr)), (8, .int (iI kd)), (6, .long (iL (SUM (ρ 2)))), (0, .ref (eb E)), (1, .ref (ea E 0)), (2, .ref (ea E 13)), (3, .int (iI made)), (4, .int (iI kk)), (5, .int (iI rd))] [.int (iI qq)] := by
              intro qq hqq
              refine g_istore C (L' := [(10, .int (iI qq)), (9, .int (iI rr)), (8, .int (iI kd)), (6, .long (iL (SUM (ρ 2)))), (0, .ref (eb E)), (1, .ref (ea E 0)), (2, .ref (ea E 13)), (3, .int (iI made)), (4, .int (iI kk)), (5, .int (iI rd))]) dL_law_110 (by decide) rfl (q := 112) rfl ?_
              have j112_4 : ∀ (c1 : Int), ((0 ≤ rr ∧ rr < 4 → c1 = (ρ 2) (240 + rr)) ∧ -100 ≤ c1 ∧ c1 ≤ 60) → GG p_ l e_ room_1 s_ m_ a_ b_ h_ c_ Q E A 21 ρ (ka + 1) (na + 6) 118 [(10, .int (iI qq)), (9, .int (iI rr)), (8, .int (iI kd)), (6, .long (iL (SUM (ρ 2)))), (0, .ref (eb E)), (1, .ref (ea E 0)), (2, .ref (ea E 13)), (3, .int (iI made)), (4, .int (iI kk)), (5, .int (iI rd))] [.int (iI c1)] := by
                intro c1 hc1
                refine g_istore C (L' := [(11, .int (iI c1)), (10, .int (iI qq)), (9, .int (iI rr)), (8, .int (iI kd)), (6, .long (iL (SUM (ρ 2)))), (0, .ref (eb E)), (1, .ref (ea E 0)), (2, .ref (ea E 13)), (3, .int (iI made)), (4, .int (iI kk)), (5, .int (iI rd))]) dL_law_118 (by decide) rfl (q := 120) rfl ?_
                have j120_5 : ∀ (c2 : Int), ((0 ≤ qq ∧ qq < 4 → c2 = (ρ 2) (240 + qq)) ∧ -100 ≤ c2 ∧ c2 ≤ 60) → GG p_ l e_ room_1 s_ m_ a_ b_ h_ c_ Q E A 21 ρ (ka + 2) (na + 12) 126 [(11, .int (iI c1)), (10, .int (iI qq)), (9, .int (iI rr)), (8, .int (iI kd)), (6, .long (iL (SUM (ρ 2)))), (0, .ref (eb E)), (1, .ref (ea E 0)), (2, .ref (ea E 13)), (3, .int (iI made)), (4, .int (iI kk)), (5, .int (iI rd))] [.int (iI c2)] := by
                  intro c2 hc2
                  refine g_istore C (L' := [(12, .int (iI c2)), (11, .int (iI c1)), (10, .int (iI qq)), (9, .int (iI rr)), (8, .int (iI kd)), (6, .long (iL (SUM (ρ 2)))), (0, .ref (eb E)), (1, .ref (ea E 0)), (2, .ref (ea E 13)), (3, .int (iI made)), (4, .int (iI kk)), (5, .int (iI rd))]) dL_law_126 (by decide) rfl (q := 128) rfl ?_
                  have j128_6 : ∀ (l1 : Int), ((0 ≤ rr ∧ rr < 4 → l1 = sgl (ρ 2) rr) ∧ -100 ≤ l1 ∧ l1 ≤ 6000) → GG p_ l e_ room_1 s_ m_ a_ b_ h_ c_ Q E A 21 ρ (ka + 3) (na + 18) 134 [(12, .int (iI c2)), (11, .int (iI c1)), (10, .int (iI qq)), (9, .int (iI rr)), (8, .int (iI kd)), (6, .long (iL (SUM (ρ 2)))), (0, .ref (eb E)), (1, .ref (ea E 0)), (2, .ref (ea E 13)), (3, .int (iI made)), (4, .int (iI kk)), (5, .int (iI rd))] [.int (iI l1)] := by
                    intro l1 hl1
                    refine g_istore C (L' := [(13, .int (iI l1)), (12, .int (iI c2)), (11, .int (iI c1)), (10, .int (iI qq)), (9, .int (iI rr)), (8, .int (iI kd)), (6, .long (iL (SUM (ρ 2)))), (0, .ref (eb E)), (1, .ref (ea E 0)), (2, .ref (ea E 13)), (3, .int (iI made)), (4, .int (iI kk)), (5, .int (iI rd))]) dL_law_134 (by decide) rfl (q := 136) rfl ?_
                    refine g_aload_n C dL_law_136 8 rfl rfl (q := 137) rfl ?_
                    refine g_cV_l C (As := []) (c_X4_totalLength l E _  (by first | assumption | omega) (by first | assumption | omega)) ml_L_190 mf_X4_totalLength (o := 0) (ci := 4) rfl rfl rfl rfl ⟨(Nat.le_of_ble_eq_true rfl), (Nat.le_of_ble_eq_true rfl)⟩ rfl rfl rfl (Nat.le_of_ble_eq_true rfl) ⟨by show (ka + 3) + 0 ≤ 600312; omega, by show (na + 18) + 0 ≤ 7292162; omega⟩ dL_law_137 (q := 140) rfl ?_
                    refine g_toplc (b := tot (ρ 2)) (by exact tot_sb9 hW hP) ?_
                    refine g_lstore C (L' := [(14, .long (iL (tot (ρ 2)))), (13, .int (iI l1)), (12, .int (iI c2)), (11, .int (iI c1)), (10, .int (iI qq)), (9, .int (iI rr)), (8, .int (iI kd)), (6, .long (iL (SUM (ρ 2)))), (0, .ref (eb E)), (1, .ref (ea E 0)), (2, .ref (ea E 13)), (3, .int (iI made)), (4, .int (iI kk)), (5, .int (iI rd))]) dL_law_140 (by decide) rfl (q := 142) rfl ?_
                    refine g_aload_n C dL_law_142 9 rfl rfl (q := 143) rfl ?_
                    refine g_cV_i C (As := []) (c_X4_cutCount l E _  ) ml_L_194 mf_X4_cutCount (o := 0) (ci := 4) rfl rfl rfl rfl ⟨(Nat.le_of_ble_eq_true rfl), (Nat.le_of_ble_eq_true rfl)⟩ rfl rfl rfl (Nat.le_of_ble_eq_true rfl) ⟨by show (ka + 3) + 0 ≤ 600312; omega, by show (na + 18) + 0 ≤ 7292162; omega⟩ dL_law_143 (q := 146) rfl ?_
                    refine g_istore C (L' := [(16, .int (iI ((ρ 2) 308))), (14, .long (iL (tot (ρ 2)))), (13, .int (iI l1)), (12, .int (iI c2)), (11, .int (iI c1)), (10, .int (iI qq)), (9, .int (iI rr)), (8, .int (iI kd)), (6, .long (iL (SUM (ρ 2)))), (0, .ref (eb E)), (1, .ref (ea E 0)), (2, .ref (ea E 13)), (3, .int (iI made)), (4, .int (iI kk)), (5, .int (iI rd))]) dL_law_146 (by decide) rfl (q := 148) rfl ?_
                    refine g_aload_n C dL_law_148 10 rfl rfl (q := 149) rfl ?_
                    refine g_cV_i C (As := []) (c_X4_spliceCount l E _  ) ml_L_197 mf_X4_spliceCount (o := 0) (ci := 4) rfl rfl rfl rfl ⟨(Nat.le_of_ble_eq_true rfl), (Nat.le_of_ble_eq_true rfl)⟩ rfl rfl rfl (Nat.le_of_ble_eq_true rfl) ⟨by show (ka + 3) + 0 ≤ 600312; omega, by show (na + 18) + 0 ≤ 7292162; omega⟩ dL_law_149 (q := 152) rfl ?_
                    refine g_istore C (L' := [(17, .int (iI ((ρ 2) 309))), (16, .int (iI ((ρ 2) 308))), (14, .long (iL (tot (ρ 2)))), (13, .int (iI l1)), (12, .int (iI c2)), (11, .int (iI c1)), (10, .int (iI qq)), (9, .int (iI rr)), (8, .int (iI kd)), (6, .long (iL (SUM (ρ 2)))), (0, .ref (eb E)), (1, .ref (ea E 0)), (2, .ref (ea E 13)), (3, .int (iI made)), (4, .int (iI kk)), (5, .int (iI rd))]) dL_law_152 (by decide) rfl (q := 154) rfl ?_
                    refine g_aload_n C dL_law_154 10 rfl rfl (q := 155) rfl ?_
                    refine g_iload C dL_law_155 14 rfl (q := 157) rfl ?_
                    refine g_iload C dL_law_157 8 rfl (q := 159) rfl ?_
                    refine g_aload_n C dL_law_159 11 rfl rfl (q := 160) rfl ?_
                    refine g_iload C dL_law_160 7 rfl (q := 162) rfl ?_
                    refine g_iload C dL_law_162 6 rfl (q := 164) rfl ?_
                    refine g_iconst C dL_law_164 (q := 165) rfl ?_
                    refine g_iload C dL_law_165 5 rfl (q := 167) rfl ?_
                    refine g_max C ml_L_200 (by omega) dL_law_167 (Nat.le_of_ble_eq_true rfl) (Nat.le_of_ble_eq_true rfl) (by show (ka + 3) ≤ 600312; omega) (by show (na + 18) ≤ 7292162; omega) (q := 170) rfl ?_
                    refine g_cX_i C (As := [.ref (eb E), .int (iI kk), .int (iI kd), .ref (ea E 0), .int (iI rr), .int (iI qq), .int (iI (max 0 c1))]) (c_L_does l hst E _ kk kd rr qq (max 0 c1)  (by first | assumption | omega) (by first | assumption | omega) (by first | assumption | omega) (by first | assumption | omega) (by first | assumption | omega) (by first | assumption | omega) (by first | assumption | omega) (by first | assumption | omega) (by first | assumption | omega) (by first | assumption | omega) (by first | assumption | omega)) ml_L_205 mf_L_does rfl rfl ⟨(Nat.le_of_ble_eq_true rfl), (Nat.le_of_ble_eq_true rfl)⟩ rfl rfl rfl (Nat.le_of_ble_eq_true rfl) ⟨by show (ka + 3) + 24 ≤ 600312; omega, by show (na + 18) + 2000 ≤ 7292162; omega⟩ dL_law_170 (q := 173) rfl (fun res τ hd9 => ?_)
                    refine g_k (k2 := (ka + 27)) (n2 := (na + 2018)) (by omega) (by omega) ?_
                    refine g_istore C (L' := [(18, .int (iI res)), (17, .int (iI ((ρ 2) 309))), (16, .int (iI ((ρ 2) 308))), (14, .long (iL (tot (ρ 2)))), (13, .int (iI l1)), (12, .int (iI c2)), (11, .int (iI c1)), (10, .int (iI qq)), (9, .int (iI rr)), (8, .int (iI kd)), (6, .long (iL (SUM (ρ 2)))), (0, .ref (eb E)), (1, .ref (ea E 0)), (2, .ref (ea E 13)), (3, .int (iI made)), (4, .int (iI kk)), (5, .int (iI rd))]) dL_law_173 (by decide) rfl (q := 175) rfl ?_
                    rcases (show (-70 < res ∧ LOK kd (ρ 2) (τ 2) rr qq res ∧ CHG ρ τ) ∨ (-79 ≤ res ∧ res ≤ -77 ∧ SAME ρ τ) by exact hd9) with ⟨hd1, hL, hC⟩ | ⟨hd1, hd2, hS⟩
                    · skip
                      have hW2 := hC.1
                      have hP2 := hC.2.1
                      have e1 := LOK_1 hL
                      have e2 := LOK_2 hL
                      have e3 := hL.2.2.1
                      have e13 := hL.2.2.2.2.2.2.2.2.2.2.2.2
                      refine g_iload C dL_law_175 0 rfl (q := 177) rfl ?_
                      refine g_bipush C dL_law_177 (by decide) (q := 179) rfl ?_
                      refine g_icmp_le C dL_law_179 (by omega) (q2 := 186) rfl (q := 182) rfl (fun hb2 => ?_) (fun hb2 => ?_)
                      · skip
                        exfalso; omega
                      · skip
                        refine g_iconst C dL_law_182 (q := 183) rfl ?_
                        refine g_goto C dL_law_183 (q := 187) rfl ?_
                        refine g_istore C (L' := [(19, .int (iI 1)), (18, .int (iI res)), (17, .int (iI ((ρ 2) 309))), (16, .int (iI ((ρ 2) 308))), (14, .long (iL (tot (ρ 2)))), (13, .int (iI l1)), (12, .int (iI c2)), (11, .int (iI c1)), (10, .int (iI qq)), (9, .int (iI rr)), (8, .int (iI kd)), (6, .long (iL (SUM (ρ 2)))), (0, .ref (eb E)), (1, .ref (ea E 0)), (2, .ref (ea E 13)), (3, .int (iI made)), (4, .int (iI kk)), (5, .int (iI rd))]) dL_law_187 (by decide) rfl (q := 189) rfl ?_
                        have j189_7 : GG p_ l e_ room_1 s_ m_ a_ b_ h_ c_ Q E A 21 τ (ka + 27) (na + 2018) 269 [(19, .int (iI 1)), (18, .int (iI res)), (17, .int (iI ((ρ 2) 309))), (16, .int (iI ((ρ 2) 308))), (14, .long (iL (tot (ρ 2)))), (13, .int (iI l1)), (12, .int (iI c2)), (11, .int (iI c1)), (10, .int (iI qq)), (9, .int (iI rr)), (8, .int (iI kd)), (6, .long (iL (SUM (ρ 2)))), (0, .ref (eb E)), (1, .ref (ea E 0)), (2, .ref (ea E 13)), (3, .int (iI made)), (4, .int (iI kk)), (5, .int (iI rd))] [.int (iI 1)] := by
                          refine g_istore C (L' := [(20, .int (iI 1)), (19, .int (iI 1)), (18, .int (iI res)), (17, .int (iI ((ρ 2) 309))), (16, .int (iI ((ρ 2) 308))), (14, .long (iL (tot (ρ 2)))), (13, .int (iI l1)), (12, .int (iI c2)), (11, .int (iI c1)), (10, .int (iI qq)), (9, .int (iI rr)), (8, .int (iI kd)), (6, .long (iL (SUM (ρ 2)))), (0, .ref (eb E)), (1, .ref (ea E 0)), (2, .ref (ea E 13)), (3, .int (iI made)), (4, .int (iI kk)), (5, .int (iI rd))]) dL_law_269 (by decide) rfl (q := 271) rfl ?_
                          refine g_iload C dL_law_271 0 rfl (q := 273) rfl ?_
                          have j273_8 : GG p_ l e_ room_1 s_ m_ a_ b_ h_ c_ Q E A 21 τ (ka + 27) (na + 2018) 312 [(20, .int (iI 1)), (19, .int (iI 1)), (18, .int (iI res)), (17, .int (iI ((ρ 2) 309))), (16, .int (iI ((ρ 2) 308))), (14, .long (iL (tot (ρ 2)))), (13, .int (iI l1)), (12, .int (iI c2)), (11, .int (iI c1)), (10, .int (iI qq)), (9, .int (iI rr)), (8, .int (iI kd)), (6, .long (iL (SUM (ρ 2)))), (0, .ref (eb E)), (1, .ref (ea E 0)), (2, .ref (ea E 13)), (3, .int (iI made)), (4, .int (iI kk)), (5, .int (iI rd))] [.int (iI 1), .int (iI 1)] := by
                            refine g_iand01 C (by omega) (by omega) dL_law_312 (q := 313) rfl ?_
                            refine g_top (b := 1) (by decide) ?_
                            refine g_istore C (L' := [(20, .int (iI 1)), (19, .int (iI 1)), (18, .int (iI res)), (17, .int (iI ((ρ 2) 309))), (16, .int (iI ((ρ 2) 308))), (14, .long (iL (tot (ρ 2)))), (13, .int (iI l1)), (12, .int (iI c2)), (11, .int (iI c1)), (10, .int (iI qq)), (9, .int (iI rr)), (8, .int (iI kd)), (6, .long (iL (SUM (ρ 2)))), (0, .ref (eb E)), (1, .ref (ea E 0)), (2, .ref (ea E 13)), (3, .int (iI made)), (4, .int (iI kk)), (5, .int (iI rd))]) dL_law_313 (by decide) rfl (q := 315) rfl ?_
                            refine g_iload C dL_law_315 0 rfl (q := 317) rfl ?_
                            have j317_9 : GG p_ l e_ room_1 s_ m_ a_ b_ h_ c_ Q E A 21 τ (ka + 27) (na + 2018) 368 [(20, .int (iI 1)), (19, .int (iI 1)), (18, .int (iI res)), (17, .int (iI ((ρ 2) 309))), (16, .int (iI ((ρ 2) 308))), (14, .long (iL (tot (ρ 2)))), (13, .int (iI l1)), (12, .int (iI c2)), (11, .int (iI c1)), (10, .int (iI qq)), (9, .int (iI rr)), (8, .int (iI kd)), (6, .long (iL (SUM (ρ 2)))), (0, .ref (eb E)), (1, .ref (ea E 0)), (2, .ref (ea E 13)), (3, .int (iI made)), (4, .int (iI kk)), (5, .int (iI rd))] [.int (iI 1), .int (iI 1)] := by
                              refine g_iand01 C (by omega) (by omega) dL_law_368 (q := 369) rfl ?_
                              refine g_top (b := 1) (by decide) ?_
                              refine g_istore C (L' := [(20, .int (iI 1)), (19, .int (iI 1)), (18, .int (iI res)), (17, .int (iI ((ρ 2) 309))), (16, .int (iI ((ρ 2) 308))), (14, .long (iL (tot (ρ 2)))), (13, .int (iI l1)), (12, .int (iI c2)), (11, .int (iI c1)), (10, .int (iI qq)), (9, .int (iI rr)), (8, .int (iI kd)), (6, .long (iL (SUM (ρ 2)))), (0, .ref (eb E)), (1, .ref (ea E 0)), (2, .ref (ea E 13)), (3, .int (iI made)), (4, .int (iI kk)), (5, .int (iI rd))]) dL_law_369 (by decide) rfl (q := 371) rfl ?_
                              refine g_iload C dL_law_371 0 rfl (q := 373) rfl ?_
                              have j373_10 : GG p_ l e_ room_1 s_ m_ a_ b_ h_ c_ Q E A 21 τ (ka + 27) (na + 2018) 407 [(20, .int (iI 1)), (19, .int (iI 1)), (18, .int (iI res)), (17, .int (iI ((ρ 2) 309))), (16, .int (iI ((ρ 2) 308))), (14, .long (iL (tot (ρ 2)))), (13, .int (iI l1)), (12, .int (iI c2)), (11, .int (iI c1)), (10, .int (iI qq)), (9, .int (iI rr)), (8, .int (iI kd)), (6, .long (iL (SUM (ρ 2)))), (0, .ref (eb E)), (1, .ref (ea E 0)), (2, .ref (ea E 13)), (3, .int (iI made)), (4, .int (iI kk)), (5, .int (iI rd))] [.int (iI 1), .int (iI 1)] := by
                                refine g_iand01 C (by omega) (by omega) dL_law_407 (q := 408) rfl ?_
                                refine g_top (b := 1) (by decide) ?_
                                refine g_istore C (L' := [(20, .int (iI 1)), (19, .int (iI 1)), (18, .int (iI res)), (17, .int (iI ((ρ 2) 309))), (16, .int (iI ((ρ 2) 308))), (14, .long (iL (tot (ρ 2)))), (13, .int (iI l1)), (12, .int (iI c2)), (11, .int (iI c1)), (10, .int (iI qq)), (9, .int (iI rr)), (8, .int (iI kd)), (6, .long (iL (SUM (ρ 2)))), (0, .ref (eb E)), (1, .ref (ea E 0)), (2, .ref (ea E 13)), (3, .int (iI made)), (4, .int (iI kk)), (5, .int (iI rd))]) dL_law_408 (by decide) rfl (q := 410) rfl ?_
                                refine g_iload C dL_law_410 0 rfl (q := 412) rfl ?_
                                have j412_11 : GG p_ l e_ room_1 s_ m_ a_ b_ h_ c_ Q E A 21 τ (ka + 27) (na + 2018) 461 [(20, .int (iI 1)), (19, .int (iI 1)), (18, .int (iI res)), (17, .int (iI ((ρ 2) 309))), (16, .int (iI ((ρ 2) 308))), (14, .long (iL (tot (ρ 2)))), (13, .int (iI l1)), (12, .int (iI c2)), (11, .int (iI c1)), (10, .int (iI qq)), (9, .int (iI rr)), (8, .int (iI kd)), (6, .long (iL (SUM (ρ 2)))), (0, .ref (eb E)), (1, .ref (ea E 0)), (2, .ref (ea E 13)), (3, .int (iI made)), (4, .int (iI kk)), (5, .int (iI rd))] [.int (iI 1), .int (iI 1)] := by
                                  refine g_iand01 C (by omega) (by omega) dL_law_461 (q := 462) rfl ?_
                                  refine g_top (b := 1) (by decide) ?_
                                  refine g_istore C (L' := [(20, .int (iI 1)), (19, .int (iI 1)), (18, .int (iI res)), (17, .int (iI ((ρ 2) 309))), (16, .int (iI ((ρ 2) 308))), (14, .long (iL (tot (ρ 2)))), (13, .int (iI l1)), (12, .int (iI c2)), (11, .int (iI c1)), (10, .int (iI qq)), (9, .int (iI rr)), (8, .int (iI kd)), (6, .long (iL (SUM (ρ 2)))), (0, .ref (eb E)), (1, .ref (ea E 0)), (2, .ref (ea E 13)), (3, .int (iI made)), (4, .int (iI kk)), (5, .int (iI rd))]) dL_law_462 (by decide) rfl (q := 464) rfl ?_
                                  refine g_iload C dL_law_464 0 rfl (q := 466) rfl ?_
                                  have j466_12 : GG p_ l e_ room_1 s_ m_ a_ b_ h_ c_ Q E A 21 τ (ka + 27) (na + 2018) 509 [(20, .int (iI 1)), (19, .int (iI 1)), (18, .int (iI res)), (17, .int (iI ((ρ 2) 309))), (16, .int (iI ((ρ 2) 308))), (14, .long (iL (tot (ρ 2)))), (13, .int (iI l1)), (12, .int (iI c2)), (11, .int (iI c1)), (10, .int (iI qq)), (9, .int (iI rr)), (8, .int (iI kd)), (6, .long (iL (SUM (ρ 2)))), (0, .ref (eb E)), (1, .ref (ea E 0)), (2, .ref (ea E 13)), (3, .int (iI made)), (4, .int (iI kk)), (5, .int (iI rd))] [.int (iI 1), .int (iI 1)] := by
                                    refine g_iand01 C (by omega) (by omega) dL_law_509 (q := 510) rfl ?_
                                    refine g_top (b := 1) (by decide) ?_
                                    refine g_istore C (L' := [(20, .int (iI 1)), (19, .int (iI 1)), (18, .int (iI res)), (17, .int (iI ((ρ 2) 309))), (16, .int (iI ((ρ 2) 308))), (14, .long (iL (tot (ρ 2)))), (13, .int (iI l1)), (12, .int (iI c2)), (11, .int (iI c1)), (10, .int (iI qq)), (9, .int (iI rr)), (8, .int (iI kd)), (6, .long (iL (SUM (ρ 2)))), (0, .ref (eb E)), (1, .ref (ea E 0)), (2, .ref (ea E 13)), (3, .int (iI made)), (4, .int (iI kk)), (5, .int (iI rd))]) dL_law_510 (by decide) rfl (q := 512) rfl ?_
                                    refine g_iload C dL_law_512 0 rfl (q := 514) rfl ?_
                                    have j514_13 : GG p_ l e_ room_1 s_ m_ a_ b_ h_ c_ Q E A 21 τ (ka + 27) (na + 2018) 571 [(20, .int (iI 1)), (19, .int (iI 1)), (18, .int (iI res)), (17, .int (iI ((ρ 2) 309))), (16, .int (iI ((ρ 2) 308))), (14, .long (iL (tot (ρ 2)))), (13, .int (iI l1)), (12, .int (iI c2)), (11, .int (iI c1)), (10, .int (iI qq)), (9, .int (iI rr)), (8, .int (iI kd)), (6, .long (iL (SUM (ρ 2)))), (0, .ref (eb E)), (1, .ref (ea E 0)), (2, .ref (ea E 13)), (3, .int (iI made)), (4, .int (iI kk)), (5, .int (iI rd))] [.int (iI 1), .int (iI 1)] := by
                                      refine g_iand01 C (by omega) (by omega) dL_law_571 (q := 572) rfl ?_
                                      refine g_top (b := 1) (by decide) ?_
                                      refine g_istore C (L' := [(20, .int (iI 1)), (19, .int (iI 1)), (18, .int (iI res)), (17, .int (iI ((ρ 2) 309))), (16, .int (iI ((ρ 2) 308))), (14, .long (iL (tot (ρ 2)))), (13, .int (iI l1)), (12, .int (iI c2)), (11, .int (iI c1)), (10, .int (iI qq)), (9, .int (iI rr)), (8, .int (iI kd)), (6, .long (iL (SUM (ρ 2)))), (0, .ref (eb E)), (1, .ref (ea E 0)), (2, .ref (ea E 13)), (3, .int (iI made)), (4, .int (iI kk)), (5, .int (iI rd))]) dL_law_572 (by decide) rfl (q := 574) rfl ?_
                                      refine g_iload C dL_law_574 0 rfl (q := 576) rfl ?_
                                      have j576_14 : GG p_ l e_ room_1 s_ m_ a_ b_ h_ c_ Q E A 21 τ (ka + 27) (na + 2018) 634 [(20, .int (iI 1)), (19, .int (iI 1)), (18, .int (iI res)), (17, .int (iI ((ρ 2) 309))), (16, .int (iI ((ρ 2) 308))), (14, .long (iL (tot (ρ 2)))), (13, .int (iI l1)), (12, .int (iI c2)), (11, .int (iI c1)), (10, .int (iI qq)), (9, .int (iI rr)), (8, .int (iI kd)), (6, .long (iL (SUM (ρ 2)))), (0, .ref (eb E)), (1, .ref (ea E 0)), (2, .ref (ea E 13)), (3, .int (iI made)), (4, .int (iI kk)), (5, .int (iI rd))] [.int (iI 1), .int (iI 1)] := by
                                        refine g_iand01 C (by omega) (by omega) dL_law_634 (q := 635) rfl ?_
                                        refine g_top (b := 1) (by decide) ?_
                                        refine g_istore C (L' := [(20, .int (iI 1)), (19, .int (iI 1)), (18, .int (iI res)), (17, .int (iI ((ρ 2) 309))), (16, .int (iI ((ρ 2) 308))), (14, .long (iL (tot (ρ 2)))), (13, .int (iI l1)), (12, .int (iI c2)), (11, .int (iI c1)), (10, .int (iI qq)), (9, .int (iI rr)), (8, .int (iI kd)), (6, .long (iL (SUM (ρ 2)))), (0, .ref (eb E)), (1, .ref (ea E 0)), (2, .ref (ea E 13)), (3, .int (iI made)), (4, .int (iI kk)), (5, .int (iI rd))]) dL_law_635 (by decide) rfl (q := 637) rfl ?_
                                        refine g_iinc C (L' := [(4, .int (iI (kk + 6))), (20, .int (iI 1)), (19, .int (iI 1)), (18, .int (iI res)), (17, .int (iI ((ρ 2) 309))), (16, .int (iI ((ρ 2) 308))), (14, .long (iL (tot (ρ 2)))), (13, .int (iI l1)), (12, .int (iI c2)), (11, .int (iI c1)), (10, .int (iI qq)), (9, .int (iI rr)), (8, .int (iI kd)), (6, .long (iL (SUM (ρ 2)))), (0, .ref (eb E)), (1, .ref (ea E 0)), (2, .ref (ea E 13)), (3, .int (iI made)), (5, .int (iI rd))]) dL_law_637 17 rfl (by decide) rfl (q := 640) rfl ?_
                                        refine g_iload C dL_law_640 1 rfl (q := 642) rfl ?_
                                        refine g_if_eq C dL_law_642 (by omega) (q2 := 668) rfl (q := 645) rfl (fun hb3 => ?_) (fun hb3 => ?_)
                                        · skip
                                          exfalso; omega
                                        · skip
                                          refine g_aload_n C dL_law_645 15 rfl rfl (q := 646) rfl ?_
                                          refine g_aload_n C dL_law_646 14 rfl rfl (q := 647) rfl ?_
                                          refine g_iload C dL_law_647 0 rfl (q := 649) rfl ?_
                                          have j649_15 : ∀ (b4 : Int), (b4 = 0 ∨ b4 = 1) → GG p_ l e_ room_1 s_ m_ a_ b_ h_ c_ Q E A 21 τ (ka + 27) (na + 2018) 662 [(4, .int (iI (kk + 6))), (20, .int (iI 1)), (19, .int (iI 1)), (18, .int (iI res)), (17, .int (iI ((ρ 2) 309))), (16, .int (iI ((ρ 2) 308))), (14, .long (iL (tot (ρ 2)))), (13, .int (iI l1)), (12, .int (iI c2)), (11, .int (iI c1)), (10, .int (iI qq)), (9, .int (iI rr)), (8, .int (iI kd)), (6, .long (iL (SUM (ρ 2)))), (0, .ref (eb E)), (1, .ref (ea E 0)), (2, .ref (ea E 13)), (3, .int (iI made)), (5, .int (iI rd))] [.int (iI b4), .int (iI (kk + 6)), .ref (eb E), .ref (ea E 0)] := by
                                            intro b4 hb4
                                            refine g_cX_i C (As := [.ref (ea E 0), .ref (eb E), .int (iI (kk + 6)), .int (iI b4)]) (c_L_isWhole l hst E _ (kk + 6) b4  (by exact hW2) (by exact hP2) (by first | assumption | omega) (by first | assumption | omega) (by first | assumption | omega)) ml_L_209 mf_L_isWhole rfl rfl ⟨(Nat.le_of_ble_eq_true rfl), (Nat.le_of_ble_eq_true rfl)⟩ rfl rfl rfl (Nat.le_of_ble_eq_true rfl) ⟨by show (ka + 27) + 96 ≤ 600312; omega, by show (na + 2018) + 576 ≤ 7292162; omega⟩ dL_law_662 (q := 665) rfl (fun vw σw hw9 => ?_)
                                            refine g_k (k2 := (ka + 123)) (n2 := (na + 2594)) (by omega) (by omega) ?_
                                            obtain ⟨hv9, a9, b9, hs9⟩ := hw9
                                            have hw2 : σw 2 = τ 2 := by rw [hs9]; rfl
                                            refine g_if_ne C dL_law_665 (by omega) (q2 := 670) rfl (q := 668) rfl (fun hb4 => ?_) (fun hb4 => ?_)
                                            · skip
                                              refine g_iload C dL_law_670 2 rfl (q := 672) rfl ?_
                                              refine g_if_ne C dL_law_672 (by omega) (q2 := 687) rfl (q := 675) rfl (fun hb5 => ?_) (fun hb5 => ?_)
                                              · skip
                                                refine g_iinc C (L' := [(3, .int (iI (made + 1))), (4, .int (iI (kk + 6))), (20, .int (iI 1)), (19, .int (iI 1)), (18, .int (iI res)), (17, .int (iI ((ρ 2) 309))), (16, .int (iI ((ρ 2) 308))), (14, .long (iL (tot (ρ 2)))), (13, .int (iI l1)), (12, .int (iI c2)), (11, .int (iI c1)), (10, .int (iI qq)), (9, .int (iI rr)), (8, .int (iI kd)), (6, .long (iL (SUM (ρ 2)))), (0, .ref (eb E)), (1, .ref (ea E 0)), (2, .ref (ea E 13)), (5, .int (iI rd))]) dL_law_687 17 rfl (by decide) rfl (q := 690) rfl ?_
                                                refine g_aload_n C dL_law_690 17 rfl rfl (q := 691) rfl ?_
                                                refine g_iload_n C dL_law_691 0 rfl rfl (q := 692) rfl ?_
                                                refine g_aload_n C dL_law_692 16 rfl rfl (q := 693) rfl ?_
                                                refine g_cN_l C (As := [.ref (ea E 0)]) (c_L_sum l hst E _   (by rw [hw2]; exact hW2) (by rw [hw2]; omega)) ml_L_178 mf_L_sum rfl rfl ⟨(Nat.le_of_ble_eq_true rfl), (Nat.le_of_ble_eq_true rfl)⟩ rfl rfl rfl (Nat.le_of_ble_eq_true rfl) ⟨by show (ka + 123) + 0 ≤ 600312; omega, by show (na + 2594) + 0 ≤ 7292162; omega⟩ dL_law_693 (q := 696) rfl ?_
                                                refine g_k (k2 := (ka + 123)) (n2 := (na + 2594)) (by omega) (by omega) ?_
                                                refine gs_13 C (by omega) dL_law_696 (q := 697) rfl ?_
                                                have hIb := INV_chg (σ := ρ) (σ' := σw) hI (by omega) (by omega) (by rw [hs9]; exact hC) (by rw [hw2]; omega) (by rw [hw2]; omega)
                                                refine g_iinc C (L' := [(5, .int (iI (rd + 1))), (3, .int (iI (made + 1))), (4, .int (iI (kk + 6))), (20, .int (iI 1)), (19, .int (iI 1)), (18, .int (iI res)), (17, .int (iI ((ρ 2) 309))), (16, .int (iI ((ρ 2) 308))), (14, .long (iL (tot (ρ 2)))), (13, .int (iI l1)), (12, .int (iI c2)), (11, .int (iI c1)), (10, .int (iI qq)), (9, .int (iI rr)), (8, .int (iI kd)), (6, .long (iL (SUM (ρ 2)))), (0, .ref (eb E)), (1, .ref (ea E 0)), (2, .ref (ea E 13))]) dL_law_697 18 rfl (by decide) rfl (q := 700) rfl ?_
                                                refine g_goto C dL_law_700 (q := 28) rfl ?_
                                                refine g_sub [16, 17, 18, 1, 2, 0] (L' := [(0, .ref (eb E)), (1, .ref (ea E 0)), (2, .ref (ea E 13)), (3, .int (iI (made + 1))), (4, .int (iI (kk + 6))), (5, .int (iI (rd + 1)))]) rfl ?_
                                                exact ih28 (st σw 13 (pt (σw 13) (made + 1) (SUM (σw 2)))) (made + 1) (kk + 6) (rd + 1) (ka + 123) (na + 2594) (by omega) (by omega) (by omega) (by omega) (by exact hIb) (by omega) (by omega)
                                              · skip
                                                exfalso; omega
                                            · skip
                                              exfalso; omega
                                          refine g_iload C dL_law_649 18 rfl (q := 651) rfl ?_
                                          refine g_iconst C dL_law_651 (q := 652) rfl ?_
                                          refine g_irem C dL_law_652 (by omega) (q := 653) rfl ?_
                                          refine g_iconst C dL_law_653 (q := 654) rfl ?_
                                          refine g_icmp_ne C dL_law_654 (by omega) (q2 := 661) rfl (q := 657) rfl (fun hb6 => ?_) (fun hb6 => ?_)
                                          · skip
                                            refine g_iconst C dL_law_661 (q := 662) rfl ?_
                                            exact j649_15 0 (by omega)
                                          · skip
                                            refine g_iconst C dL_law_657 (q := 658) rfl ?_
                                            refine g_goto C dL_law_658 (q := 662) rfl ?_
                                            exact j649_15 1 (by omega)
                                      refine g_iload C dL_law_576 1 rfl (q := 578) rfl ?_
                                      refine g_if_eq C dL_law_578 (by omega) (q2 := 629) rfl (q := 581) rfl (fun hb7 => ?_) (fun hb7 => ?_)
                                      · skip
                                        exfalso; omega
                                      · skip
                                        refine g_iload C dL_law_581 11 rfl (q := 583) rfl ?_
                                        refine g_bipush C dL_law_583 (by decide) (q := 585) rfl ?_
                                        refine g_icmp_lt C dL_law_585 (by omega) (q2 := 629) rfl (q := 588) rfl (fun hb8 => ?_) (fun hb8 => ?_)
                                        · skip
                                          refine g_iconst C dL_law_629 (q := 630) rfl ?_
                                          refine g_goto C dL_law_630 (q := 634) rfl ?_
                                          exact j576_14 
                                        · skip
                                          refine g_iload C dL_law_588 11 rfl (q := 590) rfl ?_
                                          refine g_bipush C dL_law_590 (by decide) (q := 592) rfl ?_
                                          refine g_icmp_gt C dL_law_592 (by omega) (q2 := 629) rfl (q := 595) rfl (fun hb9 => ?_) (fun hb9 => ?_)
                                          · skip
                                            refine g_iconst C dL_law_629 (q := 630) rfl ?_
                                            refine g_goto C dL_law_630 (q := 634) rfl ?_
                                            exact j576_14 
                                          · skip
                                            have f4 := hL.2.2.2.1 (by omega)
                                            have f12 := hL.2.2.2.2.2.2.2.2.2.2.2.1 (by omega)
                                            have cr := (hW2 rr f4).1
                                            have sr := sgl_rg hW2 (r := rr) f4
                                            refine g_aload_n C dL_law_595 14 rfl rfl (q := 596) rfl ?_
                                            refine g_iload C dL_law_596 10 rfl (q := 598) rfl ?_
                                            refine g_cT_i C (hh := th_L_segmentCount) (As := [.ref (ea E 0), .int (iI rr)]) (c_L_segmentCount l hst E _ rr  (by first | assumption | omega) (by first | assumption | omega) (by exact fR_ok (by omega))) ml_L_186 mf_L_segmentCount rfl ⟨(Nat.le_of_ble_eq_true rfl), (Nat.le_of_ble_eq_true rfl)⟩ rfl rfl rfl (Nat.le_of_ble_eq_true rfl) ⟨by show (ka + 27) + 0 ≤ 600312; omega, by show (na + 2018) + 0 ≤ 7292162; omega⟩ dL_law_598 (q := 601) rfl ?_
                                            refine g_k (k2 := (ka + 27)) (n2 := (na + 2018)) (by omega) (by omega) ?_
                                            refine g_iload C dL_law_601 8 rfl (q := 603) rfl ?_
                                            refine g_icmp_ne C dL_law_603 (by omega) (q2 := 633) rfl (q := 606) rfl (fun hb10 => ?_) (fun hb10 => ?_)
                                            · skip
                                              refine g_iconst C dL_law_633 (q := 634) rfl ?_
                                              refine g_top (b := 1) (by omega) ?_
                                              exact j576_14 
                                            · skip
                                              refine g_aload_n C dL_law_606 14 rfl rfl (q := 607) rfl ?_
                                              refine g_iload C dL_law_607 10 rfl (q := 609) rfl ?_
                                              refine g_cT_i C (hh := th_L_reelLength) (As := [.ref (ea E 0), .int (iI rr)]) (c_L_reelLength l hst E _ rr  (by first | assumption | omega) (by first | assumption | omega) (by exact fR_ok (by omega))) ml_L_188 mf_L_reelLength rfl ⟨(Nat.le_of_ble_eq_true rfl), (Nat.le_of_ble_eq_true rfl)⟩ rfl rfl rfl (Nat.le_of_ble_eq_true rfl) ⟨by show (ka + 27) + 0 ≤ 600312; omega, by show (na + 2018) + 0 ≤ 7292162; omega⟩ dL_law_609 (q := 612) rfl ?_
                                              refine g_k (k2 := (ka + 27)) (n2 := (na + 2018)) (by omega) (by omega) ?_
                                              refine g_top (b := sgl (τ 2) rr) (by exact sgl_sb hW2 hP2 f4) ?_
                                              refine g_iload C dL_law_612 6 rfl (q := 614) rfl ?_
                                              refine g_icmp_ne C dL_law_614 (by omega) (q2 := 633) rfl (q := 617) rfl (fun hb11 => ?_) (fun hb11 => ?_)
                                              · skip
                                                refine g_iconst C dL_law_633 (q := 634) rfl ?_
                                                refine g_top (b := 1) (by omega) ?_
                                                exact j576_14 
                                              · skip
                                                refine g_iload C dL_law_617 2 rfl (q := 619) rfl ?_
                                                refine g_iload C dL_law_619 6 rfl (q := 621) rfl ?_
                                                refine g_iload C dL_law_621 8 rfl (q := 623) rfl ?_
                                                refine g_max C ml_L_200 (by omega) dL_law_623 (Nat.le_of_ble_eq_true rfl) (Nat.le_of_ble_eq_true rfl) (by show (ka + 27) ≤ 600312; omega) (by show (na + 2018) ≤ 7292162; omega) (q := 626) rfl ?_
                                                refine g_icmp_gt C dL_law_626 (by omega) (q2 := 633) rfl (q := 629) rfl (fun hb12 => ?_) (fun hb12 => ?_)
                                                · skip
                                                  refine g_iconst C dL_law_633 (q := 634) rfl ?_
                                                  refine g_top (b := 1) (by omega) ?_
                                                  exact j576_14 
                                                · skip
                                                  refine g_iconst C dL_law_629 (q := 630) rfl ?_
                                                  refine g_goto C dL_law_630 (q := 634) rfl ?_
                                                  exact j576_14 
                                    refine g_iload C dL_law_514 1 rfl (q := 516) rfl ?_
                                    refine g_if_eq C dL_law_516 (by omega) (q2 := 566) rfl (q := 519) rfl (fun hb13 => ?_) (fun hb13 => ?_)
                                    · skip
                                      exfalso; omega
                                    · skip
                                      refine g_iload C dL_law_519 11 rfl (q := 521) rfl ?_
                                      refine g_bipush C dL_law_521 (by decide) (q := 523) rfl ?_
                                      refine g_icmp_lt C dL_law_523 (by omega) (q2 := 566) rfl (q := 526) rfl (fun hb14 => ?_) (fun hb14 => ?_)
                                      · skip
                                        refine g_iconst C dL_law_566 (q := 567) rfl ?_
                                        refine g_goto C dL_law_567 (q := 571) rfl ?_
                                        exact j514_13 
                                      · skip
                                        refine g_iload C dL_law_526 11 rfl (q := 528) rfl ?_
                                        refine g_bipush C dL_law_528 (by decide) (q := 530) rfl ?_
                                        refine g_icmp_gt C dL_law_530 (by omega) (q2 := 566) rfl (q := 533) rfl (fun hb15 => ?_) (fun hb15 => ?_)
                                        · skip
                                          refine g_iconst C dL_law_566 (q := 567) rfl ?_
                                          refine g_goto C dL_law_567 (q := 571) rfl ?_
                                          exact j514_13 
                                        · skip
                                          have f4 := hL.2.2.2.1 (by omega)
                                          have f5 := hL.2.2.2.2.1 (by omega)
                                          have f11 := hL.2.2.2.2.2.2.2.2.2.2.1 (by omega)
                                          have cr := (hW2 rr f4).1
                                          have cq := (hW2 qq f5).1
                                          have sq := sgl_rg hW2 (r := qq) f5
                                          refine g_aload_n C dL_law_533 14 rfl rfl (q := 534) rfl ?_
                                          refine g_iload C dL_law_534 10 rfl (q := 536) rfl ?_
                                          refine g_cT_i C (hh := th_L_segmentCount) (As := [.ref (ea E 0), .int (iI rr)]) (c_L_segmentCount l hst E _ rr  (by first | assumption | omega) (by first | assumption | omega) (by exact fR_ok (by omega))) ml_L_186 mf_L_segmentCount rfl ⟨(Nat.le_of_ble_eq_true rfl), (Nat.le_of_ble_eq_true rfl)⟩ rfl rfl rfl (Nat.le_of_ble_eq_true rfl) ⟨by show (ka + 27) + 0 ≤ 600312; omega, by show (na + 2018) + 0 ≤ 7292162; omega⟩ dL_law_536 (q := 539) rfl ?_
                                          refine g_k (k2 := (ka + 27)) (n2 := (na + 2018)) (by omega) (by omega) ?_
                                          refine g_iload C dL_law_539 7 rfl (q := 541) rfl ?_
                                          refine g_icmp_ne C dL_law_541 (by omega) (q2 := 570) rfl (q := 544) rfl (fun hb16 => ?_) (fun hb16 => ?_)
                                          · skip
                                            refine g_iconst C dL_law_570 (q := 571) rfl ?_
                                            refine g_top (b := 1) (by omega) ?_
                                            exact j514_13 
                                          · skip
                                            refine g_aload_n C dL_law_544 14 rfl rfl (q := 545) rfl ?_
                                            refine g_iload C dL_law_545 9 rfl (q := 547) rfl ?_
                                            refine g_cT_i C (hh := th_L_segmentCount) (As := [.ref (ea E 0), .int (iI qq)]) (c_L_segmentCount l hst E _ qq  (by first | assumption | omega) (by first | assumption | omega) (by exact fR_ok (by omega))) ml_L_186 mf_L_segmentCount rfl ⟨(Nat.le_of_ble_eq_true rfl), (Nat.le_of_ble_eq_true rfl)⟩ rfl rfl rfl (Nat.le_of_ble_eq_true rfl) ⟨by show (ka + 27) + 0 ≤ 600312; omega, by show (na + 2018) + 0 ≤ 7292162; omega⟩ dL_law_547 (q := 550) rfl ?_
                                            refine g_k (k2 := (ka + 27)) (n2 := (na + 2018)) (by omega) (by omega) ?_
                                            refine g_iload C dL_law_550 8 rfl (q := 552) rfl ?_
                                            refine g_icmp_ne C dL_law_552 (by omega) (q2 := 570) rfl (q := 555) rfl (fun hb17 => ?_) (fun hb17 => ?_)
                                            · skip
                                              refine g_iconst C dL_law_570 (q := 571) rfl ?_
                                              refine g_top (b := 1) (by omega) ?_
                                              exact j514_13 
                                            · skip
                                              refine g_aload_n C dL_law_555 14 rfl rfl (q := 556) rfl ?_
                                              refine g_iload C dL_law_556 9 rfl (q := 558) rfl ?_
                                              refine g_cT_i C (hh := th_L_reelLength) (As := [.ref (ea E 0), .int (iI qq)]) (c_L_reelLength l hst E _ qq  (by first | assumption | omega) (by first | assumption | omega) (by exact fR_ok (by omega))) ml_L_188 mf_L_reelLength rfl ⟨(Nat.le_of_ble_eq_true rfl), (Nat.le_of_ble_eq_true rfl)⟩ rfl rfl rfl (Nat.le_of_ble_eq_true rfl) ⟨by show (ka + 27) + 0 ≤ 600312; omega, by show (na + 2018) + 0 ≤ 7292162; omega⟩ dL_law_558 (q := 561) rfl ?_
                                              refine g_k (k2 := (ka + 27)) (n2 := (na + 2018)) (by omega) (by omega) ?_
                                              refine g_top (b := sgl (τ 2) qq) (by exact sgl_sb hW2 hP2 f5) ?_
                                              refine g_iload C dL_law_561 6 rfl (q := 563) rfl ?_
                                              refine g_icmp_ne C dL_law_563 (by omega) (q2 := 570) rfl (q := 566) rfl (fun hb18 => ?_) (fun hb18 => ?_)
                                              · skip
                                                refine g_iconst C dL_law_570 (q := 571) rfl ?_
                                                refine g_top (b := 1) (by omega) ?_
                                                exact j514_13 
                                              · skip
                                                refine g_iconst C dL_law_566 (q := 567) rfl ?_
                                                refine g_goto C dL_law_567 (q := 571) rfl ?_
                                                exact j514_13 
                                  refine g_iload C dL_law_466 1 rfl (q := 468) rfl ?_
                                  refine g_if_eq C dL_law_468 (by omega) (q2 := 504) rfl (q := 471) rfl (fun hb19 => ?_) (fun hb19 => ?_)
                                  · skip
                                    exfalso; omega
                                  · skip
                                    refine g_iload C dL_law_471 11 rfl (q := 473) rfl ?_
                                    refine g_bipush C dL_law_473 (by decide) (q := 475) rfl ?_
                                    refine g_icmp_lt C dL_law_475 (by omega) (q2 := 504) rfl (q := 478) rfl (fun hb20 => ?_) (fun hb20 => ?_)
                                    · skip
                                      refine g_iconst C dL_law_504 (q := 505) rfl ?_
                                      refine g_goto C dL_law_505 (q := 509) rfl ?_
                                      exact j466_12 
                                    · skip
                                      refine g_iload C dL_law_478 11 rfl (q := 480) rfl ?_
                                      refine g_bipush C dL_law_480 (by decide) (q := 482) rfl ?_
                                      refine g_icmp_gt C dL_law_482 (by omega) (q2 := 504) rfl (q := 485) rfl (fun hb21 => ?_) (fun hb21 => ?_)
                                      · skip
                                        refine g_iconst C dL_law_504 (q := 505) rfl ?_
                                        refine g_goto C dL_law_505 (q := 509) rfl ?_
                                        exact j466_12 
                                      · skip
                                        have f4 := hL.2.2.2.1 (by omega)
                                        have f5 := hL.2.2.2.2.1 (by omega)
                                        have f10 := hL.2.2.2.2.2.2.2.2.2.1 (by omega)
                                        have cq := (hW2 qq f5).1
                                        refine g_iload C dL_law_485 2 rfl (q := 487) rfl ?_
                                        refine g_iload C dL_law_487 8 rfl (q := 489) rfl ?_
                                        refine g_iload C dL_law_489 7 rfl (q := 491) rfl ?_
                                        refine g_iadd C dL_law_491 (q := 492) rfl ?_
                                        refine g_icmp_ne C dL_law_492 (by omega) (q2 := 508) rfl (q := 495) rfl (fun hb22 => ?_) (fun hb22 => ?_)
                                        · skip
                                          refine g_iconst C dL_law_508 (q := 509) rfl ?_
                                          refine g_top (b := 1) (by omega) ?_
                                          exact j466_12 
                                        · skip
                                          refine g_aload_n C dL_law_495 14 rfl rfl (q := 496) rfl ?_
                                          refine g_iload C dL_law_496 9 rfl (q := 498) rfl ?_
                                          refine g_cT_i C (hh := th_L_segmentCount) (As := [.ref (ea E 0), .int (iI qq)]) (c_L_segmentCount l hst E _ qq  (by first | assumption | omega) (by first | assumption | omega) (by exact fR_ok (by omega))) ml_L_186 mf_L_segmentCount rfl ⟨(Nat.le_of_ble_eq_true rfl), (Nat.le_of_ble_eq_true rfl)⟩ rfl rfl rfl (Nat.le_of_ble_eq_true rfl) ⟨by show (ka + 27) + 0 ≤ 600312; omega, by show (na + 2018) + 0 ≤ 7292162; omega⟩ dL_law_498 (q := 501) rfl ?_
                                          refine g_k (k2 := (ka + 27)) (n2 := (na + 2018)) (by omega) (by omega) ?_
                                          refine g_if_ne C dL_law_501 (by omega) (q2 := 508) rfl (q := 504) rfl (fun hb23 => ?_) (fun hb23 => ?_)
                                          · skip
                                            refine g_iconst C dL_law_508 (q := 509) rfl ?_
                                            refine g_top (b := 1) (by omega) ?_
                                            exact j466_12 
                                          · skip
                                            refine g_iconst C dL_law_504 (q := 505) rfl ?_
                                            refine g_goto C dL_law_505 (q := 509) rfl ?_
                                            exact j466_12 
                                refine g_iload C dL_law_412 1 rfl (q := 414) rfl ?_
                                refine g_if_eq C dL_law_414 (by omega) (q2 := 456) rfl (q := 417) rfl (fun hb24 => ?_) (fun hb24 => ?_)
                                · skip
                                  exfalso; omega
                                · skip
                                  refine g_iload C dL_law_417 11 rfl (q := 419) rfl ?_
                                  refine g_bipush C dL_law_419 (by decide) (q := 421) rfl ?_
                                  refine g_icmp_lt C dL_law_421 (by omega) (q2 := 456) rfl (q := 424) rfl (fun hb25 => ?_) (fun hb25 => ?_)
                                  · skip
                                    refine g_iconst C dL_law_456 (q := 457) rfl ?_
                                    refine g_goto C dL_law_457 (q := 461) rfl ?_
                                    exact j412_11 
                                  · skip
                                    refine g_iload C dL_law_424 11 rfl (q := 426) rfl ?_
                                    refine g_bipush C dL_law_426 (by decide) (q := 428) rfl ?_
                                    refine g_icmp_gt C dL_law_428 (by omega) (q2 := 456) rfl (q := 431) rfl (fun hb26 => ?_) (fun hb26 => ?_)
                                    · skip
                                      refine g_iconst C dL_law_456 (q := 457) rfl ?_
                                      refine g_goto C dL_law_457 (q := 461) rfl ?_
                                      exact j412_11 
                                    · skip
                                      have f4 := hL.2.2.2.1 (by omega)
                                      have f5 := hL.2.2.2.2.1 (by omega)
                                      have f9 := hL.2.2.2.2.2.2.2.2.1 (by omega)
                                      have cr := (hW2 rr f4).1
                                      have cq := (hW2 qq f5).1
                                      refine g_aload_n C dL_law_431 14 rfl rfl (q := 432) rfl ?_
                                      refine g_iload C dL_law_432 10 rfl (q := 434) rfl ?_
                                      refine g_cT_i C (hh := th_L_segmentCount) (As := [.ref (ea E 0), .int (iI rr)]) (c_L_segmentCount l hst E _ rr  (by first | assumption | omega) (by first | assumption | omega) (by exact fR_ok (by omega))) ml_L_186 mf_L_segmentCount rfl ⟨(Nat.le_of_ble_eq_true rfl), (Nat.le_of_ble_eq_true rfl)⟩ rfl rfl rfl (Nat.le_of_ble_eq_true rfl) ⟨by show (ka + 27) + 0 ≤ 600312; omega, by show (na + 2018) + 0 ≤ 7292162; omega⟩ dL_law_434 (q := 437) rfl ?_
                                      refine g_k (k2 := (ka + 27)) (n2 := (na + 2018)) (by omega) (by omega) ?_
                                      refine g_iload C dL_law_437 8 rfl (q := 439) rfl ?_
                                      refine g_iload C dL_law_439 2 rfl (q := 441) rfl ?_
                                      refine g_isub C dL_law_441 (q := 442) rfl ?_
                                      refine g_icmp_ne C dL_law_442 (by omega) (q2 := 460) rfl (q := 445) rfl (fun hb27 => ?_) (fun hb27 => ?_)
                                      · skip
                                        refine g_iconst C dL_law_460 (q := 461) rfl ?_
                                        refine g_top (b := 1) (by omega) ?_
                                        exact j412_11 
                                      · skip
                                        refine g_aload_n C dL_law_445 14 rfl rfl (q := 446) rfl ?_
                                        refine g_iload C dL_law_446 9 rfl (q := 448) rfl ?_
                                        refine g_cT_i C (hh := th_L_segmentCount) (As := [.ref (ea E 0), .int (iI qq)]) (c_L_segmentCount l hst E _ qq  (by first | assumption | omega) (by first | assumption | omega) (by exact fR_ok (by omega))) ml_L_186 mf_L_segmentCount rfl ⟨(Nat.le_of_ble_eq_true rfl), (Nat.le_of_ble_eq_true rfl)⟩ rfl rfl rfl (Nat.le_of_ble_eq_true rfl) ⟨by show (ka + 27) + 0 ≤ 600312; omega, by show (na + 2018) + 0 ≤ 7292162; omega⟩ dL_law_448 (q := 451) rfl ?_
                                        refine g_k (k2 := (ka + 27)) (n2 := (na + 2018)) (by omega) (by omega) ?_
                                        refine g_iload C dL_law_451 2 rfl (q := 453) rfl ?_
                                        refine g_icmp_ne C dL_law_453 (by omega) (q2 := 460) rfl (q := 456) rfl (fun hb28 => ?_) (fun hb28 => ?_)
                                        · skip
                                          refine g_iconst C dL_law_460 (q := 461) rfl ?_
                                          refine g_top (b := 1) (by omega) ?_
                                          exact j412_11 
                                        · skip
                                          refine g_iconst C dL_law_456 (q := 457) rfl ?_
                                          refine g_goto C dL_law_457 (q := 461) rfl ?_
                                          exact j412_11 
                              refine g_iload C dL_law_373 1 rfl (q := 375) rfl ?_
                              refine g_if_eq C dL_law_375 (by omega) (q2 := 402) rfl (q := 378) rfl (fun hb29 => ?_) (fun hb29 => ?_)
                              · skip
                                exfalso; omega
                              · skip
                                refine g_iload C dL_law_378 11 rfl (q := 380) rfl ?_
                                refine g_bipush C dL_law_380 (by decide) (q := 382) rfl ?_
                                refine g_icmp_lt C dL_law_382 (by omega) (q2 := 402) rfl (q := 385) rfl (fun hb30 => ?_) (fun hb30 => ?_)
                                · skip
                                  refine g_iconst C dL_law_402 (q := 403) rfl ?_
                                  refine g_goto C dL_law_403 (q := 407) rfl ?_
                                  exact j373_10 
                                · skip
                                  refine g_iload C dL_law_385 11 rfl (q := 387) rfl ?_
                                  refine g_bipush C dL_law_387 (by decide) (q := 389) rfl ?_
                                  refine g_icmp_gt C dL_law_389 (by omega) (q2 := 402) rfl (q := 392) rfl (fun hb31 => ?_) (fun hb31 => ?_)
                                  · skip
                                    refine g_iconst C dL_law_402 (q := 403) rfl ?_
                                    refine g_goto C dL_law_403 (q := 407) rfl ?_
                                    exact j373_10 
                                  · skip
                                    have f8 := hL.2.2.2.2.2.2.2.1 (by omega)
                                    refine g_aload_n C dL_law_392 14 rfl rfl (q := 393) rfl ?_
                                    refine g_cV_l C (As := []) (c_X4_totalLength l E _  (by first | assumption | omega) (by first | assumption | omega)) ml_L_190 mf_X4_totalLength (o := 0) (ci := 4) rfl rfl rfl rfl ⟨(Nat.le_of_ble_eq_true rfl), (Nat.le_of_ble_eq_true rfl)⟩ rfl rfl rfl (Nat.le_of_ble_eq_true rfl) ⟨by show (ka + 27) + 0 ≤ 600312; omega, by show (na + 2018) + 0 ≤ 7292162; omega⟩ dL_law_393 (q := 396) rfl ?_
                                    refine g_toplc (b := tot (τ 2)) (by exact tot_sb9 hW2 hP2) ?_
                                    refine g_lload C dL_law_396 5 rfl (q := 398) rfl ?_
                                    refine g_lcmpE C (by omega) dL_law_398 (q := 399) rfl ?_
                                    refine g_if_ne C dL_law_399 (by omega) (q2 := 406) rfl (q := 402) rfl (fun hb32 => ?_) (fun hb32 => ?_)
                                    · skip
                                      exfalso; omega
                                    · skip
                                      refine g_iconst C dL_law_402 (q := 403) rfl ?_
                                      refine g_goto C dL_law_403 (q := 407) rfl ?_
                                      exact j373_10 
                            refine g_iload C dL_law_317 1 rfl (q := 319) rfl ?_
                            refine g_if_eq C dL_law_319 (by omega) (q2 := 363) rfl (q := 322) rfl (fun hb33 => ?_) (fun hb33 => ?_)
                            · skip
                              exfalso; omega
                            · skip
                              refine g_iload C dL_law_322 11 rfl (q := 324) rfl ?_
                              refine g_bipush C dL_law_324 (by decide) (q := 326) rfl ?_
                              refine g_icmp_lt C dL_law_326 (by omega) (q2 := 363) rfl (q := 329) rfl (fun hb34 => ?_) (fun hb34 => ?_)
                              · skip
                                refine g_iconst C dL_law_363 (q := 364) rfl ?_
                                refine g_goto C dL_law_364 (q := 368) rfl ?_
                                exact j317_9 
                              · skip
                                refine g_iload C dL_law_329 11 rfl (q := 331) rfl ?_
                                refine g_bipush C dL_law_331 (by decide) (q := 333) rfl ?_
                                refine g_icmp_gt C dL_law_333 (by omega) (q2 := 363) rfl (q := 336) rfl (fun hb35 => ?_) (fun hb35 => ?_)
                                · skip
                                  refine g_iconst C dL_law_363 (q := 364) rfl ?_
                                  refine g_goto C dL_law_364 (q := 368) rfl ?_
                                  exact j317_9 
                                · skip
                                  have f4 := hL.2.2.2.1 (by omega)
                                  have f7 := hL.2.2.2.2.2.2.1 (by omega)
                                  have cr := (hW2 rr f4).1
                                  refine g_aload_n C dL_law_336 14 rfl rfl (q := 337) rfl ?_
                                  refine g_cV_l C (As := []) (c_X4_totalLength l E _  (by first | assumption | omega) (by first | assumption | omega)) ml_L_190 mf_X4_totalLength (o := 0) (ci := 4) rfl rfl rfl rfl ⟨(Nat.le_of_ble_eq_true rfl), (Nat.le_of_ble_eq_true rfl)⟩ rfl rfl rfl (Nat.le_of_ble_eq_true rfl) ⟨by show (ka + 27) + 0 ≤ 600312; omega, by show (na + 2018) + 0 ≤ 7292162; omega⟩ dL_law_337 (q := 340) rfl ?_
                                  refine g_toplc (b := tot (τ 2)) (by exact tot_sb9 hW2 hP2) ?_
                                  refine g_lload C dL_law_340 5 rfl (q := 342) rfl ?_
                                  refine g_iload C dL_law_342 2 rfl (q := 344) rfl ?_
                                  refine g_i2l C dL_law_344 (by omega) (q := 345) rfl ?_
                                  refine g_lsub C dL_law_345 (q := 346) rfl ?_
                                  refine g_lcmpE C (by omega) dL_law_346 (q := 347) rfl ?_
                                  refine g_if_ne C dL_law_347 (by omega) (q2 := 367) rfl (q := 350) rfl (fun hb36 => ?_) (fun hb36 => ?_)
                                  · skip
                                    exfalso; omega
                                  · skip
                                    refine g_aload_n C dL_law_350 14 rfl rfl (q := 351) rfl ?_
                                    refine g_iload C dL_law_351 10 rfl (q := 353) rfl ?_
                                    refine g_cT_i C (hh := th_L_segmentCount) (As := [.ref (ea E 0), .int (iI rr)]) (c_L_segmentCount l hst E _ rr  (by first | assumption | omega) (by first | assumption | omega) (by exact fR_ok (by omega))) ml_L_186 mf_L_segmentCount rfl ⟨(Nat.le_of_ble_eq_true rfl), (Nat.le_of_ble_eq_true rfl)⟩ rfl rfl rfl (Nat.le_of_ble_eq_true rfl) ⟨by show (ka + 27) + 0 ≤ 600312; omega, by show (na + 2018) + 0 ≤ 7292162; omega⟩ dL_law_353 (q := 356) rfl ?_
                                    refine g_k (k2 := (ka + 27)) (n2 := (na + 2018)) (by omega) (by omega) ?_
                                    refine g_iload C dL_law_356 8 rfl (q := 358) rfl ?_
                                    refine g_iconst C dL_law_358 (q := 359) rfl ?_
                                    refine g_isub C dL_law_359 (q := 360) rfl ?_
                                    refine g_icmp_ne C dL_law_360 (by omega) (q2 := 367) rfl (q := 363) rfl (fun hb37 => ?_) (fun hb37 => ?_)
                                    · skip
                                      refine g_iconst C dL_law_367 (q := 368) rfl ?_
                                      refine g_top (b := 1) (by omega) ?_
                                      exact j317_9 
                                    · skip
                                      refine g_iconst C dL_law_363 (q := 364) rfl ?_
                                      refine g_goto C dL_law_364 (q := 368) rfl ?_
                                      exact j317_9 
                          refine g_iload C dL_law_273 1 rfl (q := 275) rfl ?_
                          refine g_if_eq C dL_law_275 (by omega) (q2 := 307) rfl (q := 278) rfl (fun hb38 => ?_) (fun hb38 => ?_)
                          · skip
                            exfalso; omega
                          · skip
                            refine g_iload C dL_law_278 11 rfl (q := 280) rfl ?_
                            refine g_bipush C dL_law_280 (by decide) (q := 282) rfl ?_
                            refine g_icmp_gt C dL_law_282 (by omega) (q2 := 307) rfl (q := 285) rfl (fun hb39 => ?_) (fun hb39 => ?_)
                            · skip
                              refine g_iconst C dL_law_307 (q := 308) rfl ?_
                              refine g_goto C dL_law_308 (q := 312) rfl ?_
                              exact j273_8 
                            · skip
                              have f4 := hL.2.2.2.1 (by omega)
                              have f6 := hL.2.2.2.2.2.1 (by omega)
                              have cr := (hW2 rr f4).1
                              refine g_iload C dL_law_285 2 rfl (q := 287) rfl ?_
                              refine g_iload C dL_law_287 8 rfl (q := 289) rfl ?_
                              refine g_iconst C dL_law_289 (q := 290) rfl ?_
                              refine g_iadd C dL_law_290 (q := 291) rfl ?_
                              refine g_icmp_ne C dL_law_291 (by omega) (q2 := 311) rfl (q := 294) rfl (fun hb40 => ?_) (fun hb40 => ?_)
                              · skip
                                refine g_iconst C dL_law_311 (q := 312) rfl ?_
                                refine g_top (b := 1) (by omega) ?_
                                exact j273_8 
                              · skip
                                refine g_aload_n C dL_law_294 14 rfl rfl (q := 295) rfl ?_
                                refine g_iload C dL_law_295 10 rfl (q := 297) rfl ?_
                                refine g_cT_i C (hh := th_L_segmentCount) (As := [.ref (ea E 0), .int (iI rr)]) (c_L_segmentCount l hst E _ rr  (by first | assumption | omega) (by first | assumption | omega) (by exact fR_ok (by omega))) ml_L_186 mf_L_segmentCount rfl ⟨(Nat.le_of_ble_eq_true rfl), (Nat.le_of_ble_eq_true rfl)⟩ rfl rfl rfl (Nat.le_of_ble_eq_true rfl) ⟨by show (ka + 27) + 0 ≤ 600312; omega, by show (na + 2018) + 0 ≤ 7292162; omega⟩ dL_law_297 (q := 300) rfl ?_
                                refine g_k (k2 := (ka + 27)) (n2 := (na + 2018)) (by omega) (by omega) ?_
                                refine g_iload C dL_law_300 8 rfl (q := 302) rfl ?_
                                refine g_iconst C dL_law_302 (q := 303) rfl ?_
                                refine g_iadd C dL_law_303 (q := 304) rfl ?_
                                refine g_icmp_ne C dL_law_304 (by omega) (q2 := 311) rfl (q := 307) rfl (fun hb41 => ?_) (fun hb41 => ?_)
                                · skip
                                  refine g_iconst C dL_law_311 (q := 312) rfl ?_
                                  refine g_top (b := 1) (by omega) ?_
                                  exact j273_8 
                                · skip
                                  refine g_iconst C dL_law_307 (q := 308) rfl ?_
                                  refine g_goto C dL_law_308 (q := 312) rfl ?_
                                  exact j273_8 
                        refine g_aload_n C dL_law_189 13 rfl rfl (q := 190) rfl ?_
                        refine g_cV_i C (As := []) (c_X4_cutCount l E _  ) ml_L_194 mf_X4_cutCount (o := 0) (ci := 4) rfl rfl rfl rfl ⟨(Nat.le_of_ble_eq_true rfl), (Nat.le_of_ble_eq_true rfl)⟩ rfl rfl rfl (Nat.le_of_ble_eq_true rfl) ⟨by show (ka + 27) + 0 ≤ 600312; omega, by show (na + 2018) + 0 ≤ 7292162; omega⟩ dL_law_190 (q := 193) rfl ?_
                        refine g_iload C dL_law_193 3 rfl (q := 195) rfl ?_
                        refine g_iload C dL_law_195 0 rfl (q := 197) rfl ?_
                        refine g_if_eq C dL_law_197 (by omega) (q2 := 218) rfl (q := 200) rfl (fun hb42 => ?_) (fun hb42 => ?_)
                        · skip
                          exfalso; omega
                        · skip
                          refine g_iload C dL_law_200 10 rfl (q := 202) rfl ?_
                          refine g_bipush C dL_law_202 (by decide) (q := 204) rfl ?_
                          refine g_icmp_le C dL_law_204 (by omega) (q2 := 218) rfl (q := 207) rfl (fun hb43 => ?_) (fun hb43 => ?_)
                          · skip
                            refine g_iconst C dL_law_218 (q := 219) rfl ?_
                            refine g_iadd C dL_law_219 (q := 220) rfl ?_
                            refine g_icmp_ne C dL_law_220 (by omega) (q2 := 268) rfl (q := 223) rfl (fun hb44 => ?_) (fun hb44 => ?_)
                            · skip
                              refine g_iconst C dL_law_268 (q := 269) rfl ?_
                              refine g_top (b := 1) (by omega) ?_
                              exact j189_7 
                            · skip
                              refine g_iload C dL_law_223 10 rfl (q := 225) rfl ?_
                              refine g_bipush C dL_law_225 (by decide) (q := 227) rfl ?_
                              refine g_icmp_gt C dL_law_227 (by omega) (q2 := 264) rfl (q := 230) rfl (fun hb45 => ?_) (fun hb45 => ?_)
                              · skip
                                refine g_iconst C dL_law_264 (q := 265) rfl ?_
                                refine g_goto C dL_law_265 (q := 269) rfl ?_
                                exact j189_7 
                              · skip
                                refine g_aload_n C dL_law_230 13 rfl rfl (q := 231) rfl ?_
                                refine g_cV_i C (As := []) (c_X4_spliceCount l E _  ) ml_L_197 mf_X4_spliceCount (o := 0) (ci := 4) rfl rfl rfl rfl ⟨(Nat.le_of_ble_eq_true rfl), (Nat.le_of_ble_eq_true rfl)⟩ rfl rfl rfl (Nat.le_of_ble_eq_true rfl) ⟨by show (ka + 27) + 0 ≤ 600312; omega, by show (na + 2018) + 0 ≤ 7292162; omega⟩ dL_law_231 (q := 234) rfl ?_
                                refine g_iload C dL_law_234 2 rfl (q := 236) rfl ?_
                                refine g_iload C dL_law_236 0 rfl (q := 238) rfl ?_
                                refine g_if_eq C dL_law_238 (by omega) (q2 := 259) rfl (q := 241) rfl (fun hb46 => ?_) (fun hb46 => ?_)
                                · skip
                                  exfalso; omega
                                · skip
                                  refine g_iload C dL_law_241 10 rfl (q := 243) rfl ?_
                                  refine g_bipush C dL_law_243 (by decide) (q := 245) rfl ?_
                                  refine g_icmp_le C dL_law_245 (by omega) (q2 := 259) rfl (q := 248) rfl (fun hb47 => ?_) (fun hb47 => ?_)
                                  · skip
                                    refine g_iconst C dL_law_259 (q := 260) rfl ?_
                                    refine g_iadd C dL_law_260 (q := 261) rfl ?_
                                    refine g_icmp_ne C dL_law_261 (by omega) (q2 := 268) rfl (q := 264) rfl (fun hb48 => ?_) (fun hb48 => ?_)
                                    · skip
                                      refine g_iconst C dL_law_268 (q := 269) rfl ?_
                                      refine g_top (b := 1) (by omega) ?_
                                      exact j189_7 
                                    · skip
                                      refine g_iconst C dL_law_264 (q := 265) rfl ?_
                                      refine g_goto C dL_law_265 (q := 269) rfl ?_
                                      exact j189_7 
                                  · skip
                                    refine g_iload C dL_law_248 10 rfl (q := 250) rfl ?_
                                    refine g_bipush C dL_law_250 (by decide) (q := 252) rfl ?_
                                    refine g_icmp_ge C dL_law_252 (by omega) (q2 := 259) rfl (q := 255) rfl (fun hb49 => ?_) (fun hb49 => ?_)
                                    · skip
                                      refine g_iconst C dL_law_259 (q := 260) rfl ?_
                                      refine g_iadd C dL_law_260 (q := 261) rfl ?_
                                      refine g_icmp_ne C dL_law_261 (by omega) (q2 := 268) rfl (q := 264) rfl (fun hb50 => ?_) (fun hb50 => ?_)
                                      · skip
                                        refine g_iconst C dL_law_268 (q := 269) rfl ?_
                                        refine g_top (b := 1) (by omega) ?_
                                        exact j189_7 
                                      · skip
                                        refine g_iconst C dL_law_264 (q := 265) rfl ?_
                                        refine g_goto C dL_law_265 (q := 269) rfl ?_
                                        exact j189_7 
                                    · skip
                                      refine g_iconst C dL_law_255 (q := 256) rfl ?_
                                      refine g_goto C dL_law_256 (q := 260) rfl ?_
                                      refine g_iadd C dL_law_260 (q := 261) rfl ?_
                                      refine g_icmp_ne C dL_law_261 (by omega) (q2 := 268) rfl (q := 264) rfl (fun hb51 => ?_) (fun hb51 => ?_)
                                      · skip
                                        refine g_iconst C dL_law_268 (q := 269) rfl ?_
                                        refine g_top (b := 1) (by omega) ?_
                                        exact j189_7 
                                      · skip
                                        refine g_iconst C dL_law_264 (q := 265) rfl ?_
                                        refine g_goto C dL_law_265 (q := 269) rfl ?_
                                        exact j189_7 
                          · skip
                            refine g_iload C dL_law_207 10 rfl (q := 209) rfl ?_
                            refine g_bipush C dL_law_209 (by decide) (q := 211) rfl ?_
                            refine g_icmp_ge C dL_law_211 (by omega) (q2 := 218) rfl (q := 214) rfl (fun hb52 => ?_) (fun hb52 => ?_)
                            · skip
                              refine g_iconst C dL_law_218 (q := 219) rfl ?_
                              refine g_iadd C dL_law_219 (q := 220) rfl ?_
                              refine g_icmp_ne C dL_law_220 (by omega) (q2 := 268) rfl (q := 223) rfl (fun hb53 => ?_) (fun hb53 => ?_)
                              · skip
                                refine g_iconst C dL_law_268 (q := 269) rfl ?_
                                refine g_top (b := 1) (by omega) ?_
                                exact j189_7 
                              · skip
                                refine g_iload C dL_law_223 10 rfl (q := 225) rfl ?_
                                refine g_bipush C dL_law_225 (by decide) (q := 227) rfl ?_
                                refine g_icmp_gt C dL_law_227 (by omega) (q2 := 264) rfl (q := 230) rfl (fun hb54 => ?_) (fun hb54 => ?_)
                                · skip
                                  refine g_iconst C dL_law_264 (q := 265) rfl ?_
                                  refine g_goto C dL_law_265 (q := 269) rfl ?_
                                  exact j189_7 
                                · skip
                                  refine g_aload_n C dL_law_230 13 rfl rfl (q := 231) rfl ?_
                                  refine g_cV_i C (As := []) (c_X4_spliceCount l E _  ) ml_L_197 mf_X4_spliceCount (o := 0) (ci := 4) rfl rfl rfl rfl ⟨(Nat.le_of_ble_eq_true rfl), (Nat.le_of_ble_eq_true rfl)⟩ rfl rfl rfl (Nat.le_of_ble_eq_true rfl) ⟨by show (ka + 27) + 0 ≤ 600312; omega, by show (na + 2018) + 0 ≤ 7292162; omega⟩ dL_law_231 (q := 234) rfl ?_
                                  refine g_iload C dL_law_234 2 rfl (q := 236) rfl ?_
                                  refine g_iload C dL_law_236 0 rfl (q := 238) rfl ?_
                                  refine g_if_eq C dL_law_238 (by omega) (q2 := 259) rfl (q := 241) rfl (fun hb55 => ?_) (fun hb55 => ?_)
                                  · skip
                                    exfalso; omega
                                  · skip
                                    refine g_iload C dL_law_241 10 rfl (q := 243) rfl ?_
                                    refine g_bipush C dL_law_243 (by decide) (q := 245) rfl ?_
                                    refine g_icmp_le C dL_law_245 (by omega) (q2 := 259) rfl (q := 248) rfl (fun hb56 => ?_) (fun hb56 => ?_)
                                    · skip
                                      refine g_iconst C dL_law_259 (q := 260) rfl ?_
                                      refine g_iadd C dL_law_260 (q := 261) rfl ?_
                                      refine g_icmp_ne C dL_law_261 (by omega) (q2 := 268) rfl (q := 264) rfl (fun hb57 => ?_) (fun hb57 => ?_)
                                      · skip
                                        refine g_iconst C dL_law_268 (q := 269) rfl ?_
                                        refine g_top (b := 1) (by omega) ?_
                                        exact j189_7 
                                      · skip
                                        refine g_iconst C dL_law_264 (q := 265) rfl ?_
                                        refine g_goto C dL_law_265 (q := 269) rfl ?_
                                        exact j189_7 
                                    · skip
                                      refine g_iload C dL_law_248 10 rfl (q := 250) rfl ?_
                                      refine g_bipush C dL_law_250 (by decide) (q := 252) rfl ?_
                                      refine g_icmp_ge C dL_law_252 (by omega) (q2 := 259) rfl (q := 255) rfl (fun hb58 => ?_) (fun hb58 => ?_)
                                      · skip
                                        refine g_iconst C dL_law_259 (q := 260) rfl ?_
                                        refine g_iadd C dL_law_260 (q := 261) rfl ?_
                                        refine g_icmp_ne C dL_law_261 (by omega) (q2 := 268) rfl (q := 264) rfl (fun hb59 => ?_) (fun hb59 => ?_)
                                        · skip
                                          refine g_iconst C dL_law_268 (q := 269) rfl ?_
                                          refine g_top (b := 1) (by omega) ?_
                                          exact j189_7 
                                        · skip
                                          refine g_iconst C dL_law_264 (q := 265) rfl ?_
                                          refine g_goto C dL_law_265 (q := 269) rfl ?_
                                          exact j189_7 
                                      · skip
                                        refine g_iconst C dL_law_255 (q := 256) rfl ?_
                                        refine g_goto C dL_law_256 (q := 260) rfl ?_
                                        refine g_iadd C dL_law_260 (q := 261) rfl ?_
                                        refine g_icmp_ne C dL_law_261 (by omega) (q2 := 268) rfl (q := 264) rfl (fun hb60 => ?_) (fun hb60 => ?_)
                                        · skip
                                          refine g_iconst C dL_law_268 (q := 269) rfl ?_
                                          refine g_top (b := 1) (by omega) ?_
                                          exact j189_7 
                                        · skip
                                          refine g_iconst C dL_law_264 (q := 265) rfl ?_
                                          refine g_goto C dL_law_265 (q := 269) rfl ?_
                                          exact j189_7 
                            · skip
                              refine g_iconst C dL_law_214 (q := 215) rfl ?_
                              refine g_goto C dL_law_215 (q := 219) rfl ?_
                              refine g_iadd C dL_law_219 (q := 220) rfl ?_
                              refine g_icmp_ne C dL_law_220 (by omega) (q2 := 268) rfl (q := 223) rfl (fun hb61 => ?_) (fun hb61 => ?_)
                              · skip
                                refine g_iconst C dL_law_268 (q := 269) rfl ?_
                                refine g_top (b := 1) (by omega) ?_
                                exact j189_7 
                              · skip
                                refine g_iload C dL_law_223 10 rfl (q := 225) rfl ?_
                                refine g_bipush C dL_law_225 (by decide) (q := 227) rfl ?_
                                refine g_icmp_gt C dL_law_227 (by omega) (q2 := 264) rfl (q := 230) rfl (fun hb62 => ?_) (fun hb62 => ?_)
                                · skip
                                  refine g_iconst C dL_law_264 (q := 265) rfl ?_
                                  refine g_goto C dL_law_265 (q := 269) rfl ?_
                                  exact j189_7 
                                · skip
                                  refine g_aload_n C dL_law_230 13 rfl rfl (q := 231) rfl ?_
                                  refine g_cV_i C (As := []) (c_X4_spliceCount l E _  ) ml_L_197 mf_X4_spliceCount (o := 0) (ci := 4) rfl rfl rfl rfl ⟨(Nat.le_of_ble_eq_true rfl), (Nat.le_of_ble_eq_true rfl)⟩ rfl rfl rfl (Nat.le_of_ble_eq_true rfl) ⟨by show (ka + 27) + 0 ≤ 600312; omega, by show (na + 2018) + 0 ≤ 7292162; omega⟩ dL_law_231 (q := 234) rfl ?_
                                  refine g_iload C dL_law_234 2 rfl (q := 236) rfl ?_
                                  refine g_iload C dL_law_236 0 rfl (q := 238) rfl ?_
                                  refine g_if_eq C dL_law_238 (by omega) (q2 := 259) rfl (q := 241) rfl (fun hb63 => ?_) (fun hb63 => ?_)
                                  · skip
                                    exfalso; omega
                                  · skip
                                    refine g_iload C dL_law_241 10 rfl (q := 243) rfl ?_
                                    refine g_bipush C dL_law_243 (by decide) (q := 245) rfl ?_
                                    refine g_icmp_le C dL_law_245 (by omega) (q2 := 259) rfl (q := 248) rfl (fun hb64 => ?_) (fun hb64 => ?_)
                                    · skip
                                      refine g_iconst C dL_law_259 (q := 260) rfl ?_
                                      refine g_iadd C dL_law_260 (q := 261) rfl ?_
                                      refine g_icmp_ne C dL_law_261 (by omega) (q2 := 268) rfl (q := 264) rfl (fun hb65 => ?_) (fun hb65 => ?_)
                                      · skip
                                        refine g_iconst C dL_law_268 (q := 269) rfl ?_
                                        refine g_top (b := 1) (by omega) ?_
                                        exact j189_7 
                                      · skip
                                        refine g_iconst C dL_law_264 (q := 265) rfl ?_
                                        refine g_goto C dL_law_265 (q := 269) rfl ?_
                                        exact j189_7 
                                    · skip
                                      refine g_iload C dL_law_248 10 rfl (q := 250) rfl ?_
                                      refine g_bipush C dL_law_250 (by decide) (q := 252) rfl ?_
                                      refine g_icmp_ge C dL_law_252 (by omega) (q2 := 259) rfl (q := 255) rfl (fun hb66 => ?_) (fun hb66 => ?_)
                                      · skip
                                        refine g_iconst C dL_law_259 (q := 260) rfl ?_
                                        refine g_iadd C dL_law_260 (q := 261) rfl ?_
                                        refine g_icmp_ne C dL_law_261 (by omega) (q2 := 268) rfl (q := 264) rfl (fun hb67 => ?_) (fun hb67 => ?_)
                                        · skip
                                          refine g_iconst C dL_law_268 (q := 269) rfl ?_
                                          refine g_top (b := 1) (by omega) ?_
                                          exact j189_7 
                                        · skip
                                          refine g_iconst C dL_law_264 (q := 265) rfl ?_
                                          refine g_goto C dL_law_265 (q := 269) rfl ?_
                                          exact j189_7 
                                      · skip
                                        refine g_iconst C dL_law_255 (q := 256) rfl ?_
                                        refine g_goto C dL_law_256 (q := 260) rfl ?_
                                        refine g_iadd C dL_law_260 (q := 261) rfl ?_
                                        refine g_icmp_ne C dL_law_261 (by omega) (q2 := 268) rfl (q := 264) rfl (fun hb68 => ?_) (fun hb68 => ?_)
                                        · skip
                                          refine g_iconst C dL_law_268 (q := 269) rfl ?_
                                          refine g_top (b := 1) (by omega) ?_
                                          exact j189_7 
                                        · skip
                                          refine g_iconst C dL_law_264 (q := 265) rfl ?_
                                          refine g_goto C dL_law_265 (q := 269) rfl ?_
                                          exact j189_7 
                    · skip
                      have hI2 := INV_same hI hS
                      have hW2 := hI2.1.1
                      have hP2 := hI2.1.2.1
                      have s8 := hS.1 308 (by omega)
                      have s9 := hS.1 309 (by omega)
                      refine g_iload C dL_law_175 0 rfl (q := 177) rfl ?_
                      refine g_bipush C dL_law_177 (by decide) (q := 179) rfl ?_
                      refine g_icmp_le C dL_law_179 (by omega) (q2 := 186) rfl (q := 182) rfl (fun hb69 => ?_) (fun hb69 => ?_)
                      · skip
                        refine g_iconst C dL_law_186 (q := 187) rfl ?_
                        refine g_istore C (L' := [(19, .int (iI 0)), (18, .int (iI res)), (17, .int (iI ((ρ 2) 309))), (16, .int (iI ((ρ 2) 308))), (14, .long (iL (tot (ρ 2)))), (13, .int (iI l1)), (12, .int (iI c2)), (11, .int (iI c1)), (10, .int (iI qq)), (9, .int (iI rr)), (8, .int (iI kd)), (6, .long (iL (SUM (ρ 2)))), (0, .ref (eb E)), (1, .ref (ea E 0)), (2, .ref (ea E 13)), (3, .int (iI made)), (4, .int (iI kk)), (5, .int (iI rd))]) dL_law_187 (by decide) rfl (q := 189) rfl ?_
                        have j189_16 : GG p_ l e_ room_1 s_ m_ a_ b_ h_ c_ Q E A 21 τ (ka + 27) (na + 2018) 269 [(19, .int (iI 0)), (18, .int (iI res)), (17, .int (iI ((ρ 2) 309))), (16, .int (iI ((ρ 2) 308))), (14, .long (iL (tot (ρ 2)))), (13, .int (iI l1)), (12, .int (iI c2)), (11, .int (iI c1)), (10, .int (iI qq)), (9, .int (iI rr)), (8, .int (iI kd)), (6, .long (iL (SUM (ρ 2)))), (0, .ref (eb E)), (1, .ref (ea E 0)), (2, .ref (ea E 13)), (3, .int (iI made)), (4, .int (iI kk)), (5, .int (iI rd))] [.int (iI 1)] := by
                          refine g_istore C (L' := [(20, .int (iI 1)), (19, .int (iI 0)), (18, .int (iI res)), (17, .int (iI ((ρ 2) 309))), (16, .int (iI ((ρ 2) 308))), (14, .long (iL (tot (ρ 2)))), (13, .int (iI l1)), (12, .int (iI c2)), (11, .int (iI c1)), (10, .int (iI qq)), (9, .int (iI rr)), (8, .int (iI kd)), (6, .long (iL (SUM (ρ 2)))), (0, .ref (eb E)), (1, .ref (ea E 0)), (2, .ref (ea E 13)), (3, .int (iI made)), (4, .int (iI kk)), (5, .int (iI rd))]) dL_law_269 (by decide) rfl (q := 271) rfl ?_
                          refine g_iload C dL_law_271 0 rfl (q := 273) rfl ?_
                          have j273_17 : GG p_ l e_ room_1 s_ m_ a_ b_ h_ c_ Q E A 21 τ (ka + 27) (na + 2018) 312 [(20, .int (iI 1)), (19, .int (iI 0)), (18, .int (iI res)), (17, .int (iI ((ρ 2) 309))), (16, .int (iI ((ρ 2) 308))), (14, .long (iL (tot (ρ 2)))), (13, .int (iI l1)), (12, .int (iI c2)), (11, .int (iI c1)), (10, .int (iI qq)), (9, .int (iI rr)), (8, .int (iI kd)), (6, .long (iL (SUM (ρ 2)))), (0, .ref (eb E)), (1, .ref (ea E 0)), (2, .ref (ea E 13)), (3, .int (iI made)), (4, .int (iI kk)), (5, .int (iI rd))] [.int (iI 1), .int (iI 1)] := by
                            refine g_iand01 C (by omega) (by omega) dL_law_312 (q := 313) rfl ?_
                            refine g_top (b := 1) (by decide) ?_
                            refine g_istore C (L' := [(20, .int (iI 1)), (19, .int (iI 0)), (18, .int (iI res)), (17, .int (iI ((ρ 2) 309))), (16, .int (iI ((ρ 2) 308))), (14, .long (iL (tot (ρ 2)))), (13, .int (iI l1)), (12, .int (iI c2)), (11, .int (iI c1)), (10, .int (iI qq)), (9, .int (iI rr)), (8, .int (iI kd)), (6, .long (iL (SUM (ρ 2)))), (0, .ref (eb E)), (1, .ref (ea E 0)), (2, .ref (ea E 13)), (3, .int (iI made)), (4, .int (iI kk)), (5, .int (iI rd))]) dL_law_313 (by decide) rfl (q := 315) rfl ?_
                            refine g_iload C dL_law_315 0 rfl (q := 317) rfl ?_
                            have j317_18 : GG p_ l e_ room_1 s_ m_ a_ b_ h_ c_ Q E A 21 τ (ka + 27) (na + 2018) 368 [(20, .int (iI 1)), (19, .int (iI 0)), (18, .int (iI res)), (17, .int (iI ((ρ 2) 309))), (16, .int (iI ((ρ 2) 308))), (14, .long (iL (tot (ρ 2)))), (13, .int (iI l1)), (12, .int (iI c2)), (11, .int (iI c1)), (10, .int (iI qq)), (9, .int (iI rr)), (8, .int (iI kd)), (6, .long (iL (SUM (ρ 2)))), (0, .ref (eb E)), (1, .ref (ea E 0)), (2, .ref (ea E 13)), (3, .int (iI made)), (4, .int (iI kk)), (5, .int (iI rd))] [.int (iI 1), .int (iI 1)] := by
                              refine g_iand01 C (by omega) (by omega) dL_law_368 (q := 369) rfl ?_
                              refine g_top (b := 1) (by decide) ?_
                              refine g_istore C (L' := [(20, .int (iI 1)), (19, .int (iI 0)), (18, .int (iI res)), (17, .int (iI ((ρ 2) 309))), (16, .int (iI ((ρ 2) 308))), (14, .long (iL (tot (ρ 2)))), (13, .int (iI l1)), (12, .int (iI c2)), (11, .int (iI c1)), (10, .int (iI qq)), (9, .int (iI rr)), (8, .int (iI kd)), (6, .long (iL (SUM (ρ 2)))), (0, .ref (eb E)), (1, .ref (ea E 0)), (2, .ref (ea E 13)), (3, .int (iI made)), (4, .int (iI kk)), (5, .int (iI rd))]) dL_law_369 (by decide) rfl (q := 371) rfl ?_
                              refine g_iload C dL_law_371 0 rfl (q := 373) rfl ?_
                              have j373_19 : GG p_ l e_ room_1 s_ m_ a_ b_ h_ c_ Q E A 21 τ (ka + 27) (na + 2018) 407 [(20, .int (iI 1)), (19, .int (iI 0)), (18, .int (iI res)), (17, .int (iI ((ρ 2) 309))), (16, .int (iI ((ρ 2) 308))), (14, .long (iL (tot (ρ 2)))), (13, .int (iI l1)), (12, .int (iI c2)), (11, .int (iI c1)), (10, .int (iI qq)), (9, .int (iI rr)), (8, .int (iI kd)), (6, .long (iL (SUM (ρ 2)))), (0, .ref (eb E)), (1, .ref (ea E 0)), (2, .ref (ea E 13)), (3, .int (iI made)), (4, .int (iI kk)), (5, .int (iI rd))] [.int (iI 1), .int (iI 1)] := by
                                refine g_iand01 C (by omega) (by omega) dL_law_407 (q := 408) rfl ?_
                                refine g_top (b := 1) (by decide) ?_
                                refine g_istore C (L' := [(20, .int (iI 1)), (19, .int (iI 0)), (18, .int (iI res)), (17, .int (iI ((ρ 2) 309))), (16, .int (iI ((ρ 2) 308))), (14, .long (iL (tot (ρ 2)))), (13, .int (iI l1)), (12, .int (iI c2)), (11, .int (iI c1)), (10, .int (iI qq)), (9, .int (iI rr)), (8, .int (iI kd)), (6, .long (iL (SUM (ρ 2)))), (0, .ref (eb E)), (1, .ref (ea E 0)), (2, .ref (ea E 13)), (3, .int (iI made)), (4, .int (iI kk)), (5, .int (iI rd))]) dL_law_408 (by decide) rfl (q := 410) rfl ?_
                                refine g_iload C dL_law_410 0 rfl (q := 412) rfl ?_
                                have j412_20 : GG p_ l e_ room_1 s_ m_ a_ b_ h_ c_ Q E A 21 τ (ka + 27) (na + 2018) 461 [(20, .int (iI 1)), (19, .int (iI 0)), (18, .int (iI res)), (17, .int (iI ((ρ 2) 309))), (16, .int (iI ((ρ 2) 308))), (14, .long (iL (tot (ρ 2)))), (13, .int (iI l1)), (12, .int (iI c2)), (11, .int (iI c1)), (10, .int (iI qq)), (9, .int (iI rr)), (8, .int (iI kd)), (6, .long (iL (SUM (ρ 2)))), (0, .ref (eb E)), (1, .ref (ea E 0)), (2, .ref (ea E 13)), (3, .int (iI made)), (4, .int (iI kk)), (5, .int (iI rd))] [.int (iI 1), .int (iI 1)] := by
                                  refine g_iand01 C (by omega) (by omega) dL_law_461 (q := 462) rfl ?_
                                  refine g_top (b := 1) (by decide) ?_
                                  refine g_istore C (L' := [(20, .int (iI 1)), (19, .int (iI 0)), (18, .int (iI res)), (17, .int (iI ((ρ 2) 309))), (16, .int (iI ((ρ 2) 308))), (14, .long (iL (tot (ρ 2)))), (13, .int (iI l1)), (12, .int (iI c2)), (11, .int (iI c1)), (10, .int (iI qq)), (9, .int (iI rr)), (8, .int (iI kd)), (6, .long (iL (SUM (ρ 2)))), (0, .ref (eb E)), (1, .ref (ea E 0)), (2, .ref (ea E 13)), (3, .int (iI made)), (4, .int (iI kk)), (5, .int (iI rd))]) dL_law_462 (by decide) rfl (q := 464) rfl ?_
                                  refine g_iload C dL_law_464 0 rfl (q := 466) rfl ?_
                                  have j466_21 : GG p_ l e_ room_1 s_ m_ a_ b_ h_ c_ Q E A 21 τ (ka + 27) (na + 2018) 509 [(20, .int (iI 1)), (19, .int (iI 0)), (18, .int (iI res)), (17, .int (iI ((ρ 2) 309))), (16, .int (iI ((ρ 2) 308))), (14, .long (iL (tot (ρ 2)))), (13, .int (iI l1)), (12, .int (iI c2)), (11, .int (iI c1)), (10, .int (iI qq)), (9, .int (iI rr)), (8, .int (iI kd)), (6, .long (iL (SUM (ρ 2)))), (0, .ref (eb E)), (1, .ref (ea E 0)), (2, .ref (ea E 13)), (3, .int (iI made)), (4, .int (iI kk)), (5, .int (iI rd))] [.int (iI 1), .int (iI 1)] := by
                                    refine g_iand01 C (by omega) (by omega) dL_law_509 (q := 510) rfl ?_
                                    refine g_top (b := 1) (by decide) ?_
                                    refine g_istore C (L' := [(20, .int (iI 1)), (19, .int (iI 0)), (18, .int (iI res)), (17, .int (iI ((ρ 2) 309))), (16, .int (iI ((ρ 2) 308))), (14, .long (iL (tot (ρ 2)))), (13, .int (iI l1)), (12, .int (iI c2)), (11, .int (iI c1)), (10, .int (iI qq)), (9, .int (iI rr)), (8, .int (iI kd)), (6, .long (iL (SUM (ρ 2)))), (0, .ref (eb E)), (1, .ref (ea E 0)), (2, .ref (ea E 13)), (3, .int (iI made)), (4, .int (iI kk)), (5, .int (iI rd))]) dL_law_510 (by decide) rfl (q := 512) rfl ?_
                                    refine g_iload C dL_law_512 0 rfl (q := 514) rfl ?_
                                    have j514_22 : GG p_ l e_ room_1 s_ m_ a_ b_ h_ c_ Q E A 21 τ (ka + 27) (na + 2018) 571 [(20, .int (iI 1)), (19, .int (iI 0)), (18, .int (iI res)), (17, .int (iI ((ρ 2) 309))), (16, .int (iI ((ρ 2) 308))), (14, .long (iL (tot (ρ 2)))), (13, .int (iI l1)), (12, .int (iI c2)), (11, .int (iI c1)), (10, .int (iI qq)), (9, .int (iI rr)), (8, .int (iI kd)), (6, .long (iL (SUM (ρ 2)))), (0, .ref (eb E)), (1, .ref (ea E 0)), (2, .ref (ea E 13)), (3, .int (iI made)), (4, .int (iI kk)), (5, .int (iI rd))] [.int (iI 1), .int (iI 1)] := by
                                      refine g_iand01 C (by omega) (by omega) dL_law_571 (q := 572) rfl ?_
                                      refine g_top (b := 1) (by decide) ?_
                                      refine g_istore C (L' := [(20, .int (iI 1)), (19, .int (iI 0)), (18, .int (iI res)), (17, .int (iI ((ρ 2) 309))), (16, .int (iI ((ρ 2) 308))), (14, .long (iL (tot (ρ 2)))), (13, .int (iI l1)), (12, .int (iI c2)), (11, .int (iI c1)), (10, .int (iI qq)), (9, .int (iI rr)), (8, .int (iI kd)), (6, .long (iL (SUM (ρ 2)))), (0, .ref (eb E)), (1, .ref (ea E 0)), (2, .ref (ea E 13)), (3, .int (iI made)), (4, .int (iI kk)), (5, .int (iI rd))]) dL_law_572 (by decide) rfl (q := 574) rfl ?_
                                      refine g_iload C dL_law_574 0 rfl (q := 576) rfl ?_
                                      have j576_23 : GG p_ l e_ room_1 s_ m_ a_ b_ h_ c_ Q E A 21 τ (ka + 27) (na + 2018) 634 [(20, .int (iI 1)), (19, .int (iI 0)), (18, .int (iI res)), (17, .int (iI ((ρ 2) 309))), (16, .int (iI ((ρ 2) 308))), (14, .long (iL (tot (ρ 2)))), (13, .int (iI l1)), (12, .int (iI c2)), (11, .int (iI c1)), (10, .int (iI qq)), (9, .int (iI rr)), (8, .int (iI kd)), (6, .long (iL (SUM (ρ 2)))), (0, .ref (eb E)), (1, .ref (ea E 0)), (2, .ref (ea E 13)), (3, .int (iI made)), (4, .int (iI kk)), (5, .int (iI rd))] [.int (iI 1), .int (iI 1)] := by
                                        refine g_iand01 C (by omega) (by omega) dL_law_634 (q := 635) rfl ?_
                                        refine g_top (b := 1) (by decide) ?_
                                        refine g_istore C (L' := [(20, .int (iI 1)), (19, .int (iI 0)), (18, .int (iI res)), (17, .int (iI ((ρ 2) 309))), (16, .int (iI ((ρ 2) 308))), (14, .long (iL (tot (ρ 2)))), (13, .int (iI l1)), (12, .int (iI c2)), (11, .int (iI c1)), (10, .int (iI qq)), (9, .int (iI rr)), (8, .int (iI kd)), (6, .long (iL (SUM (ρ 2)))), (0, .ref (eb E)), (1, .ref (ea E 0)), (2, .ref (ea E 13)), (3, .int (iI made)), (4, .int (iI kk)), (5, .int (iI rd))]) dL_law_635 (by decide) rfl (q := 637) rfl ?_
                                        refine g_iinc C (L' := [(4, .int (iI (kk + 6))), (20, .int (iI 1)), (19, .int (iI 0)), (18, .int (iI res)), (17, .int (iI ((ρ 2) 309))), (16, .int (iI ((ρ 2) 308))), (14, .long (iL (tot (ρ 2)))), (13, .int (iI l1)), (12, .int (iI c2)), (11, .int (iI c1)), (10, .int (iI qq)), (9, .int (iI rr)), (8, .int (iI kd)), (6, .long (iL (SUM (ρ 2)))), (0, .ref (eb E)), (1, .ref (ea E 0)), (2, .ref (ea E 13)), (3, .int (iI made)), (5, .int (iI rd))]) dL_law_637 17 rfl (by decide) rfl (q := 640) rfl ?_
                                        refine g_iload C dL_law_640 1 rfl (q := 642) rfl ?_
                                        refine g_if_eq C dL_law_642 (by omega) (q2 := 668) rfl (q := 645) rfl (fun hb70 => ?_) (fun hb70 => ?_)
                                        · skip
                                          exfalso; omega
                                        · skip
                                          refine g_aload_n C dL_law_645 15 rfl rfl (q := 646) rfl ?_
                                          refine g_aload_n C dL_law_646 14 rfl rfl (q := 647) rfl ?_
                                          refine g_iload C dL_law_647 0 rfl (q := 649) rfl ?_
                                          have j649_24 : ∀ (b4 : Int), (b4 = 0 ∨ b4 = 1) → GG p_ l e_ room_1 s_ m_ a_ b_ h_ c_ Q E A 21 τ (ka + 27) (na + 2018) 662 [(4, .int (iI (kk + 6))), (20, .int (iI 1)), (19, .int (iI 0)), (18, .int (iI res)), (17, .int (iI ((ρ 2) 309))), (16, .int (iI ((ρ 2) 308))), (14, .long (iL (tot (ρ 2)))), (13, .int (iI l1)), (12, .int (iI c2)), (11, .int (iI c1)), (10, .int (iI qq)), (9, .int (iI rr)), (8, .int (iI kd)), (6, .long (iL (SUM (ρ 2)))), (0, .ref (eb E)), (1, .ref (ea E 0)), (2, .ref (ea E 13)), (3, .int (iI made)), (5, .int (iI rd))] [.int (iI b4), .int (iI (kk + 6)), .ref (eb E), .ref (ea E 0)] := by
                                            intro b4 hb4
                                            refine g_cX_i C (As := [.ref (ea E 0), .ref (eb E), .int (iI (kk + 6)), .int (iI b4)]) (c_L_isWhole l hst E _ (kk + 6) b4  (by exact hW2) (by exact hP2) (by first | assumption | omega) (by first | assumption | omega) (by first | assumption | omega)) ml_L_209 mf_L_isWhole rfl rfl ⟨(Nat.le_of_ble_eq_true rfl), (Nat.le_of_ble_eq_true rfl)⟩ rfl rfl rfl (Nat.le_of_ble_eq_true rfl) ⟨by show (ka + 27) + 96 ≤ 600312; omega, by show (na + 2018) + 576 ≤ 7292162; omega⟩ dL_law_662 (q := 665) rfl (fun vw σw hw9 => ?_)
                                            refine g_k (k2 := (ka + 123)) (n2 := (na + 2594)) (by omega) (by omega) ?_
                                            obtain ⟨hv9, a9, b9, hs9⟩ := hw9
                                            have hw2 : σw 2 = τ 2 := by rw [hs9]; rfl
                                            refine g_if_ne C dL_law_665 (by omega) (q2 := 670) rfl (q := 668) rfl (fun hb71 => ?_) (fun hb71 => ?_)
                                            · skip
                                              refine g_iload C dL_law_670 2 rfl (q := 672) rfl ?_
                                              refine g_if_ne C dL_law_672 (by omega) (q2 := 687) rfl (q := 675) rfl (fun hb72 => ?_) (fun hb72 => ?_)
                                              · skip
                                                exfalso; omega
                                              · skip
                                                refine g_aload_n C dL_law_675 15 rfl rfl (q := 676) rfl ?_
                                                refine g_cN_l C (As := [.ref (ea E 0)]) (c_L_sum l hst E _   (by rw [hw2]; exact hW2) (by rw [hw2]; omega)) ml_L_178 mf_L_sum rfl rfl ⟨(Nat.le_of_ble_eq_true rfl), (Nat.le_of_ble_eq_true rfl)⟩ rfl rfl rfl (Nat.le_of_ble_eq_true rfl) ⟨by show (ka + 123) + 0 ≤ 600312; omega, by show (na + 2594) + 0 ≤ 7292162; omega⟩ dL_law_676 (q := 679) rfl ?_
                                                refine g_k (k2 := (ka + 123)) (n2 := (na + 2594)) (by omega) (by omega) ?_
                                                refine g_lload C dL_law_679 13 rfl (q := 681) rfl ?_
                                                refine g_lcmpE C (by rw [hw2]; first | exact hI2.2 | exact hI2.2.symm) dL_law_681 (q := 682) rfl ?_
                                                refine g_if_eq C dL_law_682 (by omega) (q2 := 697) rfl (q := 685) rfl (fun hb73 => ?_) (fun hb73 => ?_)
                                                · skip
                                                  have hIb := (INV_same (σ' := σw) hI (by rw [hs9]; exact hS)).1
                                                  refine g_iinc C (L' := [(5, .int (iI (rd + 1))), (4, .int (iI (kk + 6))), (20, .int (iI 1)), (19, .int (iI 0)), (18, .int (iI res)), (17, .int (iI ((ρ 2) 309))), (16, .int (iI ((ρ 2) 308))), (14, .long (iL (tot (ρ 2)))), (13, .int (iI l1)), (12, .int (iI c2)), (11, .int (iI c1)), (10, .int (iI qq)), (9, .int (iI rr)), (8, .int (iI kd)), (6, .long (iL (SUM (ρ 2)))), (0, .ref (eb E)), (1, .ref (ea E 0)), (2, .ref (ea E 13)), (3, .int (iI made))]) dL_law_697 18 rfl (by decide) rfl (q := 700) rfl ?_
                                                  refine g_goto C dL_law_700 (q := 28) rfl ?_
                                                  refine g_sub [15, 16, 17, 18, 1, 0] (L' := [(0, .ref (eb E)), (1, .ref (ea E 0)), (2, .ref (ea E 13)), (3, .int (iI made)), (4, .int (iI (kk + 6))), (5, .int (iI (rd + 1)))]) rfl ?_
                                                  exact ih28 σw made (kk + 6) (rd + 1) (ka + 123) (na + 2594) (by omega) (by omega) (by omega) (by omega) (by exact hIb) (by omega) (by omega)
                                                · skip
                                                  exfalso; omega
                                            · skip
                                              exfalso; omega
                                          refine g_iload C dL_law_649 18 rfl (q := 651) rfl ?_
                                          refine g_iconst C dL_law_651 (q := 652) rfl ?_
                                          refine g_irem C dL_law_652 (by omega) (q := 653) rfl ?_
                                          refine g_iconst C dL_law_653 (q := 654) rfl ?_
                                          refine g_icmp_ne C dL_law_654 (by omega) (q2 := 661) rfl (q := 657) rfl (fun hb74 => ?_) (fun hb74 => ?_)
                                          · skip
                                            refine g_iconst C dL_law_661 (q := 662) rfl ?_
                                            exact j649_24 0 (by omega)
                                          · skip
                                            refine g_iconst C dL_law_657 (q := 658) rfl ?_
                                            refine g_goto C dL_law_658 (q := 662) rfl ?_
                                            exact j649_24 1 (by omega)
                                      refine g_iload C dL_law_576 1 rfl (q := 578) rfl ?_
                                      refine g_if_eq C dL_law_578 (by omega) (q2 := 629) rfl (q := 581) rfl (fun hb75 => ?_) (fun hb75 => ?_)
                                      · skip
                                        refine g_iconst C dL_law_629 (q := 630) rfl ?_
                                        refine g_goto C dL_law_630 (q := 634) rfl ?_
                                        exact j576_23 
                                      · skip
                                        exfalso; omega
                                    refine g_iload C dL_law_514 1 rfl (q := 516) rfl ?_
                                    refine g_if_eq C dL_law_516 (by omega) (q2 := 566) rfl (q := 519) rfl (fun hb76 => ?_) (fun hb76 => ?_)
                                    · skip
                                      refine g_iconst C dL_law_566 (q := 567) rfl ?_
                                      refine g_goto C dL_law_567 (q := 571) rfl ?_
                                      exact j514_22 
                                    · skip
                                      exfalso; omega
                                  refine g_iload C dL_law_466 1 rfl (q := 468) rfl ?_
                                  refine g_if_eq C dL_law_468 (by omega) (q2 := 504) rfl (q := 471) rfl (fun hb77 => ?_) (fun hb77 => ?_)
                                  · skip
                                    refine g_iconst C dL_law_504 (q := 505) rfl ?_
                                    refine g_goto C dL_law_505 (q := 509) rfl ?_
                                    exact j466_21 
                                  · skip
                                    exfalso; omega
                                refine g_iload C dL_law_412 1 rfl (q := 414) rfl ?_
                                refine g_if_eq C dL_law_414 (by omega) (q2 := 456) rfl (q := 417) rfl (fun hb78 => ?_) (fun hb78 => ?_)
                                · skip
                                  refine g_iconst C dL_law_456 (q := 457) rfl ?_
                                  refine g_goto C dL_law_457 (q := 461) rfl ?_
                                  exact j412_20 
                                · skip
                                  exfalso; omega
                              refine g_iload C dL_law_373 1 rfl (q := 375) rfl ?_
                              refine g_if_eq C dL_law_375 (by omega) (q2 := 402) rfl (q := 378) rfl (fun hb79 => ?_) (fun hb79 => ?_)
                              · skip
                                refine g_iconst C dL_law_402 (q := 403) rfl ?_
                                refine g_goto C dL_law_403 (q := 407) rfl ?_
                                exact j373_19 
                              · skip
                                exfalso; omega
                            refine g_iload C dL_law_317 1 rfl (q := 319) rfl ?_
                            refine g_if_eq C dL_law_319 (by omega) (q2 := 363) rfl (q := 322) rfl (fun hb80 => ?_) (fun hb80 => ?_)
                            · skip
                              refine g_iconst C dL_law_363 (q := 364) rfl ?_
                              refine g_goto C dL_law_364 (q := 368) rfl ?_
                              exact j317_18 
                            · skip
                              exfalso; omega
                          refine g_iload C dL_law_273 1 rfl (q := 275) rfl ?_
                          refine g_if_eq C dL_law_275 (by omega) (q2 := 307) rfl (q := 278) rfl (fun hb81 => ?_) (fun hb81 => ?_)
                          · skip
                            refine g_iconst C dL_law_307 (q := 308) rfl ?_
                            refine g_goto C dL_law_308 (q := 312) rfl ?_
                            exact j273_17 
                          · skip
                            exfalso; omega
                        refine g_aload_n C dL_law_189 13 rfl rfl (q := 190) rfl ?_
                        refine g_cV_i C (As := []) (c_X4_cutCount l E _  ) ml_L_194 mf_X4_cutCount (o := 0) (ci := 4) rfl rfl rfl rfl ⟨(Nat.le_of_ble_eq_true rfl), (Nat.le_of_ble_eq_true rfl)⟩ rfl rfl rfl (Nat.le_of_ble_eq_true rfl) ⟨by show (ka + 27) + 0 ≤ 600312; omega, by show (na + 2018) + 0 ≤ 7292162; omega⟩ dL_law_190 (q := 193) rfl ?_
                        refine g_iload C dL_law_193 3 rfl (q := 195) rfl ?_
                        refine g_iload C dL_law_195 0 rfl (q := 197) rfl ?_
                        refine g_if_eq C dL_law_197 (by omega) (q2 := 218) rfl (q := 200) rfl (fun hb82 => ?_) (fun hb82 => ?_)
                        · skip
                          refine g_iconst C dL_law_218 (q := 219) rfl ?_
                          refine g_iadd C dL_law_219 (q := 220) rfl ?_
                          refine g_icmp_ne C dL_law_220 (by omega) (q2 := 268) rfl (q := 223) rfl (fun hb83 => ?_) (fun hb83 => ?_)
                          · skip
                            refine g_iconst C dL_law_268 (q := 269) rfl ?_
                            refine g_top (b := 1) (by omega) ?_
                            exact j189_16 
                          · skip
                            refine g_iload C dL_law_223 10 rfl (q := 225) rfl ?_
                            refine g_bipush C dL_law_225 (by decide) (q := 227) rfl ?_
                            refine g_icmp_gt C dL_law_227 (by omega) (q2 := 264) rfl (q := 230) rfl (fun hb84 => ?_) (fun hb84 => ?_)
                            · skip
                              refine g_iconst C dL_law_264 (q := 265) rfl ?_
                              refine g_goto C dL_law_265 (q := 269) rfl ?_
                              exact j189_16 
                            · skip
                              refine g_aload_n C dL_law_230 13 rfl rfl (q := 231) rfl ?_
                              refine g_cV_i C (As := []) (c_X4_spliceCount l E _  ) ml_L_197 mf_X4_spliceCount (o := 0) (ci := 4) rfl rfl rfl rfl ⟨(Nat.le_of_ble_eq_true rfl), (Nat.le_of_ble_eq_true rfl)⟩ rfl rfl rfl (Nat.le_of_ble_eq_true rfl) ⟨by show (ka + 27) + 0 ≤ 600312; omega, by show (na + 2018) + 0 ≤ 7292162; omega⟩ dL_law_231 (q := 234) rfl ?_
                              refine g_iload C dL_law_234 2 rfl (q := 236) rfl ?_
                              refine g_iload C dL_law_236 0 rfl (q := 238) rfl ?_
                              refine g_if_eq C dL_law_238 (by omega) (q2 := 259) rfl (q := 241) rfl (fun hb85 => ?_) (fun hb85 => ?_)
                              · skip
                                refine g_iconst C dL_law_259 (q := 260) rfl ?_
                                refine g_iadd C dL_law_260 (q := 261) rfl ?_
                                refine g_icmp_ne C dL_law_261 (by omega) (q2 := 268) rfl (q := 264) rfl (fun hb86 => ?_) (fun hb86 => ?_)
                                · skip
                                  refine g_iconst C dL_law_268 (q := 269) rfl ?_
                                  refine g_top (b := 1) (by omega) ?_
                                  exact j189_16 
                                · skip
                                  refine g_iconst C dL_law_264 (q := 265) rfl ?_
                                  refine g_goto C dL_law_265 (q := 269) rfl ?_
                                  exact j189_16 
                              · skip
                                exfalso; omega
                        · skip
                          exfalso; omega
                      · skip
                        exfalso; omega
                  refine g_aload_n C dL_law_128 7 rfl rfl (q := 129) rfl ?_
                  rcases (show (0 ≤ rr ∧ rr < 4) ∨ (rr = 4) by omega) with hx4 | hx4
                  · skip
                    refine g_iload C dL_law_129 3 rfl (q := 131) rfl ?_
                    refine g_cT_i C (hh := th_L_reelLength) (As := [.ref (ea E 0), .int (iI rr)]) (c_L_reelLength l hst E _ rr  (by first | assumption | omega) (by first | assumption | omega) (by exact fR_ok (by omega))) ml_L_188 mf_L_reelLength rfl ⟨(Nat.le_of_ble_eq_true rfl), (Nat.le_of_ble_eq_true rfl)⟩ rfl rfl rfl (Nat.le_of_ble_eq_true rfl) ⟨by show (ka + 2) + 0 ≤ 600312; omega, by show (na + 12) + 0 ≤ 7292162; omega⟩ dL_law_131 (q := 134) rfl ?_
                    refine g_k (k2 := (ka + 2)) (n2 := (na + 12)) (by omega) (by omega) ?_
                    refine g_wide (k2 := (ka + 3)) (n2 := (na + 18)) (by omega) (by omega) ?_
                    exact j128_6 (sb (ρ 2) rr ((ρ 2) (240 + rr))) (by first | (refine ⟨fun h9 => sgl_sb hW hP h9, ?_, ?_⟩ <;> (have h8 := sgl_sb hW hP (r := rr) hx4; have h9 := sgl_rg hW (r := rr) hx4; omega)) | (refine ⟨fun h9 => by omega, by omega, by omega⟩))
                  · skip
                    refine g_iload C dL_law_129 3 rfl (q := 131) rfl ?_
                    refine g_cT_i C (hh := th_L_reelLength) (As := [.ref (ea E 0), .int (iI rr)]) (c_L_reelLength_11 l hst E _ rr  (by first | assumption | omega) (by first | assumption | omega) (by exact if_neg (by omega))) ml_L_188 mf_L_reelLength rfl ⟨(Nat.le_of_ble_eq_true rfl), (Nat.le_of_ble_eq_true rfl)⟩ rfl rfl rfl (Nat.le_of_ble_eq_true rfl) ⟨by show (ka + 2) + 1 ≤ 600312; omega, by show (na + 12) + 6 ≤ 7292162; omega⟩ dL_law_131 (q := 134) rfl ?_
                    refine g_k (k2 := (ka + 3)) (n2 := (na + 18)) (by omega) (by omega) ?_
                    exact j128_6 (-77) (by first | (refine ⟨fun h9 => sgl_sb hW hP h9, ?_, ?_⟩ <;> (have h8 := sgl_sb hW hP (r := rr) hx4; have h9 := sgl_rg hW (r := rr) hx4; omega)) | (refine ⟨fun h9 => by omega, by omega, by omega⟩))
                refine g_aload_n C dL_law_120 6 rfl rfl (q := 121) rfl ?_
                rcases (show (0 ≤ qq ∧ qq < 4) ∨ (qq = 4) by omega) with hx4 | hx4
                · skip
                  refine g_iload C dL_law_121 1 rfl (q := 123) rfl ?_
                  refine g_cT_i C (hh := th_L_segmentCount) (As := [.ref (ea E 0), .int (iI qq)]) (c_L_segmentCount l hst E _ qq  (by first | assumption | omega) (by first | assumption | omega) (by exact fR_ok (by omega))) ml_L_186 mf_L_segmentCount rfl ⟨(Nat.le_of_ble_eq_true rfl), (Nat.le_of_ble_eq_true rfl)⟩ rfl rfl rfl (Nat.le_of_ble_eq_true rfl) ⟨by show (ka + 1) + 0 ≤ 600312; omega, by show (na + 6) + 0 ≤ 7292162; omega⟩ dL_law_123 (q := 126) rfl ?_
                  refine g_k (k2 := (ka + 1)) (n2 := (na + 6)) (by omega) (by omega) ?_
                  refine g_wide (k2 := (ka + 2)) (n2 := (na + 12)) (by omega) (by omega) ?_
                  exact j120_5 ((ρ 2) (240 + qq)) (by first | (refine ⟨fun _ => rfl, ?_, ?_⟩ <;> (have h9 := (hW qq hx4).1; omega)) | (refine ⟨fun h9 => by omega, by omega, by omega⟩))
                · skip
                  refine g_iload C dL_law_121 1 rfl (q := 123) rfl ?_
                  refine g_cT_i C (hh := th_L_segmentCount) (As := [.ref (ea E 0), .int (iI qq)]) (c_L_segmentCount_11 l hst E _ qq  (by first | assumption | omega) (by first | assumption | omega) (by exact if_neg (by omega))) ml_L_186 mf_L_segmentCount rfl ⟨(Nat.le_of_ble_eq_true rfl), (Nat.le_of_ble_eq_true rfl)⟩ rfl rfl rfl (Nat.le_of_ble_eq_true rfl) ⟨by show (ka + 1) + 1 ≤ 600312; omega, by show (na + 6) + 6 ≤ 7292162; omega⟩ dL_law_123 (q := 126) rfl ?_
                  refine g_k (k2 := (ka + 2)) (n2 := (na + 12)) (by omega) (by omega) ?_
                  exact j120_5 (-77) (by first | (refine ⟨fun _ => rfl, ?_, ?_⟩ <;> (have h9 := (hW qq hx4).1; omega)) | (refine ⟨fun h9 => by omega, by omega, by omega⟩))
              refine g_aload_n C dL_law_112 5 rfl rfl (q := 113) rfl ?_
              rcases (show (0 ≤ rr ∧ rr < 4) ∨ (rr = 4) by omega) with hx4 | hx4
              · skip
                refine g_iload C dL_law_113 1 rfl (q := 115) rfl ?_
                refine g_cT_i C (hh := th_L_segmentCount) (As := [.ref (ea E 0), .int (iI rr)]) (c_L_segmentCount l hst E _ rr  (by first | assumption | omega) (by first | assumption | omega) (by exact fR_ok (by omega))) ml_L_186 mf_L_segmentCount rfl ⟨(Nat.le_of_ble_eq_true rfl), (Nat.le_of_ble_eq_true rfl)⟩ rfl rfl rfl (Nat.le_of_ble_eq_true rfl) ⟨by show ka + 0 ≤ 600312; omega, by show na + 0 ≤ 7292162; omega⟩ dL_law_115 (q := 118) rfl ?_
                refine g_k (k2 := ka) (n2 := na) (by omega) (by omega) ?_
                refine g_wide (k2 := (ka + 1)) (n2 := (na + 6)) (by omega) (by omega) ?_
                exact j112_4 ((ρ 2) (240 + rr)) (by first | (refine ⟨fun _ => rfl, ?_, ?_⟩ <;> (have h9 := (hW rr hx4).1; omega)) | (refine ⟨fun h9 => by omega, by omega, by omega⟩))
              · skip
                refine g_iload C dL_law_113 1 rfl (q := 115) rfl ?_
                refine g_cT_i C (hh := th_L_segmentCount) (As := [.ref (ea E 0), .int (iI rr)]) (c_L_segmentCount_11 l hst E _ rr  (by first | assumption | omega) (by first | assumption | omega) (by exact if_neg (by omega))) ml_L_186 mf_L_segmentCount rfl ⟨(Nat.le_of_ble_eq_true rfl), (Nat.le_of_ble_eq_true rfl)⟩ rfl rfl rfl (Nat.le_of_ble_eq_true rfl) ⟨by show ka + 1 ≤ 600312; omega, by show na + 6 ≤ 7292162; omega⟩ dL_law_115 (q := 118) rfl ?_
                refine g_k (k2 := (ka + 1)) (n2 := (na + 6)) (by omega) (by omega) ?_
                exact j112_4 (-77) (by first | (refine ⟨fun _ => rfl, ?_, ?_⟩ <;> (have h9 := (hW rr hx4).1; omega)) | (refine ⟨fun h9 => by omega, by omega, by omega⟩))
            refine g_iload C dL_law_87 8 rfl (q := 89) rfl ?_
            refine g_bipush C dL_law_89 (by decide) (q := 91) rfl ?_
            refine g_irem C dL_law_91 (by omega) (q := 92) rfl ?_
            refine g_bipush C dL_law_92 (by decide) (q := 94) rfl ?_
            refine g_icmp_ne C dL_law_94 (by omega) (q2 := 101) rfl (q := 97) rfl (fun hb87 => ?_) (fun hb87 => ?_)
            · skip
              refine g_aload_n C dL_law_101 3 rfl rfl (q := 102) rfl ?_
              refine g_iload C dL_law_102 7 rfl (q := 104) rfl ?_
              refine g_iconst C dL_law_104 (q := 105) rfl ?_
              refine g_iadd C dL_law_105 (q := 106) rfl ?_
              refine g_iconst C dL_law_106 (q := 107) rfl ?_
              refine g_cN_i C (As := [.ref (eb E), .int (iI (kk + 2)), .int (iI 4)]) (c_L_pick l hst E _ (kk + 2) 4  (by first | assumption | omega) (by first | assumption | omega) (by first | assumption | omega)) ml_L_182 mf_L_pick rfl rfl ⟨(Nat.le_of_ble_eq_true rfl), (Nat.le_of_ble_eq_true rfl)⟩ rfl rfl rfl (Nat.le_of_ble_eq_true rfl) ⟨by show ka + 0 ≤ 600312; omega, by show na + 0 ≤ 7292162; omega⟩ dL_law_107 (q := 110) rfl ?_
              refine g_k (k2 := ka) (n2 := na) (by omega) (by omega) ?_
              exact j87_3 (pkE E (kk + 2) 4) (by first | omega | (have h9 := pkE_rg E (kk + 2) (n := 4) (by omega); omega))
            · skip
              refine g_iconst C dL_law_97 (q := 98) rfl ?_
              refine g_goto C dL_law_98 (q := 110) rfl ?_
              exact j87_3 4 (by first | omega | (have h9 := pkE_rg E (kk + 2) (n := 4) (by omega); omega))
          refine g_iload C dL_law_62 7 rfl (q := 64) rfl ?_
          refine g_bipush C dL_law_64 (by decide) (q := 66) rfl ?_
          refine g_irem C dL_law_66 (by omega) (q := 67) rfl ?_
          refine g_bipush C dL_law_67 (by decide) (q := 69) rfl ?_
          refine g_icmp_ne C dL_law_69 (by omega) (q2 := 76) rfl (q := 72) rfl (fun hb88 => ?_) (fun hb88 => ?_)
          · skip
            refine g_aload_n C dL_law_76 2 rfl rfl (q := 77) rfl ?_
            refine g_iload C dL_law_77 6 rfl (q := 79) rfl ?_
            refine g_iconst C dL_law_79 (q := 80) rfl ?_
            refine g_iadd C dL_law_80 (q := 81) rfl ?_
            refine g_iconst C dL_law_81 (q := 82) rfl ?_
            refine g_cN_i C (As := [.ref (eb E), .int (iI (kk + 1)), .int (iI 4)]) (c_L_pick l hst E _ (kk + 1) 4  (by first | assumption | omega) (by first | assumption | omega) (by first | assumption | omega)) ml_L_182 mf_L_pick rfl rfl ⟨(Nat.le_of_ble_eq_true rfl), (Nat.le_of_ble_eq_true rfl)⟩ rfl rfl rfl (Nat.le_of_ble_eq_true rfl) ⟨by show ka + 0 ≤ 600312; omega, by show na + 0 ≤ 7292162; omega⟩ dL_law_82 (q := 85) rfl ?_
            refine g_k (k2 := ka) (n2 := na) (by omega) (by omega) ?_
            exact j62_2 (pkE E (kk + 1) 4) (by first | omega | (have h9 := pkE_rg E (kk + 1) (n := 4) (by omega); omega))
          · skip
            refine g_iconst C dL_law_72 (q := 73) rfl ?_
            refine g_goto C dL_law_73 (q := 85) rfl ?_
            exact j62_2 4 (by first | omega | (have h9 := pkE_rg E (kk + 1) (n := 4) (by omega); omega))
        refine g_iload C dL_law_41 6 rfl (q := 43) rfl ?_
        refine g_bipush C dL_law_43 (by decide) (q := 45) rfl ?_
        refine g_icmp_ge C dL_law_45 (by omega) (q2 := 52) rfl (q := 48) rfl (fun hb89 => ?_) (fun hb89 => ?_)
        · skip
          refine g_aload_n C dL_law_52 1 rfl rfl (q := 53) rfl ?_
          refine g_iload C dL_law_53 5 rfl (q := 55) rfl ?_
          refine g_bipush C dL_law_55 (by decide) (q := 57) rfl ?_
          refine g_cN_i C (As := [.ref (eb E), .int (iI kk), .int (iI 40)]) (c_L_pick l hst E _ kk 40  (by first | assumption | omega) (by first | assumption | omega) (by first | assumption | omega)) ml_L_182 mf_L_pick rfl rfl ⟨(Nat.le_of_ble_eq_true rfl), (Nat.le_of_ble_eq_true rfl)⟩ rfl rfl rfl (Nat.le_of_ble_eq_true rfl) ⟨by show ka + 0 ≤ 600312; omega, by show na + 0 ≤ 7292162; omega⟩ dL_law_57 (q := 60) rfl ?_
          refine g_k (k2 := ka) (n2 := na) (by omega) (by omega) ?_
          exact j41_1 (pkE E kk 40) (by first | omega | (have h9 := pkE_rg E kk (n := 40) (by omega); omega))
        · skip
          refine g_iconst C dL_law_48 (q := 49) rfl ?_
          refine g_goto C dL_law_49 (q := 60) rfl ?_
          exact j41_1 0 (by first | omega | (have h9 := pkE_rg E kk (n := 40) (by omega); omega))
  exact lp28 _ (st σ 13 (pt (σ 13) 0 (SUM (σ 2)))) 0 0 0 k0 n0 (Nat.lt_succ_self _) (by omega) (by omega) (by omega) (by exact INV_st hW hP hz hKP) (by omega) (by omega)
