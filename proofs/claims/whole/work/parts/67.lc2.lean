set_option maxRecDepth 100000 in
set_option maxHeartbeats 4000000 in
theorem lc_8 {p : Program} {l : Launch} {e : Env} {s : State} {m : MethodId} {args : Array Value} {below : List Frame} {meth : Method} {c : Code} {E : EV} {A : Nat → Prop} {Q : State → Prop} {σ : SS} {k n : Nat} {bS N : Nat} {xs : Nat → Int32} (hst : l.stackTraces = false) (C : CX p l e room_1 s m args below meth c RL cL_law 9 E A (some .boolean)) (hX : SX bS N xs s A) (hkn : k + 1 ≤ room_1.cells ∧ n + 6 ≤ room_1.slots) (i : Int) (hi : 0 ≤ i ∧ i + 5 ≤ N) (hI : INV σ) (K : ∀ σ2 : SS, INV σ2 → GG p l e room_1 s m args below meth c Q E A 9 σ2 (k + 1) (n + 6) 2912 [(0, .ref bS), (1, .ref (ea E 0)), (2, .ref (ea E 13)), (3, .ref (ea E 21)), (4, .ref (ea E 22)), (5, .int (iI i))] []) : GG p l e room_1 s m args below meth c Q E A 9 σ k n 828 [(0, .ref bS), (1, .ref (ea E 0)), (2, .ref (ea E 13)), (3, .ref (ea E 21)), (4, .ref (ea E 22)), (5, .int (iI i))] [] := by
  have hM := hI.1.2
  have hP := hI.1.1
  have hW := hM.1
  have hH := hI.2.2.1.2.1
  have hK5 := hI.2.2.1.1
  have hN9 := hX.2.2.2
  have hkn0 : k ≤ room_1.cells ∧ n ≤ room_1.slots := ⟨Nat.le_of_succ_le hkn.1, Nat.le_trans (Nat.le_add_right n 6) hkn.2⟩
  obtain ⟨r, hs_r⟩ : ∃ v, scr xs (i + 1) = v := ⟨_, rfl⟩
  have hr_r := scr_rg xs (i + 1)
  rw [hs_r] at hr_r
  obtain ⟨b, hs_b⟩ : ∃ v, scr xs (i + 2) = v := ⟨_, rfl⟩
  have hr_b := scr_rg xs (i + 2)
  rw [hs_b] at hr_b
  have hcs := FK_cs (σ 2) 5 r b 0 0
  refine g_aload_n C dL_law_828 1 rfl rfl (q := 829) rfl ?_
  refine g_aload_n C dL_law_829 0 rfl rfl (q := 830) rfl ?_
  refine g_iload C dL_law_830 5 rfl (q := 832) rfl ?_
  refine g_iconst C dL_law_832 (q := 833) rfl ?_
  refine g_iadd C dL_law_833 (q := 834) rfl ?_
  refine g_scr C hX (j := i + 1) (by omega) dL_law_834 (q := 835) rfl ?_
  refine g_top (b := r) hs_r ?_
  refine g_aload_n C dL_law_835 0 rfl rfl (q := 836) rfl ?_
  refine g_iload C dL_law_836 5 rfl (q := 838) rfl ?_
  refine g_iconst C dL_law_838 (q := 839) rfl ?_
  refine g_iadd C dL_law_839 (q := 840) rfl ?_
  refine g_scr C hX (j := i + 2) (by omega) dL_law_840 (q := 841) rfl ?_
  refine g_top (b := b) hs_b ?_
  refine g_aload_n C dL_law_841 3 rfl rfl (q := 842) rfl ?_
  rcases (show ((FK (σ 2) 5 r b 0 0 = 0)) ∨ ((FK (σ 2) 5 r b 0 0 = 1)) ∨ ((FK (σ 2) 5 r b 0 0 = 2)) ∨ ((FK (σ 2) 5 r b 0 0 = 3)) by omega) with hq0 | hq0 | hq0 | hq0
  · skip
    refine g_cL C (hh := th_L_splice) (As := [.ref (ea E 0), .int (iI r), .int (iI b), .ref (ea E 21)]) (c_L_splice l hst E _ r b  (by assumption) (by assumption) (by assumption) (by assumption) (by assumption)) ml_L_184 mf_L_splice rfl ⟨(Nat.le_of_ble_eq_true rfl), (Nat.le_of_ble_eq_true rfl)⟩ rfl rfl rfl (Nat.le_of_ble_eq_true rfl) hkn dL_law_842 (q := 845) rfl ?_
    refine g_istore C (L' := [(6, .int (iI 0)), (0, .ref bS), (1, .ref (ea E 0)), (2, .ref (ea E 13)), (3, .ref (ea E 21)), (4, .ref (ea E 22)), (5, .int (iI i))]) dL_law_845 (by decide) rfl (q := 847) rfl ?_
    refine g_aload_n C dL_law_847 3 rfl rfl (q := 848) rfl ?_
    refine g_aload_n C dL_law_848 1 rfl rfl (q := 849) rfl ?_
    refine g_iload C dL_law_849 6 rfl (q := 851) rfl ?_
    refine g_iconst C dL_law_851 (q := 852) rfl ?_
    refine g_iadd C dL_law_852 (q := 853) rfl ?_
    refine g_scr C hX (j := i + 1) (by omega) dL_law_853 (q := 854) rfl ?_
    refine g_top (b := r) hs_r ?_
    refine g_aload_n C dL_law_854 1 rfl rfl (q := 855) rfl ?_
    refine g_iload C dL_law_855 6 rfl (q := 857) rfl ?_
    refine g_iconst C dL_law_857 (q := 858) rfl ?_
    refine g_iadd C dL_law_858 (q := 859) rfl ?_
    refine g_scr C hX (j := i + 2) (by omega) dL_law_859 (q := 860) rfl ?_
    refine g_top (b := b) hs_b ?_
    refine g_cV_i C (As := [.int (iI r), .int (iI b)]) (c_X5_splice l E _ r b (σ 2) (by show MS (σ 2) (σ 14); assumption) (by omega) (by omega) (by show 0 ≤ (σ 13 5) ∧ (σ 13 5) ≤ 8; omega) (by assumption)) ml_L_186 mf_X5_splice (o := 13) (ci := 5) rfl rfl rfl rfl ⟨(Nat.le_of_ble_eq_true rfl), (Nat.le_of_ble_eq_true rfl)⟩ rfl rfl rfl (Nat.le_of_ble_eq_true rfl) hkn dL_law_860 (q := 863) rfl ?_
    refine g_top (b := (pt (mMov (σ 14) b 0 r) 1 ((mMov (σ 14) b 0 r) 1 + 1)) (2 + 121 * r)) rfl ?_
    refine g_st (σ2 := (st (st (st (st (st (st (st (st (st σ 2 (refF (opF (σ 2) 5 r b 0 0))) 3 (cpf (σ 2) (σ 3) 0 0 310)) 5 (pt (pt (σ 5) 1 (nx8 (σ 5 1))) 2 (min ((σ 5 2) + 1) 8))) 6 (cpf (cpf (σ 2) (σ 3) 0 0 310) (σ 6) 0 ((σ 5 1) * 310) 310)) 13 (pt (pt (pt (σ 13) 0 0) 5 (min ((σ 13 5) + 1) 8)) 14 ((pt (mMov (σ 14) b 0 r) 1 ((mMov (σ 14) b 0 r) 1 + 1)) (2 + 121 * r)))) 14 (pt (mMov (σ 14) b 0 r) 1 ((mMov (σ 14) b 0 r) 1 + 1))) 15 (cpf (σ 14) (σ 15) 0 0 486)) 17 (hiF (σ 17) (cpf (σ 14) (σ 15) 0 0 486) (σ 13 5))) 21 (pt (σ 21) 0 (wr (opR (σ 2) 5 r b 0 0))))) ((((congrArg (fun g9 => st g9 17 (hiF (σ 17) (cpf (σ 14) (σ 15) 0 0 486) (σ 13 5))) (congrArg (fun g9 => st g9 15 (cpf (σ 14) (σ 15) 0 0 486)) (congrArg (fun g9 => st g9 14 (pt (mMov (σ 14) b 0 r) 1 ((mMov (σ 14) b 0 r) 1 + 1))) (st_cm (st (st (st (st σ 2 (refF (opF (σ 2) 5 r b 0 0))) 3 (cpf (σ 2) (σ 3) 0 0 310)) 5 (pt (pt (σ 5) 1 (nx8 (σ 5 1))) 2 (min ((σ 5 2) + 1) 8))) 6 (cpf (cpf (σ 2) (σ 3) 0 0 310) (σ 6) 0 ((σ 5 1) * 310) 310)) (o := 21) (q := 13) (pt (σ 21) 0 (wr (opR (σ 2) 5 r b 0 0))) (pt (pt (pt (σ 13) 0 0) 5 (min ((σ 13 5) + 1) 8)) 14 ((pt (mMov (σ 14) b 0 r) 1 ((mMov (σ 14) b 0 r) 1 + 1)) (2 + 121 * r))) (by decide))))).trans (congrArg (fun g9 => st g9 17 (hiF (σ 17) (cpf (σ 14) (σ 15) 0 0 486) (σ 13 5))) (congrArg (fun g9 => st g9 15 (cpf (σ 14) (σ 15) 0 0 486)) (st_cm (st (st (st (st (st σ 2 (refF (opF (σ 2) 5 r b 0 0))) 3 (cpf (σ 2) (σ 3) 0 0 310)) 5 (pt (pt (σ 5) 1 (nx8 (σ 5 1))) 2 (min ((σ 5 2) + 1) 8))) 6 (cpf (cpf (σ 2) (σ 3) 0 0 310) (σ 6) 0 ((σ 5 1) * 310) 310)) 13 (pt (pt (pt (σ 13) 0 0) 5 (min ((σ 13 5) + 1) 8)) 14 ((pt (mMov (σ 14) b 0 r) 1 ((mMov (σ 14) b 0 r) 1 + 1)) (2 + 121 * r)))) (o := 21) (q := 14) (pt (σ 21) 0 (wr (opR (σ 2) 5 r b 0 0))) (pt (mMov (σ 14) b 0 r) 1 ((mMov (σ 14) b 0 r) 1 + 1)) (by decide))))).trans (congrArg (fun g9 => st g9 17 (hiF (σ 17) (cpf (σ 14) (σ 15) 0 0 486) (σ 13 5))) (st_cm (st (st (st (st (st (st σ 2 (refF (opF (σ 2) 5 r b 0 0))) 3 (cpf (σ 2) (σ 3) 0 0 310)) 5 (pt (pt (σ 5) 1 (nx8 (σ 5 1))) 2 (min ((σ 5 2) + 1) 8))) 6 (cpf (cpf (σ 2) (σ 3) 0 0 310) (σ 6) 0 ((σ 5 1) * 310) 310)) 13 (pt (pt (pt (σ 13) 0 0) 5 (min ((σ 13 5) + 1) 8)) 14 ((pt (mMov (σ 14) b 0 r) 1 ((mMov (σ 14) b 0 r) 1 + 1)) (2 + 121 * r)))) 14 (pt (mMov (σ 14) b 0 r) 1 ((mMov (σ 14) b 0 r) 1 + 1))) (o := 21) (q := 15) (pt (σ 21) 0 (wr (opR (σ 2) 5 r b 0 0))) (cpf (σ 14) (σ 15) 0 0 486) (by decide)))).trans (st_cm (st (st (st (st (st (st (st σ 2 (refF (opF (σ 2) 5 r b 0 0))) 3 (cpf (σ 2) (σ 3) 0 0 310)) 5 (pt (pt (σ 5) 1 (nx8 (σ 5 1))) 2 (min ((σ 5 2) + 1) 8))) 6 (cpf (cpf (σ 2) (σ 3) 0 0 310) (σ 6) 0 ((σ 5 1) * 310) 310)) 13 (pt (pt (pt (σ 13) 0 0) 5 (min ((σ 13 5) + 1) 8)) 14 ((pt (mMov (σ 14) b 0 r) 1 ((mMov (σ 14) b 0 r) 1 + 1)) (2 + 121 * r)))) 14 (pt (mMov (σ 14) b 0 r) 1 ((mMov (σ 14) b 0 r) 1 + 1))) 15 (cpf (σ 14) (σ 15) 0 0 486)) (o := 21) (q := 17) (pt (σ 21) 0 (wr (opR (σ 2) 5 r b 0 0))) (hiF (σ 17) (cpf (σ 14) (σ 15) 0 0 486) (σ 13 5)) (by decide))) ?_
    refine g_istore C (L' := [(7, .int (iI ((pt (mMov (σ 14) b 0 r) 1 ((mMov (σ 14) b 0 r) 1 + 1)) (2 + 121 * r)))), (6, .int (iI 0)), (0, .ref bS), (1, .ref (ea E 0)), (2, .ref (ea E 13)), (3, .ref (ea E 21)), (4, .ref (ea E 22)), (5, .int (iI i))]) dL_law_863 (by decide) rfl (q := 865) rfl ?_
    refine g_aload_n C dL_law_865 4 rfl rfl (q := 866) rfl ?_
    refine g_cV_i C (As := []) (c_X5_thrown l E _) ml_L_157 mf_X5_thrown (o := 13) (ci := 5) rfl rfl rfl rfl ⟨(Nat.le_of_ble_eq_true rfl), (Nat.le_of_ble_eq_true rfl)⟩ rfl rfl rfl (Nat.le_of_ble_eq_true rfl) hkn dL_law_866 (q := 869) rfl ?_
    refine g_top (b := 0) rfl ?_
    refine g_iload C dL_law_869 1 rfl (q := 871) rfl ?_
    refine g_icmp_eq C dL_law_871 (by omega) (q2 := 876) rfl (q := 874) rfl (fun hb2 => ?_) (fun hb2 => ?_)
    · skip
      refine g_iload C dL_law_876 1 rfl (q := 878) rfl ?_
      refine g_if_ne C dL_law_878 (by omega) (q2 := 893) rfl (q := 881) rfl (fun hb3 => ?_) (fun hb3 => ?_)
      · skip
        exfalso; omega
      · skip
        refine g_aload_n C dL_law_881 5 rfl rfl (q := 882) rfl ?_
        refine g_iconst C dL_law_882 (q := 883) rfl ?_
        refine gl_21 C dL_law_883 (q := 884) rfl ?_
        refine g_topl (b := (wr (opR (σ 2) 5 r b 0 0))) (show (pt (σ 21) 0 (wr (opR (σ 2) 5 r b 0 0))) 0 = (wr (opR (σ 2) 5 r b 0 0)) from pt_s _ _ _) ?_
        refine g_iload C dL_law_884 0 rfl (q := 886) rfl ?_
        refine g_i2lw C dL_law_886 (q := 887) rfl ?_
        refine g_lcmpE C (by exact congrArg wr (mAn_op hM (k := 5) (by omega) hq0).symm) dL_law_887 (q := 888) rfl ?_
        refine g_if_eq C dL_law_888 (by omega) (q2 := 893) rfl (q := 891) rfl (fun hb4 => ?_) (fun hb4 => ?_)
        · skip
          refine g_goto C dL_law_893 (q := 2912) rfl ?_
          refine g_sub [2, 3, 4, 5, 6, 7] (L' := [(0, .ref bS), (1, .ref (ea E 0)), (2, .ref (ea E 13)), (3, .ref (ea E 21)), (4, .ref (ea E 22)), (5, .int (iI i))]) rfl ?_
          exact K _ (by exact INV_chg hI (RW_op hM (k := 5) (by omega) hq0) rfl rfl rfl rfl rfl rfl rfl hI.2.1 hI.2.2.2)
        · skip
          exfalso; omega
    · skip
      exfalso; omega
  · skip
    refine g_cL C (hh := th_L_splice) (As := [.ref (ea E 0), .int (iI r), .int (iI b), .ref (ea E 21)]) (c_L_splice_1 l hst E _ r b  (by assumption) (by assumption) (by assumption) (by assumption)) ml_L_184 mf_L_splice rfl ⟨(Nat.le_of_ble_eq_true rfl), (Nat.le_of_ble_eq_true rfl)⟩ rfl rfl rfl (Nat.le_of_ble_eq_true rfl) hkn dL_law_842 (q := 845) rfl ?_
    refine g_istore C (L' := [(6, .int (iI 1)), (0, .ref bS), (1, .ref (ea E 0)), (2, .ref (ea E 13)), (3, .ref (ea E 21)), (4, .ref (ea E 22)), (5, .int (iI i))]) dL_law_845 (by decide) rfl (q := 847) rfl ?_
    refine g_aload_n C dL_law_847 3 rfl rfl (q := 848) rfl ?_
    refine g_aload_n C dL_law_848 1 rfl rfl (q := 849) rfl ?_
    refine g_iload C dL_law_849 6 rfl (q := 851) rfl ?_
    refine g_iconst C dL_law_851 (q := 852) rfl ?_
    refine g_iadd C dL_law_852 (q := 853) rfl ?_
    refine g_scr C hX (j := i + 1) (by omega) dL_law_853 (q := 854) rfl ?_
    refine g_top (b := r) hs_r ?_
    refine g_aload_n C dL_law_854 1 rfl rfl (q := 855) rfl ?_
    refine g_iload C dL_law_855 6 rfl (q := 857) rfl ?_
    refine g_iconst C dL_law_857 (q := 858) rfl ?_
    refine g_iadd C dL_law_858 (q := 859) rfl ?_
    refine g_scr C hX (j := i + 2) (by omega) dL_law_859 (q := 860) rfl ?_
    refine g_top (b := b) hs_b ?_
    refine g_cV_i C (As := [.int (iI r), .int (iI b)]) (c_X5_splice_1 l E _ r b (σ 2) (by assumption) (by omega) (by omega) (by assumption)) ml_L_186 mf_X5_splice (o := 13) (ci := 5) rfl rfl rfl rfl ⟨(Nat.le_of_ble_eq_true rfl), (Nat.le_of_ble_eq_true rfl)⟩ rfl rfl rfl (Nat.le_of_ble_eq_true rfl) hkn dL_law_860 (q := 863) rfl ?_
    refine g_istore C (L' := [(7, .int (iI 0)), (6, .int (iI 1)), (0, .ref bS), (1, .ref (ea E 0)), (2, .ref (ea E 13)), (3, .ref (ea E 21)), (4, .ref (ea E 22)), (5, .int (iI i))]) dL_law_863 (by decide) rfl (q := 865) rfl ?_
    refine g_aload_n C dL_law_865 4 rfl rfl (q := 866) rfl ?_
    refine g_cV_i C (As := []) (c_X5_thrown l E _) ml_L_157 mf_X5_thrown (o := 13) (ci := 5) rfl rfl rfl rfl ⟨(Nat.le_of_ble_eq_true rfl), (Nat.le_of_ble_eq_true rfl)⟩ rfl rfl rfl (Nat.le_of_ble_eq_true rfl) hkn dL_law_866 (q := 869) rfl ?_
    refine g_top (b := 1) rfl ?_
    refine g_iload C dL_law_869 1 rfl (q := 871) rfl ?_
    refine g_icmp_eq C dL_law_871 (by omega) (q2 := 876) rfl (q := 874) rfl (fun hb5 => ?_) (fun hb5 => ?_)
    · skip
      refine g_iload C dL_law_876 1 rfl (q := 878) rfl ?_
      refine g_if_ne C dL_law_878 (by omega) (q2 := 893) rfl (q := 881) rfl (fun hb6 => ?_) (fun hb6 => ?_)
      · skip
        refine g_goto C dL_law_893 (q := 2912) rfl ?_
        refine g_sub [2, 3, 4, 5, 6, 7] (L' := [(0, .ref bS), (1, .ref (ea E 0)), (2, .ref (ea E 13)), (3, .ref (ea E 21)), (4, .ref (ea E 22)), (5, .int (iI i))]) rfl ?_
        exact K _ (by exact hI)
      · skip
        exfalso; omega
    · skip
      exfalso; omega
  · skip
    refine g_cL C (hh := th_L_splice) (As := [.ref (ea E 0), .int (iI r), .int (iI b), .ref (ea E 21)]) (c_L_splice_2 l hst E _ r b  (by assumption) (by assumption) (by assumption) (by assumption)) ml_L_184 mf_L_splice rfl ⟨(Nat.le_of_ble_eq_true rfl), (Nat.le_of_ble_eq_true rfl)⟩ rfl rfl rfl (Nat.le_of_ble_eq_true rfl) hkn dL_law_842 (q := 845) rfl ?_
    refine g_istore C (L' := [(6, .int (iI 2)), (0, .ref bS), (1, .ref (ea E 0)), (2, .ref (ea E 13)), (3, .ref (ea E 21)), (4, .ref (ea E 22)), (5, .int (iI i))]) dL_law_845 (by decide) rfl (q := 847) rfl ?_
    refine g_aload_n C dL_law_847 3 rfl rfl (q := 848) rfl ?_
    refine g_aload_n C dL_law_848 1 rfl rfl (q := 849) rfl ?_
    refine g_iload C dL_law_849 6 rfl (q := 851) rfl ?_
    refine g_iconst C dL_law_851 (q := 852) rfl ?_
    refine g_iadd C dL_law_852 (q := 853) rfl ?_
    refine g_scr C hX (j := i + 1) (by omega) dL_law_853 (q := 854) rfl ?_
    refine g_top (b := r) hs_r ?_
    refine g_aload_n C dL_law_854 1 rfl rfl (q := 855) rfl ?_
    refine g_iload C dL_law_855 6 rfl (q := 857) rfl ?_
    refine g_iconst C dL_law_857 (q := 858) rfl ?_
    refine g_iadd C dL_law_858 (q := 859) rfl ?_
    refine g_scr C hX (j := i + 2) (by omega) dL_law_859 (q := 860) rfl ?_
    refine g_top (b := b) hs_b ?_
    refine g_cV_i C (As := [.int (iI r), .int (iI b)]) (c_X5_splice_2 l E _ r b (σ 2) (by assumption) (by omega) (by omega) (by assumption)) ml_L_186 mf_X5_splice (o := 13) (ci := 5) rfl rfl rfl rfl ⟨(Nat.le_of_ble_eq_true rfl), (Nat.le_of_ble_eq_true rfl)⟩ rfl rfl rfl (Nat.le_of_ble_eq_true rfl) hkn dL_law_860 (q := 863) rfl ?_
    refine g_istore C (L' := [(7, .int (iI 0)), (6, .int (iI 2)), (0, .ref bS), (1, .ref (ea E 0)), (2, .ref (ea E 13)), (3, .ref (ea E 21)), (4, .ref (ea E 22)), (5, .int (iI i))]) dL_law_863 (by decide) rfl (q := 865) rfl ?_
    refine g_aload_n C dL_law_865 4 rfl rfl (q := 866) rfl ?_
    refine g_cV_i C (As := []) (c_X5_thrown l E _) ml_L_157 mf_X5_thrown (o := 13) (ci := 5) rfl rfl rfl rfl ⟨(Nat.le_of_ble_eq_true rfl), (Nat.le_of_ble_eq_true rfl)⟩ rfl rfl rfl (Nat.le_of_ble_eq_true rfl) hkn dL_law_866 (q := 869) rfl ?_
    refine g_top (b := 2) rfl ?_
    refine g_iload C dL_law_869 1 rfl (q := 871) rfl ?_
    refine g_icmp_eq C dL_law_871 (by omega) (q2 := 876) rfl (q := 874) rfl (fun hb7 => ?_) (fun hb7 => ?_)
    · skip
      refine g_iload C dL_law_876 1 rfl (q := 878) rfl ?_
      refine g_if_ne C dL_law_878 (by omega) (q2 := 893) rfl (q := 881) rfl (fun hb8 => ?_) (fun hb8 => ?_)
      · skip
        refine g_goto C dL_law_893 (q := 2912) rfl ?_
        refine g_sub [2, 3, 4, 5, 6, 7] (L' := [(0, .ref bS), (1, .ref (ea E 0)), (2, .ref (ea E 13)), (3, .ref (ea E 21)), (4, .ref (ea E 22)), (5, .int (iI i))]) rfl ?_
        exact K _ (by exact hI)
      · skip
        exfalso; omega
    · skip
      exfalso; omega
  · skip
    refine g_cL C (hh := th_L_splice) (As := [.ref (ea E 0), .int (iI r), .int (iI b), .ref (ea E 21)]) (c_L_splice_3 l hst E _ r b  (by assumption) (by assumption) (by assumption) (by assumption)) ml_L_184 mf_L_splice rfl ⟨(Nat.le_of_ble_eq_true rfl), (Nat.le_of_ble_eq_true rfl)⟩ rfl rfl rfl (Nat.le_of_ble_eq_true rfl) hkn dL_law_842 (q := 845) rfl ?_
    refine g_istore C (L' := [(6, .int (iI 3)), (0, .ref bS), (1, .ref (ea E 0)), (2, .ref (ea E 13)), (3, .ref (ea E 21)), (4, .ref (ea E 22)), (5, .int (iI i))]) dL_law_845 (by decide) rfl (q := 847) rfl ?_
    refine g_aload_n C dL_law_847 3 rfl rfl (q := 848) rfl ?_
    refine g_aload_n C dL_law_848 1 rfl rfl (q := 849) rfl ?_
    refine g_iload C dL_law_849 6 rfl (q := 851) rfl ?_
    refine g_iconst C dL_law_851 (q := 852) rfl ?_
    refine g_iadd C dL_law_852 (q := 853) rfl ?_
    refine g_scr C hX (j := i + 1) (by omega) dL_law_853 (q := 854) rfl ?_
    refine g_top (b := r) hs_r ?_
    refine g_aload_n C dL_law_854 1 rfl rfl (q := 855) rfl ?_
    refine g_iload C dL_law_855 6 rfl (q := 857) rfl ?_
    refine g_iconst C dL_law_857 (q := 858) rfl ?_
    refine g_iadd C dL_law_858 (q := 859) rfl ?_
    refine g_scr C hX (j := i + 2) (by omega) dL_law_859 (q := 860) rfl ?_
    refine g_top (b := b) hs_b ?_
    refine g_cV_i C (As := [.int (iI r), .int (iI b)]) (c_X5_splice_3 l E _ r b (σ 2) (by assumption) (by omega) (by omega) (by assumption)) ml_L_186 mf_X5_splice (o := 13) (ci := 5) rfl rfl rfl rfl ⟨(Nat.le_of_ble_eq_true rfl), (Nat.le_of_ble_eq_true rfl)⟩ rfl rfl rfl (Nat.le_of_ble_eq_true rfl) hkn dL_law_860 (q := 863) rfl ?_
    refine g_istore C (L' := [(7, .int (iI 0)), (6, .int (iI 3)), (0, .ref bS), (1, .ref (ea E 0)), (2, .ref (ea E 13)), (3, .ref (ea E 21)), (4, .ref (ea E 22)), (5, .int (iI i))]) dL_law_863 (by decide) rfl (q := 865) rfl ?_
    refine g_aload_n C dL_law_865 4 rfl rfl (q := 866) rfl ?_
    refine g_cV_i C (As := []) (c_X5_thrown l E _) ml_L_157 mf_X5_thrown (o := 13) (ci := 5) rfl rfl rfl rfl ⟨(Nat.le_of_ble_eq_true rfl), (Nat.le_of_ble_eq_true rfl)⟩ rfl rfl rfl (Nat.le_of_ble_eq_true rfl) hkn dL_law_866 (q := 869) rfl ?_
    refine g_top (b := 3) rfl ?_
    refine g_iload C dL_law_869 1 rfl (q := 871) rfl ?_
    refine g_icmp_eq C dL_law_871 (by omega) (q2 := 876) rfl (q := 874) rfl (fun hb9 => ?_) (fun hb9 => ?_)
    · skip
      refine g_iload C dL_law_876 1 rfl (q := 878) rfl ?_
      refine g_if_ne C dL_law_878 (by omega) (q2 := 893) rfl (q := 881) rfl (fun hb10 => ?_) (fun hb10 => ?_)
      · skip
        refine g_goto C dL_law_893 (q := 2912) rfl ?_
        refine g_sub [2, 3, 4, 5, 6, 7] (L' := [(0, .ref bS), (1, .ref (ea E 0)), (2, .ref (ea E 13)), (3, .ref (ea E 21)), (4, .ref (ea E 22)), (5, .int (iI i))]) rfl ?_
        exact K _ (by exact hI)
      · skip
        exfalso; omega
    · skip
      exfalso; omega
set_option maxRecDepth 100000 in
set_option maxHeartbeats 4000000 in
theorem lc_9 {p : Program} {l : Launch} {e : Env} {s : State} {m : MethodId} {args : Array Value} {below : List Frame} {meth : Method} {c : Code} {E : EV} {A : Nat → Prop} {Q : State → Prop} {σ : SS} {k n : Nat} {bS N : Nat} {xs : Nat → Int32} (hst : l.stackTraces = false) (C : CX p l e room_1 s m args below meth c RL cL_law 9 E A (some .boolean)) (hX : SX bS N xs s A) (hkn : k + 1 ≤ room_1.cells ∧ n + 6 ≤ room_1.slots) (i : Int) (hi : 0 ≤ i ∧ i + 5 ≤ N) (hI : INV σ) (K : ∀ σ2 : SS, INV σ2 → GG p l e room_1 s m args below meth c Q E A 9 σ2 (k + 1) (n + 6) 2912 [(0, .ref bS), (1, .ref (ea E 0)), (2, .ref (ea E 13)), (3, .ref (ea E 21)), (4, .ref (ea E 22)), (5, .int (iI i))] []) : GG p l e room_1 s m args below meth c Q E A 9 σ k n 896 [(0, .ref bS), (1, .ref (ea E 0)), (2, .ref (ea E 13)), (3, .ref (ea E 21)), (4, .ref (ea E 22)), (5, .int (iI i))] [] := by
  have hM := hI.1.2
  have hP := hI.1.1
  have hW := hM.1
  have hH := hI.2.2.1.2.1
  have hK5 := hI.2.2.1.1
  have hN9 := hX.2.2.2
  have hkn0 : k ≤ room_1.cells ∧ n ≤ room_1.slots := ⟨Nat.le_of_succ_le hkn.1, Nat.le_trans (Nat.le_add_right n 6) hkn.2⟩
  obtain ⟨r, hs_r⟩ : ∃ v, scr xs (i + 1) = v := ⟨_, rfl⟩
  have hr_r := scr_rg xs (i + 1)
  rw [hs_r] at hr_r
  obtain ⟨b, hs_b⟩ : ∃ v, scr xs (i + 2) = v := ⟨_, rfl⟩
  have hr_b := scr_rg xs (i + 2)
  rw [hs_b] at hr_b
  have hcs := FK_cs (σ 2) 6 r b 0 0
  refine g_aload_n C dL_law_896 1 rfl rfl (q := 897) rfl ?_
  refine g_aload_n C dL_law_897 0 rfl rfl (q := 898) rfl ?_
  refine g_iload C dL_law_898 5 rfl (q := 900) rfl ?_
  refine g_iconst C dL_law_900 (q := 901) rfl ?_
  refine g_iadd C dL_law_901 (q := 902) rfl ?_
  refine g_scr C hX (j := i + 1) (by omega) dL_law_902 (q := 903) rfl ?_
  refine g_top (b := r) hs_r ?_
  refine g_aload_n C dL_law_903 0 rfl rfl (q := 904) rfl ?_
  refine g_iload C dL_law_904 5 rfl (q := 906) rfl ?_
  refine g_iconst C dL_law_906 (q := 907) rfl ?_
  refine g_iadd C dL_law_907 (q := 908) rfl ?_
  refine g_scr C hX (j := i + 2) (by omega) dL_law_908 (q := 909) rfl ?_
  refine g_top (b := b) hs_b ?_
  refine g_aload_n C dL_law_909 3 rfl rfl (q := 910) rfl ?_
  rcases (show ((FK (σ 2) 6 r b 0 0 = 0)) ∨ ((FK (σ 2) 6 r b 0 0 = 1)) by omega) with hq0 | hq0
  · skip
    refine g_cL C (hh := th_L_exchange) (As := [.ref (ea E 0), .int (iI r), .int (iI b), .ref (ea E 21)]) (c_L_exchange l hst E _ r b  (by assumption) (by assumption) (by assumption) (by assumption) (by assumption)) ml_L_187 mf_L_exchange rfl ⟨(Nat.le_of_ble_eq_true rfl), (Nat.le_of_ble_eq_true rfl)⟩ rfl rfl rfl (Nat.le_of_ble_eq_true rfl) hkn dL_law_910 (q := 913) rfl ?_
    refine g_istore C (L' := [(6, .int (iI 0)), (0, .ref bS), (1, .ref (ea E 0)), (2, .ref (ea E 13)), (3, .ref (ea E 21)), (4, .ref (ea E 22)), (5, .int (iI i))]) dL_law_913 (by decide) rfl (q := 915) rfl ?_
    refine g_aload_n C dL_law_915 3 rfl rfl (q := 916) rfl ?_
    refine g_aload_n C dL_law_916 1 rfl rfl (q := 917) rfl ?_
    refine g_iload C dL_law_917 6 rfl (q := 919) rfl ?_
    refine g_iconst C dL_law_919 (q := 920) rfl ?_
    refine g_iadd C dL_law_920 (q := 921) rfl ?_
    refine g_scr C hX (j := i + 1) (by omega) dL_law_921 (q := 922) rfl ?_
    refine g_top (b := r) hs_r ?_
    refine g_aload_n C dL_law_922 1 rfl rfl (q := 923) rfl ?_
    refine g_iload C dL_law_923 6 rfl (q := 925) rfl ?_
    refine g_iconst C dL_law_925 (q := 926) rfl ?_
    refine g_iadd C dL_law_926 (q := 927) rfl ?_
    refine g_scr C hX (j := i + 2) (by omega) dL_law_927 (q := 928) rfl ?_
    refine g_top (b := b) hs_b ?_
    refine g_cV_i C (As := [.int (iI r), .int (iI b)]) (c_X5_exchange l E _ r b (σ 2) (by show MS (σ 2) (σ 14); assumption) (by omega) (by omega) (by show 0 ≤ (σ 13 5) ∧ (σ 13 5) ≤ 8; omega) (by assumption)) ml_L_189 mf_X5_exchange (o := 13) (ci := 5) rfl rfl rfl rfl ⟨(Nat.le_of_ble_eq_true rfl), (Nat.le_of_ble_eq_true rfl)⟩ rfl rfl rfl (Nat.le_of_ble_eq_true rfl) hkn dL_law_928 (q := 931) rfl ?_
    refine g_top (b := (mSwL (σ 14) r b 121) (2 + 121 * r)) rfl ?_
    refine g_st (σ2 := (st (st (st (st (st (st (st (st (st σ 2 (refF (opF (σ 2) 6 r b 0 0))) 3 (cpf (σ 2) (σ 3) 0 0 310)) 5 (pt (pt (σ 5) 1 (nx8 (σ 5 1))) 2 (min ((σ 5 2) + 1) 8))) 6 (cpf (cpf (σ 2) (σ 3) 0 0 310) (σ 6) 0 ((σ 5 1) * 310) 310)) 13 (pt (pt (pt (σ 13) 0 0) 5 (min ((σ 13 5) + 1) 8)) 14 ((mSwL (σ 14) r b 121) (2 + 121 * r)))) 14 (mSwL (σ 14) r b 121)) 15 (cpf (σ 14) (σ 15) 0 0 486)) 17 (hiF (σ 17) (cpf (σ 14) (σ 15) 0 0 486) (σ 13 5))) 21 (pt (σ 21) 0 (wr (opR (σ 2) 6 r b 0 0))))) ((((congrArg (fun g9 => st g9 17 (hiF (σ 17) (cpf (σ 14) (σ 15) 0 0 486) (σ 13 5))) (congrArg (fun g9 => st g9 15 (cpf (σ 14) (σ 15) 0 0 486)) (congrArg (fun g9 => st g9 14 (mSwL (σ 14) r b 121)) (st_cm (st (st (st (st σ 2 (refF (opF (σ 2) 6 r b 0 0))) 3 (cpf (σ 2) (σ 3) 0 0 310)) 5 (pt (pt (σ 5) 1 (nx8 (σ 5 1))) 2 (min ((σ 5 2) + 1) 8))) 6 (cpf (cpf (σ 2) (σ 3) 0 0 310) (σ 6) 0 ((σ 5 1) * 310) 310)) (o := 21) (q := 13) (pt (σ 21) 0 (wr (opR (σ 2) 6 r b 0 0))) (pt (pt (pt (σ 13) 0 0) 5 (min ((σ 13 5) + 1) 8)) 14 ((mSwL (σ 14) r b 121) (2 + 121 * r))) (by decide))))).trans (congrArg (fun g9 => st g9 17 (hiF (σ 17) (cpf (σ 14) (σ 15) 0 0 486) (σ 13 5))) (congrArg (fun g9 => st g9 15 (cpf (σ 14) (σ 15) 0 0 486)) (st_cm (st (st (st (st (st σ 2 (refF (opF (σ 2) 6 r b 0 0))) 3 (cpf (σ 2) (σ 3) 0 0 310)) 5 (pt (pt (σ 5) 1 (nx8 (σ 5 1))) 2 (min ((σ 5 2) + 1) 8))) 6 (cpf (cpf (σ 2) (σ 3) 0 0 310) (σ 6) 0 ((σ 5 1) * 310) 310)) 13 (pt (pt (pt (σ 13) 0 0) 5 (min ((σ 13 5) + 1) 8)) 14 ((mSwL (σ 14) r b 121) (2 + 121 * r)))) (o := 21) (q := 14) (pt (σ 21) 0 (wr (opR (σ 2) 6 r b 0 0))) (mSwL (σ 14) r b 121) (by decide))))).trans (congrArg (fun g9 => st g9 17 (hiF (σ 17) (cpf (σ 14) (σ 15) 0 0 486) (σ 13 5))) (st_cm (st (st (st (st (st (st σ 2 (refF (opF (σ 2) 6 r b 0 0))) 3 (cpf (σ 2) (σ 3) 0 0 310)) 5 (pt (pt (σ 5) 1 (nx8 (σ 5 1))) 2 (min ((σ 5 2) + 1) 8))) 6 (cpf (cpf (σ 2) (σ 3) 0 0 310) (σ 6) 0 ((σ 5 1) * 310) 310)) 13 (pt (pt (pt (σ 13) 0 0) 5 (min ((σ 13 5) + 1) 8)) 14 ((mSwL (σ 14) r b 121) (2 + 121 * r)))) 14 (mSwL (σ 14) r b 121)) (o := 21) (q := 15) (pt (σ 21) 0 (wr (opR (σ 2) 6 r b 0 0))) (cpf (σ 14) (σ 15) 0 0 486) (by decide)))).trans (st_cm (st (st (st (st (st (st (st σ 2 (refF (opF (σ 2) 6 r b 0 0))) 3 (cpf (σ 2) (σ 3) 0 0 310)) 5 (pt (pt (σ 5) 1 (nx8 (σ 5 1))) 2 (min ((σ 5 2) + 1) 8))) 6 (cpf (cpf (σ 2) (σ 3) 0 0 310) (σ 6) 0 ((σ 5 1) * 310) 310)) 13 (pt (pt (pt (σ 13) 0 0) 5 (min ((σ 13 5) + 1) 8)) 14 ((mSwL (σ 14) r b 121) (2 + 121 * r)))) 14 (mSwL (σ 14) r b 121)) 15 (cpf (σ 14) (σ 15) 0 0 486)) (o := 21) (q := 17) (pt (σ 21) 0 (wr (opR (σ 2) 6 r b 0 0))) (hiF (σ 17) (cpf (σ 14) (σ 15) 0 0 486) (σ 13 5)) (by decide))) ?_
    refine g_istore C (L' := [(7, .int (iI ((mSwL (σ 14) r b 121) (2 + 121 * r)))), (6, .int (iI 0)), (0, .ref bS), (1, .ref (ea E 0)), (2, .ref (ea E 13)), (3, .ref (ea E 21)), (4, .ref (ea E 22)), (5, .int (iI i))]) dL_law_931 (by decide) rfl (q := 933) rfl ?_
    refine g_aload_n C dL_law_933 4 rfl rfl (q := 934) rfl ?_
    refine g_cV_i C (As := []) (c_X5_thrown l E _) ml_L_157 mf_X5_thrown (o := 13) (ci := 5) rfl rfl rfl rfl ⟨(Nat.le_of_ble_eq_true rfl), (Nat.le_of_ble_eq_true rfl)⟩ rfl rfl rfl (Nat.le_of_ble_eq_true rfl) hkn dL_law_934 (q := 937) rfl ?_
    refine g_top (b := 0) rfl ?_
    refine g_iload C dL_law_937 1 rfl (q := 939) rfl ?_
    refine g_icmp_eq C dL_law_939 (by omega) (q2 := 944) rfl (q := 942) rfl (fun hb2 => ?_) (fun hb2 => ?_)
    · skip
      refine g_iload C dL_law_944 1 rfl (q := 946) rfl ?_
      refine g_if_ne C dL_law_946 (by omega) (q2 := 961) rfl (q := 949) rfl (fun hb3 => ?_) (fun hb3 => ?_)
      · skip
        exfalso; omega
      · skip
        refine g_aload_n C dL_law_949 5 rfl rfl (q := 950) rfl ?_
        refine g_iconst C dL_law_950 (q := 951) rfl ?_
        refine gl_21 C dL_law_951 (q := 952) rfl ?_
        refine g_topl (b := (wr (opR (σ 2) 6 r b 0 0))) (show (pt (σ 21) 0 (wr (opR (σ 2) 6 r b 0 0))) 0 = (wr (opR (σ 2) 6 r b 0 0)) from pt_s _ _ _) ?_
        refine g_iload C dL_law_952 0 rfl (q := 954) rfl ?_
        refine g_i2lw C dL_law_954 (q := 955) rfl ?_
        refine g_lcmpE C (by exact congrArg wr (mAn_op hM (k := 6) (by omega) hq0).symm) dL_law_955 (q := 956) rfl ?_
        refine g_if_eq C dL_law_956 (by omega) (q2 := 961) rfl (q := 959) rfl (fun hb4 => ?_) (fun hb4 => ?_)
        · skip
          refine g_goto C dL_law_961 (q := 2912) rfl ?_
          refine g_sub [2, 3, 4, 5, 6, 7] (L' := [(0, .ref bS), (1, .ref (ea E 0)), (2, .ref (ea E 13)), (3, .ref (ea E 21)), (4, .ref (ea E 22)), (5, .int (iI i))]) rfl ?_
          exact K _ (by exact INV_chg hI (RW_op hM (k := 6) (by omega) hq0) rfl rfl rfl rfl rfl rfl rfl hI.2.1 hI.2.2.2)
        · skip
          exfalso; omega
    · skip
      exfalso; omega
  · skip
    refine g_cL C (hh := th_L_exchange) (As := [.ref (ea E 0), .int (iI r), .int (iI b), .ref (ea E 21)]) (c_L_exchange_1 l hst E _ r b  (by assumption) (by assumption) (by assumption) (by assumption)) ml_L_187 mf_L_exchange rfl ⟨(Nat.le_of_ble_eq_true rfl), (Nat.le_of_ble_eq_true rfl)⟩ rfl rfl rfl (Nat.le_of_ble_eq_true rfl) hkn dL_law_910 (q := 913) rfl ?_
    refine g_istore C (L' := [(6, .int (iI 1)), (0, .ref bS), (1, .ref (ea E 0)), (2, .ref (ea E 13)), (3, .ref (ea E 21)), (4, .ref (ea E 22)), (5, .int (iI i))]) dL_law_913 (by decide) rfl (q := 915) rfl ?_
    refine g_aload_n C dL_law_915 3 rfl rfl (q := 916) rfl ?_
    refine g_aload_n C dL_law_916 1 rfl rfl (q := 917) rfl ?_
    refine g_iload C dL_law_917 6 rfl (q := 919) rfl ?_
    refine g_iconst C dL_law_919 (q := 920) rfl ?_
    refine g_iadd C dL_law_920 (q := 921) rfl ?_
    refine g_scr C hX (j := i + 1) (by omega) dL_law_921 (q := 922) rfl ?_
    refine g_top (b := r) hs_r ?_
    refine g_aload_n C dL_law_922 1 rfl rfl (q := 923) rfl ?_
    refine g_iload C dL_law_923 6 rfl (q := 925) rfl ?_
    refine g_iconst C dL_law_925 (q := 926) rfl ?_
    refine g_iadd C dL_law_926 (q := 927) rfl ?_
    refine g_scr C hX (j := i + 2) (by omega) dL_law_927 (q := 928) rfl ?_
    refine g_top (b := b) hs_b ?_
    refine g_cV_i C (As := [.int (iI r), .int (iI b)]) (c_X5_exchange_1 l E _ r b (σ 2) (by assumption) (by omega) (by omega) (by assumption)) ml_L_189 mf_X5_exchange (o := 13) (ci := 5) rfl rfl rfl rfl ⟨(Nat.le_of_ble_eq_true rfl), (Nat.le_of_ble_eq_true rfl)⟩ rfl rfl rfl (Nat.le_of_ble_eq_true rfl) hkn dL_law_928 (q := 931) rfl ?_
    refine g_istore C (L' := [(7, .int (iI 0)), (6, .int (iI 1)), (0, .ref bS), (1, .ref (ea E 0)), (2, .ref (ea E 13)), (3, .ref (ea E 21)), (4, .ref (ea E 22)), (5, .int (iI i))]) dL_law_931 (by decide) rfl (q := 933) rfl ?_
    refine g_aload_n C dL_law_933 4 rfl rfl (q := 934) rfl ?_
    refine g_cV_i C (As := []) (c_X5_thrown l E _) ml_L_157 mf_X5_thrown (o := 13) (ci := 5) rfl rfl rfl rfl ⟨(Nat.le_of_ble_eq_true rfl), (Nat.le_of_ble_eq_true rfl)⟩ rfl rfl rfl (Nat.le_of_ble_eq_true rfl) hkn dL_law_934 (q := 937) rfl ?_
    refine g_top (b := 1) rfl ?_
    refine g_iload C dL_law_937 1 rfl (q := 939) rfl ?_
    refine g_icmp_eq C dL_law_939 (by omega) (q2 := 944) rfl (q := 942) rfl (fun hb5 => ?_) (fun hb5 => ?_)
    · skip
      refine g_iload C dL_law_944 1 rfl (q := 946) rfl ?_
      refine g_if_ne C dL_law_946 (by omega) (q2 := 961) rfl (q := 949) rfl (fun hb6 => ?_) (fun hb6 => ?_)
      · skip
        refine g_goto C dL_law_961 (q := 2912) rfl ?_
        refine g_sub [2, 3, 4, 5, 6, 7] (L' := [(0, .ref bS), (1, .ref (ea E 0)), (2, .ref (ea E 13)), (3, .ref (ea E 21)), (4, .ref (ea E 22)), (5, .int (iI i))]) rfl ?_
        exact K _ (by exact hI)
      · skip
        exfalso; omega
    · skip
      exfalso; omega
set_option maxRecDepth 100000 in
set_option maxHeartbeats 4000000 in
theorem lc_10 {p : Program} {l : Launch} {e : Env} {s : State} {m : MethodId} {args : Array Value} {below : List Frame} {meth : Method} {c : Code} {E : EV} {A : Nat → Prop} {Q : State → Prop} {σ : SS} {k n : Nat} {bS N : Nat} {xs : Nat → Int32} (hst : l.stackTraces = false) (C : CX p l e room_1 s m args below meth c RL cL_law 9 E A (some .boolean)) (hX : SX bS N xs s A) (hkn : k + 1 ≤ room_1.cells ∧ n + 6 ≤ room_1.slots) (i : Int) (hi : 0 ≤ i ∧ i + 5 ≤ N) (hI : INV σ) (K : ∀ σ2 : SS, INV σ2 → GG p l e room_1 s m args below meth c Q E A 9 σ2 (k + 1) (n + 6) 2912 [(0, .ref bS), (1, .ref (ea E 0)), (2, .ref (ea E 13)), (3, .ref (ea E 21)), (4, .ref (ea E 22)), (5, .int (iI i))] []) : GG p l e room_1 s m args below meth c Q E A 9 σ k n 964 [(0, .ref bS), (1, .ref (ea E 0)), (2, .ref (ea E 13)), (3, .ref (ea E 21)), (4, .ref (ea E 22)), (5, .int (iI i))] [] := by
  have hM := hI.1.2
  have hP := hI.1.1
  have hW := hM.1
  have hH := hI.2.2.1.2.1
  have hK5 := hI.2.2.1.1
  have hN9 := hX.2.2.2
  have hkn0 : k ≤ room_1.cells ∧ n ≤ room_1.slots := ⟨Nat.le_of_succ_le hkn.1, Nat.le_trans (Nat.le_add_right n 6) hkn.2⟩
  obtain ⟨r, hs_r⟩ : ∃ v, scr xs (i + 1) = v := ⟨_, rfl⟩
  have hr_r := scr_rg xs (i + 1)
  rw [hs_r] at hr_r
  obtain ⟨b, hs_b⟩ : ∃ v, scr xs (i + 2) = v := ⟨_, rfl⟩
  have hr_b := scr_rg xs (i + 2)
  rw [hs_b] at hr_b
  obtain ⟨c, hs_c⟩ : ∃ v, scr xs (i + 3) = v := ⟨_, rfl⟩
  have hr_c := scr_rg xs (i + 3)
  rw [hs_c] at hr_c
  have hcs := FK_cs (σ 2) 7 r b c 0
  refine g_aload_n C dL_law_964 1 rfl rfl (q := 965) rfl ?_
  refine g_aload_n C dL_law_965 0 rfl rfl (q := 966) rfl ?_
  refine g_iload C dL_law_966 5 rfl (q := 968) rfl ?_
  refine g_iconst C dL_law_968 (q := 969) rfl ?_
  refine g_iadd C dL_law_969 (q := 970) rfl ?_
  refine g_scr C hX (j := i + 1) (by omega) dL_law_970 (q := 971) rfl ?_
  refine g_top (b := r) hs_r ?_
  refine g_aload_n C dL_law_971 0 rfl rfl (q := 972) rfl ?_
  refine g_iload C dL_law_972 5 rfl (q := 974) rfl ?_
  refine g_iconst C dL_law_974 (q := 975) rfl ?_
  refine g_iadd C dL_law_975 (q := 976) rfl ?_
  refine g_scr C hX (j := i + 2) (by omega) dL_law_976 (q := 977) rfl ?_
  refine g_top (b := b) hs_b ?_
  refine g_aload_n C dL_law_977 0 rfl rfl (q := 978) rfl ?_
  refine g_iload C dL_law_978 5 rfl (q := 980) rfl ?_
  refine g_iconst C dL_law_980 (q := 981) rfl ?_
  refine g_iadd C dL_law_981 (q := 982) rfl ?_
  refine g_scr C hX (j := i + 3) (by omega) dL_law_982 (q := 983) rfl ?_
  refine g_top (b := c) hs_c ?_
  refine g_aload_n C dL_law_983 3 rfl rfl (q := 984) rfl ?_
  rcases (show ((FK (σ 2) 7 r b c 0 = 0)) ∨ ((FK (σ 2) 7 r b c 0 = 1)) ∨ ((FK (σ 2) 7 r b c 0 = 2)) by omega) with hq0 | hq0 | hq0
  · skip
    refine g_cL C (hh := th_L_flip) (As := [.ref (ea E 0), .int (iI r), .int (iI b), .int (iI c), .ref (ea E 21)]) (c_L_flip l hst E _ r b c  (by assumption) (by assumption) (by assumption) (by assumption) (by assumption) (by assumption)) ml_L_190 mf_L_flip rfl ⟨(Nat.le_of_ble_eq_true rfl), (Nat.le_of_ble_eq_true rfl)⟩ rfl rfl rfl (Nat.le_of_ble_eq_true rfl) hkn dL_law_984 (q := 987) rfl ?_
    refine g_istore C (L' := [(6, .int (iI 0)), (0, .ref bS), (1, .ref (ea E 0)), (2, .ref (ea E 13)), (3, .ref (ea E 21)), (4, .ref (ea E 22)), (5, .int (iI i))]) dL_law_987 (by decide) rfl (q := 989) rfl ?_
    refine g_aload_n C dL_law_989 3 rfl rfl (q := 990) rfl ?_
    refine g_aload_n C dL_law_990 1 rfl rfl (q := 991) rfl ?_
    refine g_iload C dL_law_991 6 rfl (q := 993) rfl ?_
    refine g_iconst C dL_law_993 (q := 994) rfl ?_
    refine g_iadd C dL_law_994 (q := 995) rfl ?_
    refine g_scr C hX (j := i + 1) (by omega) dL_law_995 (q := 996) rfl ?_
    refine g_top (b := r) hs_r ?_
    refine g_aload_n C dL_law_996 1 rfl rfl (q := 997) rfl ?_
    refine g_iload C dL_law_997 6 rfl (q := 999) rfl ?_
    refine g_iconst C dL_law_999 (q := 1000) rfl ?_
    refine g_iadd C dL_law_1000 (q := 1001) rfl ?_
    refine g_scr C hX (j := i + 2) (by omega) dL_law_1001 (q := 1002) rfl ?_
    refine g_top (b := b) hs_b ?_
    refine g_aload_n C dL_law_1002 1 rfl rfl (q := 1003) rfl ?_
    refine g_iload C dL_law_1003 6 rfl (q := 1005) rfl ?_
    refine g_iconst C dL_law_1005 (q := 1006) rfl ?_
    refine g_iadd C dL_law_1006 (q := 1007) rfl ?_
    refine g_scr C hX (j := i + 3) (by omega) dL_law_1007 (q := 1008) rfl ?_
    refine g_top (b := c) hs_c ?_
    refine g_cV_i C (As := [.int (iI r), .int (iI b), .int (iI c)]) (c_X5_flip l E _ r b c (σ 2) (by show MS (σ 2) (σ 14); assumption) (by omega) (by omega) (by omega) (by show 0 ≤ (σ 13 5) ∧ (σ 13 5) ≤ 8; omega) (by assumption)) ml_L_192 mf_X5_flip (o := 13) (ci := 5) rfl rfl rfl rfl ⟨(Nat.le_of_ble_eq_true rfl), (Nat.le_of_ble_eq_true rfl)⟩ rfl rfl rfl (Nat.le_of_ble_eq_true rfl) hkn dL_law_1008 (q := 1011) rfl ?_
    refine g_st (σ2 := (st (st (st (st (st (st (st (st (st σ 2 (refF (opF (σ 2) 7 r b c 0))) 3 (cpf (σ 2) (σ 3) 0 0 310)) 5 (pt (pt (σ 5) 1 (nx8 (σ 5 1))) 2 (min ((σ 5 2) + 1) 8))) 6 (cpf (cpf (σ 2) (σ 3) 0 0 310) (σ 6) 0 ((σ 5 1) * 310) 310)) 13 (pt (pt (pt (σ 13) 0 0) 5 (min ((σ 13 5) + 1) 8)) 14 (sI (lgs (rvF (σ 2) r b c) r) b (c + 1)))) 14 (mRv (σ 14) r b c)) 15 (cpf (σ 14) (σ 15) 0 0 486)) 17 (hiF (σ 17) (cpf (σ 14) (σ 15) 0 0 486) (σ 13 5))) 21 (pt (σ 21) 0 (wr (opR (σ 2) 7 r b c 0))))) ((((congrArg (fun g9 => st g9 17 (hiF (σ 17) (cpf (σ 14) (σ 15) 0 0 486) (σ 13 5))) (congrArg (fun g9 => st g9 15 (cpf (σ 14) (σ 15) 0 0 486)) (congrArg (fun g9 => st g9 14 (mRv (σ 14) r b c)) (st_cm (st (st (st (st σ 2 (refF (opF (σ 2) 7 r b c 0))) 3 (cpf (σ 2) (σ 3) 0 0 310)) 5 (pt (pt (σ 5) 1 (nx8 (σ 5 1))) 2 (min ((σ 5 2) + 1) 8))) 6 (cpf (cpf (σ 2) (σ 3) 0 0 310) (σ 6) 0 ((σ 5 1) * 310) 310)) (o := 21) (q := 13) (pt (σ 21) 0 (wr (opR (σ 2) 7 r b c 0))) (pt (pt (pt (σ 13) 0 0) 5 (min ((σ 13 5) + 1) 8)) 14 (sI (lgs (rvF (σ 2) r b c) r) b (c + 1))) (by decide))))).trans (congrArg (fun g9 => st g9 17 (hiF (σ 17) (cpf (σ 14) (σ 15) 0 0 486) (σ 13 5))) (congrArg (fun g9 => st g9 15 (cpf (σ 14) (σ 15) 0 0 486)) (st_cm (st (st (st (st (st σ 2 (refF (opF (σ 2) 7 r b c 0))) 3 (cpf (σ 2) (σ 3) 0 0 310)) 5 (pt (pt (σ 5) 1 (nx8 (σ 5 1))) 2 (min ((σ 5 2) + 1) 8))) 6 (cpf (cpf (σ 2) (σ 3) 0 0 310) (σ 6) 0 ((σ 5 1) * 310) 310)) 13 (pt (pt (pt (σ 13) 0 0) 5 (min ((σ 13 5) + 1) 8)) 14 (sI (lgs (rvF (σ 2) r b c) r) b (c + 1)))) (o := 21) (q := 14) (pt (σ 21) 0 (wr (opR (σ 2) 7 r b c 0))) (mRv (σ 14) r b c) (by decide))))).trans (congrArg (fun g9 => st g9 17 (hiF (σ 17) (cpf (σ 14) (σ 15) 0 0 486) (σ 13 5))) (st_cm (st (st (st (st (st (st σ 2 (refF (opF (σ 2) 7 r b c 0))) 3 (cpf (σ 2) (σ 3) 0 0 310)) 5 (pt (pt (σ 5) 1 (nx8 (σ 5 1))) 2 (min ((σ 5 2) + 1) 8))) 6 (cpf (cpf (σ 2) (σ 3) 0 0 310) (σ 6) 0 ((σ 5 1) * 310) 310)) 13 (pt (pt (pt (σ 13) 0 0) 5 (min ((σ 13 5) + 1) 8)) 14 (sI (lgs (rvF (σ 2) r b c) r) b (c + 1)))) 14 (mRv (σ 14) r b c)) (o := 21) (q := 15) (pt (σ 21) 0 (wr (opR (σ 2) 7 r b c 0))) (cpf (σ 14) (σ 15) 0 0 486) (by decide)))).trans (st_cm (st (st (st (st (st (st (st σ 2 (refF (opF (σ 2) 7 r b c 0))) 3 (cpf (σ 2) (σ 3) 0 0 310)) 5 (pt (pt (σ 5) 1 (nx8 (σ 5 1))) 2 (min ((σ 5 2) + 1) 8))) 6 (cpf (cpf (σ 2) (σ 3) 0 0 310) (σ 6) 0 ((σ 5 1) * 310) 310)) 13 (pt (pt (pt (σ 13) 0 0) 5 (min ((σ 13 5) + 1) 8)) 14 (sI (lgs (rvF (σ 2) r b c) r) b (c + 1)))) 14 (mRv (σ 14) r b c)) 15 (cpf (σ 14) (σ 15) 0 0 486)) (o := 21) (q := 17) (pt (σ 21) 0 (wr (opR (σ 2) 7 r b c 0))) (hiF (σ 17) (cpf (σ 14) (σ 15) 0 0 486) (σ 13 5)) (by decide))) ?_
    refine g_istore C (L' := [(7, .int (iI (sI (lgs (rvF (σ 2) r b c) r) b (c + 1)))), (6, .int (iI 0)), (0, .ref bS), (1, .ref (ea E 0)), (2, .ref (ea E 13)), (3, .ref (ea E 21)), (4, .ref (ea E 22)), (5, .int (iI i))]) dL_law_1011 (by decide) rfl (q := 1013) rfl ?_
    refine g_aload_n C dL_law_1013 4 rfl rfl (q := 1014) rfl ?_
    refine g_cV_i C (As := []) (c_X5_thrown l E _) ml_L_157 mf_X5_thrown (o := 13) (ci := 5) rfl rfl rfl rfl ⟨(Nat.le_of_ble_eq_true rfl), (Nat.le_of_ble_eq_true rfl)⟩ rfl rfl rfl (Nat.le_of_ble_eq_true rfl) hkn dL_law_1014 (q := 1017) rfl ?_
    refine g_top (b := 0) rfl ?_
    refine g_iload C dL_law_1017 1 rfl (q := 1019) rfl ?_
    refine g_icmp_eq C dL_law_1019 (by omega) (q2 := 1024) rfl (q := 1022) rfl (fun hb2 => ?_) (fun hb2 => ?_)
    · skip
      refine g_iload C dL_law_1024 1 rfl (q := 1026) rfl ?_
      refine g_if_ne C dL_law_1026 (by omega) (q2 := 1041) rfl (q := 1029) rfl (fun hb3 => ?_) (fun hb3 => ?_)
      · skip
        exfalso; omega
      · skip
        refine g_aload_n C dL_law_1029 5 rfl rfl (q := 1030) rfl ?_
        refine g_iconst C dL_law_1030 (q := 1031) rfl ?_
        refine gl_21 C dL_law_1031 (q := 1032) rfl ?_
        refine g_topl (b := (wr (opR (σ 2) 7 r b c 0))) (show (pt (σ 21) 0 (wr (opR (σ 2) 7 r b c 0))) 0 = (wr (opR (σ 2) 7 r b c 0)) from pt_s _ _ _) ?_
        refine g_iload C dL_law_1032 0 rfl (q := 1034) rfl ?_
        refine g_i2lw C dL_law_1034 (q := 1035) rfl ?_
        refine g_lcmpE C (by exact congrArg wr (mAn_op hM (k := 7) (by omega) hq0).symm) dL_law_1035 (q := 1036) rfl ?_
        refine g_if_eq C dL_law_1036 (by omega) (q2 := 1041) rfl (q := 1039) rfl (fun hb4 => ?_) (fun hb4 => ?_)
        · skip
          refine g_goto C dL_law_1041 (q := 2912) rfl ?_
          refine g_sub [2, 3, 4, 5, 6, 7] (L' := [(0, .ref bS), (1, .ref (ea E 0)), (2, .ref (ea E 13)), (3, .ref (ea E 21)), (4, .ref (ea E 22)), (5, .int (iI i))]) rfl ?_
          exact K _ (by exact INV_chg hI (RW_op hM (k := 7) (by omega) hq0) rfl rfl rfl rfl rfl rfl rfl hI.2.1 hI.2.2.2)
        · skip
          exfalso; omega
    · skip
      exfalso; omega
  · skip
    refine g_cL C (hh := th_L_flip) (As := [.ref (ea E 0), .int (iI r), .int (iI b), .int (iI c), .ref (ea E 21)]) (c_L_flip_1 l hst E _ r b c  (by assumption) (by assumption) (by assumption) (by assumption) (by assumption)) ml_L_190 mf_L_flip rfl ⟨(Nat.le_of_ble_eq_true rfl), (Nat.le_of_ble_eq_true rfl)⟩ rfl rfl rfl (Nat.le_of_ble_eq_true rfl) hkn dL_law_984 (q := 987) rfl ?_
    refine g_istore C (L' := [(6, .int (iI 1)), (0, .ref bS), (1, .ref (ea E 0)), (2, .ref (ea E 13)), (3, .ref (ea E 21)), (4, .ref (ea E 22)), (5, .int (iI i))]) dL_law_987 (by decide) rfl (q := 989) rfl ?_
    refine g_aload_n C dL_law_989 3 rfl rfl (q := 990) rfl ?_
    refine g_aload_n C dL_law_990 1 rfl rfl (q := 991) rfl ?_
    refine g_iload C dL_law_991 6 rfl (q := 993) rfl ?_
    refine g_iconst C dL_law_993 (q := 994) rfl ?_
    refine g_iadd C dL_law_994 (q := 995) rfl ?_
    refine g_scr C hX (j := i + 1) (by omega) dL_law_995 (q := 996) rfl ?_
    refine g_top (b := r) hs_r ?_
    refine g_aload_n C dL_law_996 1 rfl rfl (q := 997) rfl ?_
    refine g_iload C dL_law_997 6 rfl (q := 999) rfl ?_
    refine g_iconst C dL_law_999 (q := 1000) rfl ?_
    refine g_iadd C dL_law_1000 (q := 1001) rfl ?_
    refine g_scr C hX (j := i + 2) (by omega) dL_law_1001 (q := 1002) rfl ?_
    refine g_top (b := b) hs_b ?_
    refine g_aload_n C dL_law_1002 1 rfl rfl (q := 1003) rfl ?_
    refine g_iload C dL_law_1003 6 rfl (q := 1005) rfl ?_
    refine g_iconst C dL_law_1005 (q := 1006) rfl ?_
    refine g_iadd C dL_law_1006 (q := 1007) rfl ?_
    refine g_scr C hX (j := i + 3) (by omega) dL_law_1007 (q := 1008) rfl ?_
    refine g_top (b := c) hs_c ?_
    refine g_cV_i C (As := [.int (iI r), .int (iI b), .int (iI c)]) (c_X5_flip_1 l E _ r b c (σ 2) (by assumption) (by omega) (by omega) (by omega) (by assumption)) ml_L_192 mf_X5_flip (o := 13) (ci := 5) rfl rfl rfl rfl ⟨(Nat.le_of_ble_eq_true rfl), (Nat.le_of_ble_eq_true rfl)⟩ rfl rfl rfl (Nat.le_of_ble_eq_true rfl) hkn dL_law_1008 (q := 1011) rfl ?_
    refine g_istore C (L' := [(7, .int (iI 0)), (6, .int (iI 1)), (0, .ref bS), (1, .ref (ea E 0)), (2, .ref (ea E 13)), (3, .ref (ea E 21)), (4, .ref (ea E 22)), (5, .int (iI i))]) dL_law_1011 (by decide) rfl (q := 1013) rfl ?_
    refine g_aload_n C dL_law_1013 4 rfl rfl (q := 1014) rfl ?_
    refine g_cV_i C (As := []) (c_X5_thrown l E _) ml_L_157 mf_X5_thrown (o := 13) (ci := 5) rfl rfl rfl rfl ⟨(Nat.le_of_ble_eq_true rfl), (Nat.le_of_ble_eq_true rfl)⟩ rfl rfl rfl (Nat.le_of_ble_eq_true rfl) hkn dL_law_1014 (q := 1017) rfl ?_
    refine g_top (b := 1) rfl ?_
    refine g_iload C dL_law_1017 1 rfl (q := 1019) rfl ?_
    refine g_icmp_eq C dL_law_1019 (by omega) (q2 := 1024) rfl (q := 1022) rfl (fun hb5 => ?_) (fun hb5 => ?_)
    · skip
      refine g_iload C dL_law_1024 1 rfl (q := 1026) rfl ?_
      refine g_if_ne C dL_law_1026 (by omega) (q2 := 1041) rfl (q := 1029) rfl (fun hb6 => ?_) (fun hb6 => ?_)
      · skip
        refine g_goto C dL_law_1041 (q := 2912) rfl ?_
        refine g_sub [2, 3, 4, 5, 6, 7] (L' := [(0, .ref bS), (1, .ref (ea E 0)), (2, .ref (ea E 13)), (3, .ref (ea E 21)), (4, .ref (ea E 22)), (5, .int (iI i))]) rfl ?_
        exact K _ (by exact hI)
      · skip
        exfalso; omega
    · skip
      exfalso; omega
  · skip
    refine g_cL C (hh := th_L_flip) (As := [.ref (ea E 0), .int (iI r), .int (iI b), .int (iI c), .ref (ea E 21)]) (c_L_flip_2 l hst E _ r b c  (by assumption) (by assumption) (by assumption) (by assumption) (by assumption)) ml_L_190 mf_L_flip rfl ⟨(Nat.le_of_ble_eq_true rfl), (Nat.le_of_ble_eq_true rfl)⟩ rfl rfl rfl (Nat.le_of_ble_eq_true rfl) hkn dL_law_984 (q := 987) rfl ?_
    refine g_istore C (L' := [(6, .int (iI 2)), (0, .ref bS), (1, .ref (ea E 0)), (2, .ref (ea E 13)), (3, .ref (ea E 21)), (4, .ref (ea E 22)), (5, .int (iI i))]) dL_law_987 (by decide) rfl (q := 989) rfl ?_
    refine g_aload_n C dL_law_989 3 rfl rfl (q := 990) rfl ?_
    refine g_aload_n C dL_law_990 1 rfl rfl (q := 991) rfl ?_
    refine g_iload C dL_law_991 6 rfl (q := 993) rfl ?_
    refine g_iconst C dL_law_993 (q := 994) rfl ?_
    refine g_iadd C dL_law_994 (q := 995) rfl ?_
    refine g_scr C hX (j := i + 1) (by omega) dL_law_995 (q := 996) rfl ?_
    refine g_top (b := r) hs_r ?_
    refine g_aload_n C dL_law_996 1 rfl rfl (q := 997) rfl ?_
    refine g_iload C dL_law_997 6 rfl (q := 999) rfl ?_
    refine g_iconst C dL_law_999 (q := 1000) rfl ?_
    refine g_iadd C dL_law_1000 (q := 1001) rfl ?_
    refine g_scr C hX (j := i + 2) (by omega) dL_law_1001 (q := 1002) rfl ?_
    refine g_top (b := b) hs_b ?_
    refine g_aload_n C dL_law_1002 1 rfl rfl (q := 1003) rfl ?_
    refine g_iload C dL_law_1003 6 rfl (q := 1005) rfl ?_
    refine g_iconst C dL_law_1005 (q := 1006) rfl ?_
    refine g_iadd C dL_law_1006 (q := 1007) rfl ?_
    refine g_scr C hX (j := i + 3) (by omega) dL_law_1007 (q := 1008) rfl ?_
    refine g_top (b := c) hs_c ?_
    refine g_cV_i C (As := [.int (iI r), .int (iI b), .int (iI c)]) (c_X5_flip_2 l E _ r b c (σ 2) (by assumption) (by omega) (by omega) (by omega) (by assumption)) ml_L_192 mf_X5_flip (o := 13) (ci := 5) rfl rfl rfl rfl ⟨(Nat.le_of_ble_eq_true rfl), (Nat.le_of_ble_eq_true rfl)⟩ rfl rfl rfl (Nat.le_of_ble_eq_true rfl) hkn dL_law_1008 (q := 1011) rfl ?_
    refine g_istore C (L' := [(7, .int (iI 0)), (6, .int (iI 2)), (0, .ref bS), (1, .ref (ea E 0)), (2, .ref (ea E 13)), (3, .ref (ea E 21)), (4, .ref (ea E 22)), (5, .int (iI i))]) dL_law_1011 (by decide) rfl (q := 1013) rfl ?_
    refine g_aload_n C dL_law_1013 4 rfl rfl (q := 1014) rfl ?_
    refine g_cV_i C (As := []) (c_X5_thrown l E _) ml_L_157 mf_X5_thrown (o := 13) (ci := 5) rfl rfl rfl rfl ⟨(Nat.le_of_ble_eq_true rfl), (Nat.le_of_ble_eq_true rfl)⟩ rfl rfl rfl (Nat.le_of_ble_eq_true rfl) hkn dL_law_1014 (q := 1017) rfl ?_
    refine g_top (b := 2) rfl ?_
    refine g_iload C dL_law_1017 1 rfl (q := 1019) rfl ?_
    refine g_icmp_eq C dL_law_1019 (by omega) (q2 := 1024) rfl (q := 1022) rfl (fun hb7 => ?_) (fun hb7 => ?_)
    · skip
      refine g_iload C dL_law_1024 1 rfl (q := 1026) rfl ?_
      refine g_if_ne C dL_law_1026 (by omega) (q2 := 1041) rfl (q := 1029) rfl (fun hb8 => ?_) (fun hb8 => ?_)
      · skip
        refine g_goto C dL_law_1041 (q := 2912) rfl ?_
        refine g_sub [2, 3, 4, 5, 6, 7] (L' := [(0, .ref bS), (1, .ref (ea E 0)), (2, .ref (ea E 13)), (3, .ref (ea E 21)), (4, .ref (ea E 22)), (5, .int (iI i))]) rfl ?_
        exact K _ (by exact hI)
      · skip
        exfalso; omega
    · skip
      exfalso; omega
set_option maxRecDepth 100000 in
set_option maxHeartbeats 4000000 in
theorem lc_11 {p : Program} {l : Launch} {e : Env} {s : State} {m : MethodId} {args : Array Value} {below : List Frame} {meth : Method} {c : Code} {E : EV} {A : Nat → Prop} {Q : State → Prop} {σ : SS} {k n : Nat} {bS N : Nat} {xs : Nat → Int32} (hst : l.stackTraces = false) (C : CX p l e room_1 s m args below meth c RL cL_law 9 E A (some .boolean)) (hX : SX bS N xs s A) (hkn : k + 1 ≤ room_1.cells ∧ n + 6 ≤ room_1.slots) (i : Int) (hi : 0 ≤ i ∧ i + 5 ≤ N) (hI : INV σ) (K : ∀ σ2 : SS, INV σ2 → GG p l e room_1 s m args below meth c Q E A 9 σ2 (k + 1) (n + 6) 2912 [(0, .ref bS), (1, .ref (ea E 0)), (2, .ref (ea E 13)), (3, .ref (ea E 21)), (4, .ref (ea E 22)), (5, .int (iI i))] []) : GG p l e room_1 s m args below meth c Q E A 9 σ k n 1044 [(0, .ref bS), (1, .ref (ea E 0)), (2, .ref (ea E 13)), (3, .ref (ea E 21)), (4, .ref (ea E 22)), (5, .int (iI i))] [] := by
  have hM := hI.1.2
  have hP := hI.1.1
  have hW := hM.1
  have hH := hI.2.2.1.2.1
  have hK5 := hI.2.2.1.1
  have hN9 := hX.2.2.2
  have hkn0 : k ≤ room_1.cells ∧ n ≤ room_1.slots := ⟨Nat.le_of_succ_le hkn.1, Nat.le_trans (Nat.le_add_right n 6) hkn.2⟩
  obtain ⟨r, hs_r⟩ : ∃ v, scr xs (i + 1) = v := ⟨_, rfl⟩
  have hr_r := scr_rg xs (i + 1)
  rw [hs_r] at hr_r
  obtain ⟨b, hs_b⟩ : ∃ v, scr xs (i + 2) = v := ⟨_, rfl⟩
  have hr_b := scr_rg xs (i + 2)
  rw [hs_b] at hr_b
  obtain ⟨c, hs_c⟩ : ∃ v, scr xs (i + 3) = v := ⟨_, rfl⟩
  have hr_c := scr_rg xs (i + 3)
  rw [hs_c] at hr_c
  obtain ⟨d, hs_d⟩ : ∃ v, scr xs (i + 4) = v := ⟨_, rfl⟩
  have hr_d := scr_rg xs (i + 4)
  rw [hs_d] at hr_d
  have hcs := FK_cs (σ 2) 8 r b c d
  refine g_aload_n C dL_law_1044 1 rfl rfl (q := 1045) rfl ?_
  refine g_aload_n C dL_law_1045 0 rfl rfl (q := 1046) rfl ?_
  refine g_iload C dL_law_1046 5 rfl (q := 1048) rfl ?_
  refine g_iconst C dL_law_1048 (q := 1049) rfl ?_
  refine g_iadd C dL_law_1049 (q := 1050) rfl ?_
  refine g_scr C hX (j := i + 1) (by omega) dL_law_1050 (q := 1051) rfl ?_
  refine g_top (b := r) hs_r ?_
  refine g_aload_n C dL_law_1051 0 rfl rfl (q := 1052) rfl ?_
  refine g_iload C dL_law_1052 5 rfl (q := 1054) rfl ?_
  refine g_iconst C dL_law_1054 (q := 1055) rfl ?_
  refine g_iadd C dL_law_1055 (q := 1056) rfl ?_
  refine g_scr C hX (j := i + 2) (by omega) dL_law_1056 (q := 1057) rfl ?_
  refine g_top (b := b) hs_b ?_
  refine g_aload_n C dL_law_1057 0 rfl rfl (q := 1058) rfl ?_
  refine g_iload C dL_law_1058 5 rfl (q := 1060) rfl ?_
  refine g_iconst C dL_law_1060 (q := 1061) rfl ?_
  refine g_iadd C dL_law_1061 (q := 1062) rfl ?_
  refine g_scr C hX (j := i + 3) (by omega) dL_law_1062 (q := 1063) rfl ?_
  refine g_top (b := c) hs_c ?_
  refine g_aload_n C dL_law_1063 0 rfl rfl (q := 1064) rfl ?_
  refine g_iload C dL_law_1064 5 rfl (q := 1066) rfl ?_
  refine g_iconst C dL_law_1066 (q := 1067) rfl ?_
  refine g_iadd C dL_law_1067 (q := 1068) rfl ?_
  refine g_scr C hX (j := i + 4) (by omega) dL_law_1068 (q := 1069) rfl ?_
  refine g_top (b := d) hs_d ?_
  refine g_aload_n C dL_law_1069 3 rfl rfl (q := 1070) rfl ?_
  rcases (show ((FK (σ 2) 8 r b c d = 0)) ∨ ((FK (σ 2) 8 r b c d = 1)) ∨ ((FK (σ 2) 8 r b c d = 2)) by omega) with hq0 | hq0 | hq0
  · skip
    refine g_cL C (hh := th_L_dye) (As := [.ref (ea E 0), .int (iI r), .int (iI b), .int (iI c), .int (iI d), .ref (ea E 21)]) (c_L_dye l hst E _ r b c d  (by assumption) (by assumption) (by assumption) (by assumption) (by assumption) (by assumption) (by assumption)) ml_L_193 mf_L_dye rfl ⟨(Nat.le_of_ble_eq_true rfl), (Nat.le_of_ble_eq_true rfl)⟩ rfl rfl rfl (Nat.le_of_ble_eq_true rfl) hkn dL_law_1070 (q := 1073) rfl ?_
    refine g_istore C (L' := [(6, .int (iI 0)), (0, .ref bS), (1, .ref (ea E 0)), (2, .ref (ea E 13)), (3, .ref (ea E 21)), (4, .ref (ea E 22)), (5, .int (iI i))]) dL_law_1073 (by decide) rfl (q := 1075) rfl ?_
    refine g_aload_n C dL_law_1075 3 rfl rfl (q := 1076) rfl ?_
    refine g_aload_n C dL_law_1076 1 rfl rfl (q := 1077) rfl ?_
    refine g_iload C dL_law_1077 6 rfl (q := 1079) rfl ?_
    refine g_iconst C dL_law_1079 (q := 1080) rfl ?_
    refine g_iadd C dL_law_1080 (q := 1081) rfl ?_
    refine g_scr C hX (j := i + 1) (by omega) dL_law_1081 (q := 1082) rfl ?_
    refine g_top (b := r) hs_r ?_
    refine g_aload_n C dL_law_1082 1 rfl rfl (q := 1083) rfl ?_
    refine g_iload C dL_law_1083 6 rfl (q := 1085) rfl ?_
    refine g_iconst C dL_law_1085 (q := 1086) rfl ?_
    refine g_iadd C dL_law_1086 (q := 1087) rfl ?_
    refine g_scr C hX (j := i + 2) (by omega) dL_law_1087 (q := 1088) rfl ?_
    refine g_top (b := b) hs_b ?_
    refine g_aload_n C dL_law_1088 1 rfl rfl (q := 1089) rfl ?_
    refine g_iload C dL_law_1089 6 rfl (q := 1091) rfl ?_
    refine g_iconst C dL_law_1091 (q := 1092) rfl ?_
    refine g_iadd C dL_law_1092 (q := 1093) rfl ?_
    refine g_scr C hX (j := i + 3) (by omega) dL_law_1093 (q := 1094) rfl ?_
    refine g_top (b := c) hs_c ?_
    refine g_aload_n C dL_law_1094 1 rfl rfl (q := 1095) rfl ?_
    refine g_iload C dL_law_1095 6 rfl (q := 1097) rfl ?_
    refine g_iconst C dL_law_1097 (q := 1098) rfl ?_
    refine g_iadd C dL_law_1098 (q := 1099) rfl ?_
    refine g_scr C hX (j := i + 4) (by omega) dL_law_1099 (q := 1100) rfl ?_
    refine g_top (b := d) hs_d ?_
    refine g_cV_i C (As := [.int (iI r), .int (iI b), .int (iI c), .int (iI d)]) (c_X5_dye l E _ r b c d (σ 2) (by show MS (σ 2) (σ 14); assumption) (by omega) (by omega) (by omega) (by omega) (by show 0 ≤ (σ 13 5) ∧ (σ 13 5) ≤ 8; omega) (by assumption)) ml_L_195 mf_X5_dye (o := 13) (ci := 5) rfl rfl rfl rfl ⟨(Nat.le_of_ble_eq_true rfl), (Nat.le_of_ble_eq_true rfl)⟩ rfl rfl rfl (Nat.le_of_ble_eq_true rfl) hkn dL_law_1100 (q := 1103) rfl ?_
    refine g_st (σ2 := (st (st (st (st (st (st (st (st (st σ 2 (refF (opF (σ 2) 8 r b c d))) 3 (cpf (σ 2) (σ 3) 0 0 310)) 5 (pt (pt (σ 5) 1 (nx8 (σ 5 1))) 2 (min ((σ 5 2) + 1) 8))) 6 (cpf (cpf (σ 2) (σ 3) 0 0 310) (σ 6) 0 ((σ 5 1) * 310) 310)) 13 (pt (pt (pt (σ 13) 0 0) 5 (min ((σ 13 5) + 1) 8)) 14 (sI (dyI (σ 2) r d) b (c + 1)))) 14 (mDyL (σ 14) r b d (c + 1))) 15 (cpf (σ 14) (σ 15) 0 0 486)) 17 (hiF (σ 17) (cpf (σ 14) (σ 15) 0 0 486) (σ 13 5))) 21 (pt (σ 21) 0 (wr (opR (σ 2) 8 r b c d))))) ((((congrArg (fun g9 => st g9 17 (hiF (σ 17) (cpf (σ 14) (σ 15) 0 0 486) (σ 13 5))) (congrArg (fun g9 => st g9 15 (cpf (σ 14) (σ 15) 0 0 486)) (congrArg (fun g9 => st g9 14 (mDyL (σ 14) r b d (c + 1))) (st_cm (st (st (st (st σ 2 (refF (opF (σ 2) 8 r b c d))) 3 (cpf (σ 2) (σ 3) 0 0 310)) 5 (pt (pt (σ 5) 1 (nx8 (σ 5 1))) 2 (min ((σ 5 2) + 1) 8))) 6 (cpf (cpf (σ 2) (σ 3) 0 0 310) (σ 6) 0 ((σ 5 1) * 310) 310)) (o := 21) (q := 13) (pt (σ 21) 0 (wr (opR (σ 2) 8 r b c d))) (pt (pt (pt (σ 13) 0 0) 5 (min ((σ 13 5) + 1) 8)) 14 (sI (dyI (σ 2) r d) b (c + 1))) (by decide))))).trans (congrArg (fun g9 => st g9 17 (hiF (σ 17) (cpf (σ 14) (σ 15) 0 0 486) (σ 13 5))) (congrArg (fun g9 => st g9 15 (cpf (σ 14) (σ 15) 0 0 486)) (st_cm (st (st (st (st (st σ 2 (refF (opF (σ 2) 8 r b c d))) 3 (cpf (σ 2) (σ 3) 0 0 310)) 5 (pt (pt (σ 5) 1 (nx8 (σ 5 1))) 2 (min ((σ 5 2) + 1) 8))) 6 (cpf (cpf (σ 2) (σ 3) 0 0 310) (σ 6) 0 ((σ 5 1) * 310) 310)) 13 (pt (pt (pt (σ 13) 0 0) 5 (min ((σ 13 5) + 1) 8)) 14 (sI (dyI (σ 2) r d) b (c + 1)))) (o := 21) (q := 14) (pt (σ 21) 0 (wr (opR (σ 2) 8 r b c d))) (mDyL (σ 14) r b d (c + 1)) (by decide))))).trans (congrArg (fun g9 => st g9 17 (hiF (σ 17) (cpf (σ 14) (σ 15) 0 0 486) (σ 13 5))) (st_cm (st (st (st (st (st (st σ 2 (refF (opF (σ 2) 8 r b c d))) 3 (cpf (σ 2) (σ 3) 0 0 310)) 5 (pt (pt (σ 5) 1 (nx8 (σ 5 1))) 2 (min ((σ 5 2) + 1) 8))) 6 (cpf (cpf (σ 2) (σ 3) 0 0 310) (σ 6) 0 ((σ 5 1) * 310) 310)) 13 (pt (pt (pt (σ 13) 0 0) 5 (min ((σ 13 5) + 1) 8)) 14 (sI (dyI (σ 2) r d) b (c + 1)))) 14 (mDyL (σ 14) r b d (c + 1))) (o := 21) (q := 15) (pt (σ 21) 0 (wr (opR (σ 2) 8 r b c d))) (cpf (σ 14) (σ 15) 0 0 486) (by decide)))).trans (st_cm (st (st (st (st (st (st (st σ 2 (refF (opF (σ 2) 8 r b c d))) 3 (cpf (σ 2) (σ 3) 0 0 310)) 5 (pt (pt (σ 5) 1 (nx8 (σ 5 1))) 2 (min ((σ 5 2) + 1) 8))) 6 (cpf (cpf (σ 2) (σ 3) 0 0 310) (σ 6) 0 ((σ 5 1) * 310) 310)) 13 (pt (pt (pt (σ 13) 0 0) 5 (min ((σ 13 5) + 1) 8)) 14 (sI (dyI (σ 2) r d) b (c + 1)))) 14 (mDyL (σ 14) r b d (c + 1))) 15 (cpf (σ 14) (σ 15) 0 0 486)) (o := 21) (q := 17) (pt (σ 21) 0 (wr (opR (σ 2) 8 r b c d))) (hiF (σ 17) (cpf (σ 14) (σ 15) 0 0 486) (σ 13 5)) (by decide))) ?_
    refine g_istore C (L' := [(7, .int (iI (sI (dyI (σ 2) r d) b (c + 1)))), (6, .int (iI 0)), (0, .ref bS), (1, .ref (ea E 0)), (2, .ref (ea E 13)), (3, .ref (ea E 21)), (4, .ref (ea E 22)), (5, .int (iI i))]) dL_law_1103 (by decide) rfl (q := 1105) rfl ?_
    refine g_aload_n C dL_law_1105 4 rfl rfl (q := 1106) rfl ?_
    refine g_cV_i C (As := []) (c_X5_thrown l E _) ml_L_157 mf_X5_thrown (o := 13) (ci := 5) rfl rfl rfl rfl ⟨(Nat.le_of_ble_eq_true rfl), (Nat.le_of_ble_eq_true rfl)⟩ rfl rfl rfl (Nat.le_of_ble_eq_true rfl) hkn dL_law_1106 (q := 1109) rfl ?_
    refine g_top (b := 0) rfl ?_
    refine g_iload C dL_law_1109 1 rfl (q := 1111) rfl ?_
    refine g_icmp_eq C dL_law_1111 (by omega) (q2 := 1116) rfl (q := 1114) rfl (fun hb2 => ?_) (fun hb2 => ?_)
    · skip
      refine g_iload C dL_law_1116 1 rfl (q := 1118) rfl ?_
      refine g_if_ne C dL_law_1118 (by omega) (q2 := 1133) rfl (q := 1121) rfl (fun hb3 => ?_) (fun hb3 => ?_)
      · skip
        exfalso; omega
      · skip
        refine g_aload_n C dL_law_1121 5 rfl rfl (q := 1122) rfl ?_
        refine g_iconst C dL_law_1122 (q := 1123) rfl ?_
        refine gl_21 C dL_law_1123 (q := 1124) rfl ?_
        refine g_topl (b := (wr (opR (σ 2) 8 r b c d))) (show (pt (σ 21) 0 (wr (opR (σ 2) 8 r b c d))) 0 = (wr (opR (σ 2) 8 r b c d)) from pt_s _ _ _) ?_
        refine g_iload C dL_law_1124 0 rfl (q := 1126) rfl ?_
        refine g_i2lw C dL_law_1126 (q := 1127) rfl ?_
        refine g_lcmpE C (by exact congrArg wr (mAn_op hM (k := 8) (by omega) hq0).symm) dL_law_1127 (q := 1128) rfl ?_
        refine g_if_eq C dL_law_1128 (by omega) (q2 := 1133) rfl (q := 1131) rfl (fun hb4 => ?_) (fun hb4 => ?_)
        · skip
          refine g_goto C dL_law_1133 (q := 2912) rfl ?_
          refine g_sub [2, 3, 4, 5, 6, 7] (L' := [(0, .ref bS), (1, .ref (ea E 0)), (2, .ref (ea E 13)), (3, .ref (ea E 21)), (4, .ref (ea E 22)), (5, .int (iI i))]) rfl ?_
          exact K _ (by exact INV_chg hI (RW_op hM (k := 8) (by omega) hq0) rfl rfl rfl rfl rfl rfl rfl hI.2.1 hI.2.2.2)
        · skip
          exfalso; omega
    · skip
      exfalso; omega
  · skip
    refine g_cL C (hh := th_L_dye) (As := [.ref (ea E 0), .int (iI r), .int (iI b), .int (iI c), .int (iI d), .ref (ea E 21)]) (c_L_dye_1 l hst E _ r b c d  (by assumption) (by assumption) (by assumption) (by assumption) (by assumption) (by assumption)) ml_L_193 mf_L_dye rfl ⟨(Nat.le_of_ble_eq_true rfl), (Nat.le_of_ble_eq_true rfl)⟩ rfl rfl rfl (Nat.le_of_ble_eq_true rfl) hkn dL_law_1070 (q := 1073) rfl ?_
    refine g_istore C (L' := [(6, .int (iI 1)), (0, .ref bS), (1, .ref (ea E 0)), (2, .ref (ea E 13)), (3, .ref (ea E 21)), (4, .ref (ea E 22)), (5, .int (iI i))]) dL_law_1073 (by decide) rfl (q := 1075) rfl ?_
    refine g_aload_n C dL_law_1075 3 rfl rfl (q := 1076) rfl ?_
    refine g_aload_n C dL_law_1076 1 rfl rfl (q := 1077) rfl ?_
    refine g_iload C dL_law_1077 6 rfl (q := 1079) rfl ?_
    refine g_iconst C dL_law_1079 (q := 1080) rfl ?_
    refine g_iadd C dL_law_1080 (q := 1081) rfl ?_
    refine g_scr C hX (j := i + 1) (by omega) dL_law_1081 (q := 1082) rfl ?_
    refine g_top (b := r) hs_r ?_
    refine g_aload_n C dL_law_1082 1 rfl rfl (q := 1083) rfl ?_
    refine g_iload C dL_law_1083 6 rfl (q := 1085) rfl ?_
    refine g_iconst C dL_law_1085 (q := 1086) rfl ?_
    refine g_iadd C dL_law_1086 (q := 1087) rfl ?_
    refine g_scr C hX (j := i + 2) (by omega) dL_law_1087 (q := 1088) rfl ?_
    refine g_top (b := b) hs_b ?_
    refine g_aload_n C dL_law_1088 1 rfl rfl (q := 1089) rfl ?_
    refine g_iload C dL_law_1089 6 rfl (q := 1091) rfl ?_
    refine g_iconst C dL_law_1091 (q := 1092) rfl ?_
    refine g_iadd C dL_law_1092 (q := 1093) rfl ?_
    refine g_scr C hX (j := i + 3) (by omega) dL_law_1093 (q := 1094) rfl ?_
    refine g_top (b := c) hs_c ?_
    refine g_aload_n C dL_law_1094 1 rfl rfl (q := 1095) rfl ?_
    refine g_iload C dL_law_1095 6 rfl (q := 1097) rfl ?_
    refine g_iconst C dL_law_1097 (q := 1098) rfl ?_
    refine g_iadd C dL_law_1098 (q := 1099) rfl ?_
    refine g_scr C hX (j := i + 4) (by omega) dL_law_1099 (q := 1100) rfl ?_
    refine g_top (b := d) hs_d ?_
    refine g_cV_i C (As := [.int (iI r), .int (iI b), .int (iI c), .int (iI d)]) (c_X5_dye_1 l E _ r b c d (σ 2) (by assumption) (by omega) (by omega) (by omega) (by omega) (by assumption)) ml_L_195 mf_X5_dye (o := 13) (ci := 5) rfl rfl rfl rfl ⟨(Nat.le_of_ble_eq_true rfl), (Nat.le_of_ble_eq_true rfl)⟩ rfl rfl rfl (Nat.le_of_ble_eq_true rfl) hkn dL_law_1100 (q := 1103) rfl ?_
    refine g_istore C (L' := [(7, .int (iI 0)), (6, .int (iI 1)), (0, .ref bS), (1, .ref (ea E 0)), (2, .ref (ea E 13)), (3, .ref (ea E 21)), (4, .ref (ea E 22)), (5, .int (iI i))]) dL_law_1103 (by decide) rfl (q := 1105) rfl ?_
    refine g_aload_n C dL_law_1105 4 rfl rfl (q := 1106) rfl ?_
    refine g_cV_i C (As := []) (c_X5_thrown l E _) ml_L_157 mf_X5_thrown (o := 13) (ci := 5) rfl rfl rfl rfl ⟨(Nat.le_of_ble_eq_true rfl), (Nat.le_of_ble_eq_true rfl)⟩ rfl rfl rfl (Nat.le_of_ble_eq_true rfl) hkn dL_law_1106 (q := 1109) rfl ?_
    refine g_top (b := 1) rfl ?_
    refine g_iload C dL_law_1109 1 rfl (q := 1111) rfl ?_
    refine g_icmp_eq C dL_law_1111 (by omega) (q2 := 1116) rfl (q := 1114) rfl (fun hb5 => ?_) (fun hb5 => ?_)
    · skip
      refine g_iload C dL_law_1116 1 rfl (q := 1118) rfl ?_
      refine g_if_ne C dL_law_1118 (by omega) (q2 := 1133) rfl (q := 1121) rfl (fun hb6 => ?_) (fun hb6 => ?_)
      · skip
        refine g_goto C dL_law_1133 (q := 2912) rfl ?_
        refine g_sub [2, 3, 4, 5, 6, 7] (L' := [(0, .ref bS), (1, .ref (ea E 0)), (2, .ref (ea E 13)), (3, .ref (ea E 21)), (4, .ref (ea E 22)), (5, .int (iI i))]) rfl ?_
        exact K _ (by exact hI)
      · skip
        exfalso; omega
    · skip
      exfalso; omega
  · skip
    refine g_cL C (hh := th_L_dye) (As := [.ref (ea E 0), .int (iI r), .int (iI b), .int (iI c), .int (iI d), .ref (ea E 21)]) (c_L_dye_2 l hst E _ r b c d  (by assumption) (by assumption) (by assumption) (by assumption) (by assumption) (by assumption)) ml_L_193 mf_L_dye rfl ⟨(Nat.le_of_ble_eq_true rfl), (Nat.le_of_ble_eq_true rfl)⟩ rfl rfl rfl (Nat.le_of_ble_eq_true rfl) hkn dL_law_1070 (q := 1073) rfl ?_
    refine g_istore C (L' := [(6, .int (iI 2)), (0, .ref bS), (1, .ref (ea E 0)), (2, .ref (ea E 13)), (3, .ref (ea E 21)), (4, .ref (ea E 22)), (5, .int (iI i))]) dL_law_1073 (by decide) rfl (q := 1075) rfl ?_
    refine g_aload_n C dL_law_1075 3 rfl rfl (q := 1076) rfl ?_
    refine g_aload_n C dL_law_1076 1 rfl rfl (q := 1077) rfl ?_
    refine g_iload C dL_law_1077 6 rfl (q := 1079) rfl ?_
    refine g_iconst C dL_law_1079 (q := 1080) rfl ?_
    refine g_iadd C dL_law_1080 (q := 1081) rfl ?_
    refine g_scr C hX (j := i + 1) (by omega) dL_law_1081 (q := 1082) rfl ?_
    refine g_top (b := r) hs_r ?_
    refine g_aload_n C dL_law_1082 1 rfl rfl (q := 1083) rfl ?_
    refine g_iload C dL_law_1083 6 rfl (q := 1085) rfl ?_
    refine g_iconst C dL_law_1085 (q := 1086) rfl ?_
    refine g_iadd C dL_law_1086 (q := 1087) rfl ?_
    refine g_scr C hX (j := i + 2) (by omega) dL_law_1087 (q := 1088) rfl ?_
    refine g_top (b := b) hs_b ?_
    refine g_aload_n C dL_law_1088 1 rfl rfl (q := 1089) rfl ?_
    refine g_iload C dL_law_1089 6 rfl (q := 1091) rfl ?_
    refine g_iconst C dL_law_1091 (q := 1092) rfl ?_
    refine g_iadd C dL_law_1092 (q := 1093) rfl ?_
    refine g_scr C hX (j := i + 3) (by omega) dL_law_1093 (q := 1094) rfl ?_
    refine g_top (b := c) hs_c ?_
    refine g_aload_n C dL_law_1094 1 rfl rfl (q := 1095) rfl ?_
    refine g_iload C dL_law_1095 6 rfl (q := 1097) rfl ?_
    refine g_iconst C dL_law_1097 (q := 1098) rfl ?_
    refine g_iadd C dL_law_1098 (q := 1099) rfl ?_
    refine g_scr C hX (j := i + 4) (by omega) dL_law_1099 (q := 1100) rfl ?_
    refine g_top (b := d) hs_d ?_
    refine g_cV_i C (As := [.int (iI r), .int (iI b), .int (iI c), .int (iI d)]) (c_X5_dye_2 l E _ r b c d (σ 2) (by assumption) (by omega) (by omega) (by omega) (by omega) (by assumption)) ml_L_195 mf_X5_dye (o := 13) (ci := 5) rfl rfl rfl rfl ⟨(Nat.le_of_ble_eq_true rfl), (Nat.le_of_ble_eq_true rfl)⟩ rfl rfl rfl (Nat.le_of_ble_eq_true rfl) hkn dL_law_1100 (q := 1103) rfl ?_
    refine g_istore C (L' := [(7, .int (iI 0)), (6, .int (iI 2)), (0, .ref bS), (1, .ref (ea E 0)), (2, .ref (ea E 13)), (3, .ref (ea E 21)), (4, .ref (ea E 22)), (5, .int (iI i))]) dL_law_1103 (by decide) rfl (q := 1105) rfl ?_
    refine g_aload_n C dL_law_1105 4 rfl rfl (q := 1106) rfl ?_
    refine g_cV_i C (As := []) (c_X5_thrown l E _) ml_L_157 mf_X5_thrown (o := 13) (ci := 5) rfl rfl rfl rfl ⟨(Nat.le_of_ble_eq_true rfl), (Nat.le_of_ble_eq_true rfl)⟩ rfl rfl rfl (Nat.le_of_ble_eq_true rfl) hkn dL_law_1106 (q := 1109) rfl ?_
    refine g_top (b := 2) rfl ?_
    refine g_iload C dL_law_1109 1 rfl (q := 1111) rfl ?_
    refine g_icmp_eq C dL_law_1111 (by omega) (q2 := 1116) rfl (q := 1114) rfl (fun hb7 => ?_) (fun hb7 => ?_)
    · skip
      refine g_iload C dL_law_1116 1 rfl (q := 1118) rfl ?_
      refine g_if_ne C dL_law_1118 (by omega) (q2 := 1133) rfl (q := 1121) rfl (fun hb8 => ?_) (fun hb8 => ?_)
      · skip
        refine g_goto C dL_law_1133 (q := 2912) rfl ?_
        refine g_sub [2, 3, 4, 5, 6, 7] (L' := [(0, .ref bS), (1, .ref (ea E 0)), (2, .ref (ea E 13)), (3, .ref (ea E 21)), (4, .ref (ea E 22)), (5, .int (iI i))]) rfl ?_
        exact K _ (by exact hI)
      · skip
        exfalso; omega
    · skip
      exfalso; omega
set_option maxRecDepth 100000 in
set_option maxHeartbeats 4000000 in
theorem lc_12 {p : Program} {l : Launch} {e : Env} {s : State} {m : MethodId} {args : Array Value} {below : List Frame} {meth : Method} {c : Code} {E : EV} {A : Nat → Prop} {Q : State → Prop} {σ : SS} {k n : Nat} {bS N : Nat} {xs : Nat → Int32} (hst : l.stackTraces = false) (C : CX p l e room_1 s m args below meth c RL cL_law 9 E A (some .boolean)) (hX : SX bS N xs s A) (hkn : k + 1 ≤ room_1.cells ∧ n + 6 ≤ room_1.slots) (i : Int) (hi : 0 ≤ i ∧ i + 5 ≤ N) (hI : INV σ) (K : ∀ σ2 : SS, INV σ2 → GG p l e room_1 s m args below meth c Q E A 9 σ2 (k + 1) (n + 6) 2912 [(0, .ref bS), (1, .ref (ea E 0)), (2, .ref (ea E 13)), (3, .ref (ea E 21)), (4, .ref (ea E 22)), (5, .int (iI i))] []) : GG p l e room_1 s m args below meth c Q E A 9 σ k n 1136 [(0, .ref bS), (1, .ref (ea E 0)), (2, .ref (ea E 13)), (3, .ref (ea E 21)), (4, .ref (ea E 22)), (5, .int (iI i))] [] := by
  have hM := hI.1.2
  have hP := hI.1.1
  have hW := hM.1
  have hH := hI.2.2.1.2.1
  have hK5 := hI.2.2.1.1
  have hN9 := hX.2.2.2
  have hkn0 : k ≤ room_1.cells ∧ n ≤ room_1.slots := ⟨Nat.le_of_succ_le hkn.1, Nat.le_trans (Nat.le_add_right n 6) hkn.2⟩
  obtain ⟨r, hs_r⟩ : ∃ v, scr xs (i + 1) = v := ⟨_, rfl⟩
  have hr_r := scr_rg xs (i + 1)
  rw [hs_r] at hr_r
  have hq_0 := fR_c r
  refine g_aload_n C dL_law_1136 1 rfl rfl (q := 1137) rfl ?_
  refine g_aload_n C dL_law_1137 0 rfl rfl (q := 1138) rfl ?_
  refine g_iload C dL_law_1138 5 rfl (q := 1140) rfl ?_
  refine g_iconst C dL_law_1140 (q := 1141) rfl ?_
  refine g_iadd C dL_law_1141 (q := 1142) rfl ?_
  refine g_scr C hX (j := i + 1) (by omega) dL_law_1142 (q := 1143) rfl ?_
  refine g_top (b := r) hs_r ?_
  refine g_aload_n C dL_law_1143 3 rfl rfl (q := 1144) rfl ?_
  rcases (show ((fR r = 0)) ∨ ((fR r = 1)) by omega) with hq0 | hq0
  · skip
    refine g_cL C (hh := th_L_reelLength) (As := [.ref (ea E 0), .int (iI r), .ref (ea E 21)]) (c_L_reelLength l hst E _ r  (by assumption) (by assumption) (by assumption)) ml_L_196 mf_L_reelLength rfl ⟨(Nat.le_of_ble_eq_true rfl), (Nat.le_of_ble_eq_true rfl)⟩ rfl rfl rfl (Nat.le_of_ble_eq_true rfl) hkn dL_law_1144 (q := 1147) rfl ?_
    refine g_istore C (L' := [(6, .int (iI 0)), (0, .ref bS), (1, .ref (ea E 0)), (2, .ref (ea E 13)), (3, .ref (ea E 21)), (4, .ref (ea E 22)), (5, .int (iI i))]) dL_law_1147 (by decide) rfl (q := 1149) rfl ?_
    refine g_aload_n C dL_law_1149 3 rfl rfl (q := 1150) rfl ?_
    refine g_aload_n C dL_law_1150 1 rfl rfl (q := 1151) rfl ?_
    refine g_iload C dL_law_1151 6 rfl (q := 1153) rfl ?_
    refine g_iconst C dL_law_1153 (q := 1154) rfl ?_
    refine g_iadd C dL_law_1154 (q := 1155) rfl ?_
    refine g_scr C hX (j := i + 1) (by omega) dL_law_1155 (q := 1156) rfl ?_
    refine g_top (b := r) hs_r ?_
    refine g_cV_i C (As := [.int (iI r)]) (c_X5_reelLength l E _ r (σ 2) (by show MS (σ 2) (σ 14); assumption) (by omega) (by assumption)) ml_L_198 mf_X5_reelLength (o := 13) (ci := 5) rfl rfl rfl rfl ⟨(Nat.le_of_ble_eq_true rfl), (Nat.le_of_ble_eq_true rfl)⟩ rfl rfl rfl (Nat.le_of_ble_eq_true rfl) hkn dL_law_1156 (q := 1159) rfl ?_
    refine g_st (σ2 := (st (st σ 13 (pt (σ 13) 0 0)) 21 (pt (σ 21) 0 (wr (sb (σ 2) r ((σ 2) (240 + r))))))) (st_cm σ (o := 21) (q := 13) (pt (σ 21) 0 (wr (sb (σ 2) r ((σ 2) (240 + r))))) (pt (σ 13) 0 0) (by decide)) ?_
    refine g_istore C (L' := [(7, .int (iI (sI (lgs (σ 2) r) 0 ((σ 2) (240 + r))))), (6, .int (iI 0)), (0, .ref bS), (1, .ref (ea E 0)), (2, .ref (ea E 13)), (3, .ref (ea E 21)), (4, .ref (ea E 22)), (5, .int (iI i))]) dL_law_1159 (by decide) rfl (q := 1161) rfl ?_
    refine g_aload_n C dL_law_1161 4 rfl rfl (q := 1162) rfl ?_
    refine g_cV_i C (As := []) (c_X5_thrown l E _) ml_L_157 mf_X5_thrown (o := 13) (ci := 5) rfl rfl rfl rfl ⟨(Nat.le_of_ble_eq_true rfl), (Nat.le_of_ble_eq_true rfl)⟩ rfl rfl rfl (Nat.le_of_ble_eq_true rfl) hkn dL_law_1162 (q := 1165) rfl ?_
    refine g_top (b := 0) rfl ?_
    refine g_iload C dL_law_1165 1 rfl (q := 1167) rfl ?_
    refine g_icmp_eq C dL_law_1167 (by omega) (q2 := 1172) rfl (q := 1170) rfl (fun hb2 => ?_) (fun hb2 => ?_)
    · skip
      refine g_iload C dL_law_1172 1 rfl (q := 1174) rfl ?_
      refine g_if_ne C dL_law_1174 (by omega) (q2 := 1189) rfl (q := 1177) rfl (fun hb3 => ?_) (fun hb3 => ?_)
      · skip
        exfalso; omega
      · skip
        refine g_aload_n C dL_law_1177 5 rfl rfl (q := 1178) rfl ?_
        refine g_iconst C dL_law_1178 (q := 1179) rfl ?_
        refine gl_21 C dL_law_1179 (q := 1180) rfl ?_
        refine g_topl (b := (wr (sb (σ 2) r ((σ 2) (240 + r))))) (show (pt (σ 21) 0 (wr (sb (σ 2) r ((σ 2) (240 + r))))) 0 = (wr (sb (σ 2) r ((σ 2) (240 + r)))) from pt_s _ _ _) ?_
        refine g_iload C dL_law_1180 0 rfl (q := 1182) rfl ?_
        refine g_i2lw C dL_law_1182 (q := 1183) rfl ?_
        refine g_lcmpE C (by exact congrArg wr (sb_eq hP (fR_0 hq0) (hW r (fR_0 hq0)).1.2 (by have := (hW r (fR_0 hq0)).1; omega))) dL_law_1183 (q := 1184) rfl ?_
        refine g_if_eq C dL_law_1184 (by omega) (q2 := 1189) rfl (q := 1187) rfl (fun hb4 => ?_) (fun hb4 => ?_)
        · skip
          refine g_goto C dL_law_1189 (q := 2912) rfl ?_
          refine g_sub [2, 3, 4, 5, 6, 7] (L' := [(0, .ref bS), (1, .ref (ea E 0)), (2, .ref (ea E 13)), (3, .ref (ea E 21)), (4, .ref (ea E 22)), (5, .int (iI i))]) rfl ?_
          exact K _ (by exact hI)
        · skip
          exfalso; omega
    · skip
      exfalso; omega
  · skip
    refine g_cL C (hh := th_L_reelLength) (As := [.ref (ea E 0), .int (iI r), .ref (ea E 21)]) (c_L_reelLength_11 l hst E _ r  (by assumption) (by assumption) (by assumption)) ml_L_196 mf_L_reelLength rfl ⟨(Nat.le_of_ble_eq_true rfl), (Nat.le_of_ble_eq_true rfl)⟩ rfl rfl rfl (Nat.le_of_ble_eq_true rfl) hkn dL_law_1144 (q := 1147) rfl ?_
    refine g_istore C (L' := [(6, .int (iI 1)), (0, .ref bS), (1, .ref (ea E 0)), (2, .ref (ea E 13)), (3, .ref (ea E 21)), (4, .ref (ea E 22)), (5, .int (iI i))]) dL_law_1147 (by decide) rfl (q := 1149) rfl ?_
    refine g_aload_n C dL_law_1149 3 rfl rfl (q := 1150) rfl ?_
    refine g_aload_n C dL_law_1150 1 rfl rfl (q := 1151) rfl ?_
    refine g_iload C dL_law_1151 6 rfl (q := 1153) rfl ?_
    refine g_iconst C dL_law_1153 (q := 1154) rfl ?_
    refine g_iadd C dL_law_1154 (q := 1155) rfl ?_
    refine g_scr C hX (j := i + 1) (by omega) dL_law_1155 (q := 1156) rfl ?_
    refine g_top (b := r) hs_r ?_
    refine g_cV_i C (As := [.int (iI r)]) (c_X5_reelLength_11 l E _ r (σ 2) (by assumption) (by omega) (by assumption)) ml_L_198 mf_X5_reelLength (o := 13) (ci := 5) rfl rfl rfl rfl ⟨(Nat.le_of_ble_eq_true rfl), (Nat.le_of_ble_eq_true rfl)⟩ rfl rfl rfl (Nat.le_of_ble_eq_true rfl) hkn dL_law_1156 (q := 1159) rfl ?_
    refine g_istore C (L' := [(7, .int (iI 0)), (6, .int (iI 1)), (0, .ref bS), (1, .ref (ea E 0)), (2, .ref (ea E 13)), (3, .ref (ea E 21)), (4, .ref (ea E 22)), (5, .int (iI i))]) dL_law_1159 (by decide) rfl (q := 1161) rfl ?_
    refine g_aload_n C dL_law_1161 4 rfl rfl (q := 1162) rfl ?_
    refine g_cV_i C (As := []) (c_X5_thrown l E _) ml_L_157 mf_X5_thrown (o := 13) (ci := 5) rfl rfl rfl rfl ⟨(Nat.le_of_ble_eq_true rfl), (Nat.le_of_ble_eq_true rfl)⟩ rfl rfl rfl (Nat.le_of_ble_eq_true rfl) hkn dL_law_1162 (q := 1165) rfl ?_
    refine g_top (b := 1) rfl ?_
    refine g_iload C dL_law_1165 1 rfl (q := 1167) rfl ?_
    refine g_icmp_eq C dL_law_1167 (by omega) (q2 := 1172) rfl (q := 1170) rfl (fun hb5 => ?_) (fun hb5 => ?_)
    · skip
      refine g_iload C dL_law_1172 1 rfl (q := 1174) rfl ?_
      refine g_if_ne C dL_law_1174 (by omega) (q2 := 1189) rfl (q := 1177) rfl (fun hb6 => ?_) (fun hb6 => ?_)
      · skip
        refine g_goto C dL_law_1189 (q := 2912) rfl ?_
        refine g_sub [2, 3, 4, 5, 6, 7] (L' := [(0, .ref bS), (1, .ref (ea E 0)), (2, .ref (ea E 13)), (3, .ref (ea E 21)), (4, .ref (ea E 22)), (5, .int (iI i))]) rfl ?_
        exact K _ (by exact hI)
      · skip
        exfalso; omega
    · skip
      exfalso; omega
set_option maxRecDepth 100000 in
set_option maxHeartbeats 4000000 in
theorem lc_13 {p : Program} {l : Launch} {e : Env} {s : State} {m : MethodId} {args : Array Value} {below : List Frame} {meth : Method} {c : Code} {E : EV} {A : Nat → Prop} {Q : State → Prop} {σ : SS} {k n : Nat} {bS N : Nat} {xs : Nat → Int32} (hst : l.stackTraces = false) (C : CX p l e room_1 s m args below meth c RL cL_law 9 E A (some .boolean)) (hX : SX bS N xs s A) (hkn : k + 1 ≤ room_1.cells ∧ n + 6 ≤ room_1.slots) (i : Int) (hi : 0 ≤ i ∧ i + 5 ≤ N) (hI : INV σ) (K : ∀ σ2 : SS, INV σ2 → GG p l e room_1 s m args below meth c Q E A 9 σ2 (k + 1) (n + 6) 2912 [(0, .ref bS), (1, .ref (ea E 0)), (2, .ref (ea E 13)), (3, .ref (ea E 21)), (4, .ref (ea E 22)), (5, .int (iI i))] []) : GG p l e room_1 s m args below meth c Q E A 9 σ k n 1192 [(0, .ref bS), (1, .ref (ea E 0)), (2, .ref (ea E 13)), (3, .ref (ea E 21)), (4, .ref (ea E 22)), (5, .int (iI i))] [] := by
  have hM := hI.1.2
  have hP := hI.1.1
  have hW := hM.1
  have hH := hI.2.2.1.2.1
  have hK5 := hI.2.2.1.1
  have hN9 := hX.2.2.2
  have hkn0 : k ≤ room_1.cells ∧ n ≤ room_1.slots := ⟨Nat.le_of_succ_le hkn.1, Nat.le_trans (Nat.le_add_right n 6) hkn.2⟩
  obtain ⟨r, hs_r⟩ : ∃ v, scr xs (i + 1) = v := ⟨_, rfl⟩
  have hr_r := scr_rg xs (i + 1)
  rw [hs_r] at hr_r
  obtain ⟨p, hs_p⟩ : ∃ v, scr xs (i + 2) = v := ⟨_, rfl⟩
  have hr_p := scr_rg xs (i + 2)
  rw [hs_p] at hr_p
  have hq_0 := fB_c (σ 2) r p
  refine g_aload_n C dL_law_1192 1 rfl rfl (q := 1193) rfl ?_
  refine g_aload_n C dL_law_1193 0 rfl rfl (q := 1194) rfl ?_
  refine g_iload C dL_law_1194 5 rfl (q := 1196) rfl ?_
  refine g_iconst C dL_law_1196 (q := 1197) rfl ?_
  refine g_iadd C dL_law_1197 (q := 1198) rfl ?_
  refine g_scr C hX (j := i + 1) (by omega) dL_law_1198 (q := 1199) rfl ?_
  refine g_top (b := r) hs_r ?_
  refine g_aload_n C dL_law_1199 0 rfl rfl (q := 1200) rfl ?_
  refine g_iload C dL_law_1200 5 rfl (q := 1202) rfl ?_
  refine g_iconst C dL_law_1202 (q := 1203) rfl ?_
  refine g_iadd C dL_law_1203 (q := 1204) rfl ?_
  refine g_scr C hX (j := i + 2) (by omega) dL_law_1204 (q := 1205) rfl ?_
  refine g_top (b := p) hs_p ?_
  refine g_aload_n C dL_law_1205 3 rfl rfl (q := 1206) rfl ?_
  rcases (show ((fB (σ 2) r p = 0)) ∨ ((fB (σ 2) r p = 1)) by omega) with hq0 | hq0
  · skip
    refine g_cL C (hh := th_L_lengthBefore) (As := [.ref (ea E 0), .int (iI r), .int (iI p), .ref (ea E 21)]) (c_L_lengthBefore l hst E _ r p  (by assumption) (by assumption) (by assumption) (by assumption)) ml_L_199 mf_L_lengthBefore rfl ⟨(Nat.le_of_ble_eq_true rfl), (Nat.le_of_ble_eq_true rfl)⟩ rfl rfl rfl (Nat.le_of_ble_eq_true rfl) hkn dL_law_1206 (q := 1209) rfl ?_
    refine g_istore C (L' := [(6, .int (iI 0)), (0, .ref bS), (1, .ref (ea E 0)), (2, .ref (ea E 13)), (3, .ref (ea E 21)), (4, .ref (ea E 22)), (5, .int (iI i))]) dL_law_1209 (by decide) rfl (q := 1211) rfl ?_
    refine g_aload_n C dL_law_1211 3 rfl rfl (q := 1212) rfl ?_
    refine g_aload_n C dL_law_1212 1 rfl rfl (q := 1213) rfl ?_
    refine g_iload C dL_law_1213 6 rfl (q := 1215) rfl ?_
    refine g_iconst C dL_law_1215 (q := 1216) rfl ?_
    refine g_iadd C dL_law_1216 (q := 1217) rfl ?_
    refine g_scr C hX (j := i + 1) (by omega) dL_law_1217 (q := 1218) rfl ?_
    refine g_top (b := r) hs_r ?_
    refine g_aload_n C dL_law_1218 1 rfl rfl (q := 1219) rfl ?_
    refine g_iload C dL_law_1219 6 rfl (q := 1221) rfl ?_
    refine g_iconst C dL_law_1221 (q := 1222) rfl ?_
    refine g_iadd C dL_law_1222 (q := 1223) rfl ?_
    refine g_scr C hX (j := i + 2) (by omega) dL_law_1223 (q := 1224) rfl ?_
    refine g_top (b := p) hs_p ?_
    refine g_cV_i C (As := [.int (iI r), .int (iI p)]) (c_X5_lengthBefore l E _ r p (σ 2) (by show MS (σ 2) (σ 14); assumption) (by omega) (by omega) (by assumption)) ml_L_201 mf_X5_lengthBefore (o := 13) (ci := 5) rfl rfl rfl rfl ⟨(Nat.le_of_ble_eq_true rfl), (Nat.le_of_ble_eq_true rfl)⟩ rfl rfl rfl (Nat.le_of_ble_eq_true rfl) hkn dL_law_1224 (q := 1227) rfl ?_
    refine g_st (σ2 := (st (st σ 13 (pt (σ 13) 0 0)) 21 (pt (σ 21) 0 (wr (sb (σ 2) r p))))) (st_cm σ (o := 21) (q := 13) (pt (σ 21) 0 (wr (sb (σ 2) r p))) (pt (σ 13) 0 0) (by decide)) ?_
    refine g_istore C (L' := [(7, .int (iI (sI (lgs (σ 2) r) 0 (p - 1 + 1)))), (6, .int (iI 0)), (0, .ref bS), (1, .ref (ea E 0)), (2, .ref (ea E 13)), (3, .ref (ea E 21)), (4, .ref (ea E 22)), (5, .int (iI i))]) dL_law_1227 (by decide) rfl (q := 1229) rfl ?_
    refine g_aload_n C dL_law_1229 4 rfl rfl (q := 1230) rfl ?_
    refine g_cV_i C (As := []) (c_X5_thrown l E _) ml_L_157 mf_X5_thrown (o := 13) (ci := 5) rfl rfl rfl rfl ⟨(Nat.le_of_ble_eq_true rfl), (Nat.le_of_ble_eq_true rfl)⟩ rfl rfl rfl (Nat.le_of_ble_eq_true rfl) hkn dL_law_1230 (q := 1233) rfl ?_
    refine g_top (b := 0) rfl ?_
    refine g_iload C dL_law_1233 1 rfl (q := 1235) rfl ?_
    refine g_icmp_eq C dL_law_1235 (by omega) (q2 := 1240) rfl (q := 1238) rfl (fun hb2 => ?_) (fun hb2 => ?_)
    · skip
      refine g_iload C dL_law_1240 1 rfl (q := 1242) rfl ?_
      refine g_if_ne C dL_law_1242 (by omega) (q2 := 1257) rfl (q := 1245) rfl (fun hb3 => ?_) (fun hb3 => ?_)
      · skip
        exfalso; omega
      · skip
        refine g_aload_n C dL_law_1245 5 rfl rfl (q := 1246) rfl ?_
        refine g_iconst C dL_law_1246 (q := 1247) rfl ?_
        refine gl_21 C dL_law_1247 (q := 1248) rfl ?_
        refine g_topl (b := (wr (sb (σ 2) r p))) (show (pt (σ 21) 0 (wr (sb (σ 2) r p))) 0 = (wr (sb (σ 2) r p)) from pt_s _ _ _) ?_
        refine g_iload C dL_law_1248 0 rfl (q := 1250) rfl ?_
        refine g_i2lw C dL_law_1250 (q := 1251) rfl ?_
        refine g_lcmpE C (by rw [sb_eq hP (fB_0 hq0).1 (hW r (fB_0 hq0).1).1.2 (fB_0 hq0).2, show p - 1 + 1 = p by omega]) dL_law_1251 (q := 1252) rfl ?_
        refine g_if_eq C dL_law_1252 (by omega) (q2 := 1257) rfl (q := 1255) rfl (fun hb4 => ?_) (fun hb4 => ?_)
        · skip
          refine g_goto C dL_law_1257 (q := 2912) rfl ?_
          refine g_sub [2, 3, 4, 5, 6, 7] (L' := [(0, .ref bS), (1, .ref (ea E 0)), (2, .ref (ea E 13)), (3, .ref (ea E 21)), (4, .ref (ea E 22)), (5, .int (iI i))]) rfl ?_
          exact K _ (by exact hI)
        · skip
          exfalso; omega
    · skip
      exfalso; omega
  · skip
    refine g_cL C (hh := th_L_lengthBefore) (As := [.ref (ea E 0), .int (iI r), .int (iI p), .ref (ea E 21)]) (c_L_lengthBefore_11 l hst E _ r p  (by assumption) (by assumption) (by assumption) (by assumption)) ml_L_199 mf_L_lengthBefore rfl ⟨(Nat.le_of_ble_eq_true rfl), (Nat.le_of_ble_eq_true rfl)⟩ rfl rfl rfl (Nat.le_of_ble_eq_true rfl) hkn dL_law_1206 (q := 1209) rfl ?_
    refine g_istore C (L' := [(6, .int (iI 1)), (0, .ref bS), (1, .ref (ea E 0)), (2, .ref (ea E 13)), (3, .ref (ea E 21)), (4, .ref (ea E 22)), (5, .int (iI i))]) dL_law_1209 (by decide) rfl (q := 1211) rfl ?_
    refine g_aload_n C dL_law_1211 3 rfl rfl (q := 1212) rfl ?_
    refine g_aload_n C dL_law_1212 1 rfl rfl (q := 1213) rfl ?_
    refine g_iload C dL_law_1213 6 rfl (q := 1215) rfl ?_
    refine g_iconst C dL_law_1215 (q := 1216) rfl ?_
    refine g_iadd C dL_law_1216 (q := 1217) rfl ?_
    refine g_scr C hX (j := i + 1) (by omega) dL_law_1217 (q := 1218) rfl ?_
    refine g_top (b := r) hs_r ?_
    refine g_aload_n C dL_law_1218 1 rfl rfl (q := 1219) rfl ?_
    refine g_iload C dL_law_1219 6 rfl (q := 1221) rfl ?_
    refine g_iconst C dL_law_1221 (q := 1222) rfl ?_
    refine g_iadd C dL_law_1222 (q := 1223) rfl ?_
    refine g_scr C hX (j := i + 2) (by omega) dL_law_1223 (q := 1224) rfl ?_
    refine g_top (b := p) hs_p ?_
    refine g_cV_i C (As := [.int (iI r), .int (iI p)]) (c_X5_lengthBefore_11 l E _ r p (σ 2) (by assumption) (by omega) (by omega) (by assumption)) ml_L_201 mf_X5_lengthBefore (o := 13) (ci := 5) rfl rfl rfl rfl ⟨(Nat.le_of_ble_eq_true rfl), (Nat.le_of_ble_eq_true rfl)⟩ rfl rfl rfl (Nat.le_of_ble_eq_true rfl) hkn dL_law_1224 (q := 1227) rfl ?_
    refine g_istore C (L' := [(7, .int (iI 0)), (6, .int (iI 1)), (0, .ref bS), (1, .ref (ea E 0)), (2, .ref (ea E 13)), (3, .ref (ea E 21)), (4, .ref (ea E 22)), (5, .int (iI i))]) dL_law_1227 (by decide) rfl (q := 1229) rfl ?_
    refine g_aload_n C dL_law_1229 4 rfl rfl (q := 1230) rfl ?_
    refine g_cV_i C (As := []) (c_X5_thrown l E _) ml_L_157 mf_X5_thrown (o := 13) (ci := 5) rfl rfl rfl rfl ⟨(Nat.le_of_ble_eq_true rfl), (Nat.le_of_ble_eq_true rfl)⟩ rfl rfl rfl (Nat.le_of_ble_eq_true rfl) hkn dL_law_1230 (q := 1233) rfl ?_
    refine g_top (b := 1) rfl ?_
    refine g_iload C dL_law_1233 1 rfl (q := 1235) rfl ?_
    refine g_icmp_eq C dL_law_1235 (by omega) (q2 := 1240) rfl (q := 1238) rfl (fun hb5 => ?_) (fun hb5 => ?_)
    · skip
      refine g_iload C dL_law_1240 1 rfl (q := 1242) rfl ?_
      refine g_if_ne C dL_law_1242 (by omega) (q2 := 1257) rfl (q := 1245) rfl (fun hb6 => ?_) (fun hb6 => ?_)
      · skip
        refine g_goto C dL_law_1257 (q := 2912) rfl ?_
        refine g_sub [2, 3, 4, 5, 6, 7] (L' := [(0, .ref bS), (1, .ref (ea E 0)), (2, .ref (ea E 13)), (3, .ref (ea E 21)), (4, .ref (ea E 22)), (5, .int (iI i))]) rfl ?_
        exact K _ (by exact hI)
      · skip
        exfalso; omega
    · skip
      exfalso; omega
set_option maxRecDepth 100000 in
set_option maxHeartbeats 4000000 in
theorem lc_14 {p : Program} {l : Launch} {e : Env} {s : State} {m : MethodId} {args : Array Value} {below : List Frame} {meth : Method} {c : Code} {E : EV} {A : Nat → Prop} {Q : State → Prop} {σ : SS} {k n : Nat} {bS N : Nat} {xs : Nat → Int32} (hst : l.stackTraces = false) (C : CX p l e room_1 s m args below meth c RL cL_law 9 E A (some .boolean)) (hX : SX bS N xs s A) (hkn : k + 1 ≤ room_1.cells ∧ n + 6 ≤ room_1.slots) (i : Int) (hi : 0 ≤ i ∧ i + 5 ≤ N) (hI : INV σ) (K : ∀ σ2 : SS, INV σ2 → GG p l e room_1 s m args below meth c Q E A 9 σ2 (k + 1) (n + 6) 2912 [(0, .ref bS), (1, .ref (ea E 0)), (2, .ref (ea E 13)), (3, .ref (ea E 21)), (4, .ref (ea E 22)), (5, .int (iI i))] []) : GG p l e room_1 s m args below meth c Q E A 9 σ k n 1260 [(0, .ref bS), (1, .ref (ea E 0)), (2, .ref (ea E 13)), (3, .ref (ea E 21)), (4, .ref (ea E 22)), (5, .int (iI i))] [] := by
  have hM := hI.1.2
  have hP := hI.1.1
  have hW := hM.1
  have hH := hI.2.2.1.2.1
  have hK5 := hI.2.2.1.1
  have hN9 := hX.2.2.2
  have hkn0 : k ≤ room_1.cells ∧ n ≤ room_1.slots := ⟨Nat.le_of_succ_le hkn.1, Nat.le_trans (Nat.le_add_right n 6) hkn.2⟩
  obtain ⟨r, hs_r⟩ : ∃ v, scr xs (i + 1) = v := ⟨_, rfl⟩
  have hr_r := scr_rg xs (i + 1)
  rw [hs_r] at hr_r
  obtain ⟨p, hs_p⟩ : ∃ v, scr xs (i + 2) = v := ⟨_, rfl⟩
  have hr_p := scr_rg xs (i + 2)
  rw [hs_p] at hr_p
  have hq_0 := fB_c (σ 2) r p
  refine g_aload_n C dL_law_1260 1 rfl rfl (q := 1261) rfl ?_
  refine g_aload_n C dL_law_1261 0 rfl rfl (q := 1262) rfl ?_
  refine g_iload C dL_law_1262 5 rfl (q := 1264) rfl ?_
  refine g_iconst C dL_law_1264 (q := 1265) rfl ?_
  refine g_iadd C dL_law_1265 (q := 1266) rfl ?_
  refine g_scr C hX (j := i + 1) (by omega) dL_law_1266 (q := 1267) rfl ?_
  refine g_top (b := r) hs_r ?_
  refine g_aload_n C dL_law_1267 0 rfl rfl (q := 1268) rfl ?_
  refine g_iload C dL_law_1268 5 rfl (q := 1270) rfl ?_
  refine g_iconst C dL_law_1270 (q := 1271) rfl ?_
  refine g_iadd C dL_law_1271 (q := 1272) rfl ?_
  refine g_scr C hX (j := i + 2) (by omega) dL_law_1272 (q := 1273) rfl ?_
  refine g_top (b := p) hs_p ?_
  refine g_aload_n C dL_law_1273 3 rfl rfl (q := 1274) rfl ?_
  rcases (show ((fB (σ 2) r p = 0)) ∨ ((fB (σ 2) r p = 1)) by omega) with hq0 | hq0
  · skip
    refine g_cL C (hh := th_L_lengthBeforeByScan) (As := [.ref (ea E 0), .int (iI r), .int (iI p), .ref (ea E 21)]) (c_L_lengthBeforeByScan l hst E _ r p  (by assumption) (by assumption) (by assumption) (by assumption)) ml_L_202 mf_L_lengthBeforeByScan rfl ⟨(Nat.le_of_ble_eq_true rfl), (Nat.le_of_ble_eq_true rfl)⟩ rfl rfl rfl (Nat.le_of_ble_eq_true rfl) hkn dL_law_1274 (q := 1277) rfl ?_
    refine g_istore C (L' := [(6, .int (iI 0)), (0, .ref bS), (1, .ref (ea E 0)), (2, .ref (ea E 13)), (3, .ref (ea E 21)), (4, .ref (ea E 22)), (5, .int (iI i))]) dL_law_1277 (by decide) rfl (q := 1279) rfl ?_
    refine g_aload_n C dL_law_1279 3 rfl rfl (q := 1280) rfl ?_
    refine g_aload_n C dL_law_1280 1 rfl rfl (q := 1281) rfl ?_
    refine g_iload C dL_law_1281 6 rfl (q := 1283) rfl ?_
    refine g_iconst C dL_law_1283 (q := 1284) rfl ?_
    refine g_iadd C dL_law_1284 (q := 1285) rfl ?_
    refine g_scr C hX (j := i + 1) (by omega) dL_law_1285 (q := 1286) rfl ?_
    refine g_top (b := r) hs_r ?_
    refine g_aload_n C dL_law_1286 1 rfl rfl (q := 1287) rfl ?_
    refine g_iload C dL_law_1287 6 rfl (q := 1289) rfl ?_
    refine g_iconst C dL_law_1289 (q := 1290) rfl ?_
    refine g_iadd C dL_law_1290 (q := 1291) rfl ?_
    refine g_scr C hX (j := i + 2) (by omega) dL_law_1291 (q := 1292) rfl ?_
    refine g_top (b := p) hs_p ?_
    refine g_cV_i C (As := [.int (iI r), .int (iI p)]) (c_X5_lengthBeforeByScan l E _ r p (σ 2) (by show MS (σ 2) (σ 14); assumption) (by omega) (by omega) (by assumption)) ml_L_204 mf_X5_lengthBeforeByScan (o := 13) (ci := 5) rfl rfl rfl rfl ⟨(Nat.le_of_ble_eq_true rfl), (Nat.le_of_ble_eq_true rfl)⟩ rfl rfl rfl (Nat.le_of_ble_eq_true rfl) hkn dL_law_1292 (q := 1295) rfl ?_
    refine g_st (σ2 := (st (st σ 13 (pt (σ 13) 0 0)) 21 (pt (σ 21) 0 (wr (sI (lgs (σ 2) r) 0 (p - 1 + 1)))))) (st_cm σ (o := 21) (q := 13) (pt (σ 21) 0 (wr (sI (lgs (σ 2) r) 0 (p - 1 + 1)))) (pt (σ 13) 0 0) (by decide)) ?_
    refine g_istore C (L' := [(7, .int (iI (sI (lgs (σ 2) r) 0 (p - 1 + 1)))), (6, .int (iI 0)), (0, .ref bS), (1, .ref (ea E 0)), (2, .ref (ea E 13)), (3, .ref (ea E 21)), (4, .ref (ea E 22)), (5, .int (iI i))]) dL_law_1295 (by decide) rfl (q := 1297) rfl ?_
    refine g_aload_n C dL_law_1297 4 rfl rfl (q := 1298) rfl ?_
    refine g_cV_i C (As := []) (c_X5_thrown l E _) ml_L_157 mf_X5_thrown (o := 13) (ci := 5) rfl rfl rfl rfl ⟨(Nat.le_of_ble_eq_true rfl), (Nat.le_of_ble_eq_true rfl)⟩ rfl rfl rfl (Nat.le_of_ble_eq_true rfl) hkn dL_law_1298 (q := 1301) rfl ?_
    refine g_top (b := 0) rfl ?_
    refine g_iload C dL_law_1301 1 rfl (q := 1303) rfl ?_
    refine g_icmp_eq C dL_law_1303 (by omega) (q2 := 1308) rfl (q := 1306) rfl (fun hb2 => ?_) (fun hb2 => ?_)
    · skip
      refine g_iload C dL_law_1308 1 rfl (q := 1310) rfl ?_
      refine g_if_ne C dL_law_1310 (by omega) (q2 := 1325) rfl (q := 1313) rfl (fun hb3 => ?_) (fun hb3 => ?_)
      · skip
        exfalso; omega
      · skip
        refine g_aload_n C dL_law_1313 5 rfl rfl (q := 1314) rfl ?_
        refine g_iconst C dL_law_1314 (q := 1315) rfl ?_
        refine gl_21 C dL_law_1315 (q := 1316) rfl ?_
        refine g_topl (b := (wr (sI (lgs (σ 2) r) 0 (p - 1 + 1)))) (show (pt (σ 21) 0 (wr (sI (lgs (σ 2) r) 0 (p - 1 + 1)))) 0 = (wr (sI (lgs (σ 2) r) 0 (p - 1 + 1))) from pt_s _ _ _) ?_
        refine g_iload C dL_law_1316 0 rfl (q := 1318) rfl ?_
        refine g_i2lw C dL_law_1318 (q := 1319) rfl ?_
        refine g_lcmpE C (by rfl) dL_law_1319 (q := 1320) rfl ?_
        refine g_if_eq C dL_law_1320 (by omega) (q2 := 1325) rfl (q := 1323) rfl (fun hb4 => ?_) (fun hb4 => ?_)
        · skip
          refine g_goto C dL_law_1325 (q := 2912) rfl ?_
          refine g_sub [2, 3, 4, 5, 6, 7] (L' := [(0, .ref bS), (1, .ref (ea E 0)), (2, .ref (ea E 13)), (3, .ref (ea E 21)), (4, .ref (ea E 22)), (5, .int (iI i))]) rfl ?_
          exact K _ (by exact hI)
        · skip
          exfalso; omega
    · skip
      exfalso; omega
  · skip
    refine g_cL C (hh := th_L_lengthBeforeByScan) (As := [.ref (ea E 0), .int (iI r), .int (iI p), .ref (ea E 21)]) (c_L_lengthBeforeByScan_11 l hst E _ r p  (by assumption) (by assumption) (by assumption) (by assumption)) ml_L_202 mf_L_lengthBeforeByScan rfl ⟨(Nat.le_of_ble_eq_true rfl), (Nat.le_of_ble_eq_true rfl)⟩ rfl rfl rfl (Nat.le_of_ble_eq_true rfl) hkn dL_law_1274 (q := 1277) rfl ?_
    refine g_istore C (L' := [(6, .int (iI 1)), (0, .ref bS), (1, .ref (ea E 0)), (2, .ref (ea E 13)), (3, .ref (ea E 21)), (4, .ref (ea E 22)), (5, .int (iI i))]) dL_law_1277 (by decide) rfl (q := 1279) rfl ?_
    refine g_aload_n C dL_law_1279 3 rfl rfl (q := 1280) rfl ?_
    refine g_aload_n C dL_law_1280 1 rfl rfl (q := 1281) rfl ?_
    refine g_iload C dL_law_1281 6 rfl (q := 1283) rfl ?_
    refine g_iconst C dL_law_1283 (q := 1284) rfl ?_
    refine g_iadd C dL_law_1284 (q := 1285) rfl ?_
    refine g_scr C hX (j := i + 1) (by omega) dL_law_1285 (q := 1286) rfl ?_
    refine g_top (b := r) hs_r ?_
    refine g_aload_n C dL_law_1286 1 rfl rfl (q := 1287) rfl ?_
    refine g_iload C dL_law_1287 6 rfl (q := 1289) rfl ?_
    refine g_iconst C dL_law_1289 (q := 1290) rfl ?_
    refine g_iadd C dL_law_1290 (q := 1291) rfl ?_
    refine g_scr C hX (j := i + 2) (by omega) dL_law_1291 (q := 1292) rfl ?_
    refine g_top (b := p) hs_p ?_
    refine g_cV_i C (As := [.int (iI r), .int (iI p)]) (c_X5_lengthBeforeByScan_11 l E _ r p (σ 2) (by assumption) (by omega) (by omega) (by assumption)) ml_L_204 mf_X5_lengthBeforeByScan (o := 13) (ci := 5) rfl rfl rfl rfl ⟨(Nat.le_of_ble_eq_true rfl), (Nat.le_of_ble_eq_true rfl)⟩ rfl rfl rfl (Nat.le_of_ble_eq_true rfl) hkn dL_law_1292 (q := 1295) rfl ?_
    refine g_istore C (L' := [(7, .int (iI 0)), (6, .int (iI 1)), (0, .ref bS), (1, .ref (ea E 0)), (2, .ref (ea E 13)), (3, .ref (ea E 21)), (4, .ref (ea E 22)), (5, .int (iI i))]) dL_law_1295 (by decide) rfl (q := 1297) rfl ?_
    refine g_aload_n C dL_law_1297 4 rfl rfl (q := 1298) rfl ?_
    refine g_cV_i C (As := []) (c_X5_thrown l E _) ml_L_157 mf_X5_thrown (o := 13) (ci := 5) rfl rfl rfl rfl ⟨(Nat.le_of_ble_eq_true rfl), (Nat.le_of_ble_eq_true rfl)⟩ rfl rfl rfl (Nat.le_of_ble_eq_true rfl) hkn dL_law_1298 (q := 1301) rfl ?_
    refine g_top (b := 1) rfl ?_
    refine g_iload C dL_law_1301 1 rfl (q := 1303) rfl ?_
    refine g_icmp_eq C dL_law_1303 (by omega) (q2 := 1308) rfl (q := 1306) rfl (fun hb5 => ?_) (fun hb5 => ?_)
    · skip
      refine g_iload C dL_law_1308 1 rfl (q := 1310) rfl ?_
      refine g_if_ne C dL_law_1310 (by omega) (q2 := 1325) rfl (q := 1313) rfl (fun hb6 => ?_) (fun hb6 => ?_)
      · skip
        refine g_goto C dL_law_1325 (q := 2912) rfl ?_
        refine g_sub [2, 3, 4, 5, 6, 7] (L' := [(0, .ref bS), (1, .ref (ea E 0)), (2, .ref (ea E 13)), (3, .ref (ea E 21)), (4, .ref (ea E 22)), (5, .int (iI i))]) rfl ?_
        exact K _ (by exact hI)
      · skip
        exfalso; omega
    · skip
      exfalso; omega
set_option maxRecDepth 100000 in
set_option maxHeartbeats 4000000 in
theorem lc_15 {p : Program} {l : Launch} {e : Env} {s : State} {m : MethodId} {args : Array Value} {below : List Frame} {meth : Method} {c : Code} {E : EV} {A : Nat → Prop} {Q : State → Prop} {σ : SS} {k n : Nat} {bS N : Nat} {xs : Nat → Int32} (hst : l.stackTraces = false) (C : CX p l e room_1 s m args below meth c RL cL_law 9 E A (some .boolean)) (hX : SX bS N xs s A) (hkn : k + 1 ≤ room_1.cells ∧ n + 6 ≤ room_1.slots) (i : Int) (hi : 0 ≤ i ∧ i + 5 ≤ N) (hI : INV σ) (K : ∀ σ2 : SS, INV σ2 → GG p l e room_1 s m args below meth c Q E A 9 σ2 (k + 1) (n + 6) 2912 [(0, .ref bS), (1, .ref (ea E 0)), (2, .ref (ea E 13)), (3, .ref (ea E 21)), (4, .ref (ea E 22)), (5, .int (iI i))] []) : GG p l e room_1 s m args below meth c Q E A 9 σ k n 1328 [(0, .ref bS), (1, .ref (ea E 0)), (2, .ref (ea E 13)), (3, .ref (ea E 21)), (4, .ref (ea E 22)), (5, .int (iI i))] [] := by
  have hM := hI.1.2
  have hP := hI.1.1
  have hW := hM.1
  have hH := hI.2.2.1.2.1
  have hK5 := hI.2.2.1.1
  have hN9 := hX.2.2.2
  have hkn0 : k ≤ room_1.cells ∧ n ≤ room_1.slots := ⟨Nat.le_of_succ_le hkn.1, Nat.le_trans (Nat.le_add_right n 6) hkn.2⟩
  obtain ⟨r, hs_r⟩ : ∃ v, scr xs (i + 1) = v := ⟨_, rfl⟩
  have hr_r := scr_rg xs (i + 1)
  rw [hs_r] at hr_r
  obtain ⟨p, hs_p⟩ : ∃ v, scr xs (i + 2) = v := ⟨_, rfl⟩
  have hr_p := scr_rg xs (i + 2)
  rw [hs_p] at hr_p
  have hq_0 := fR_c r
  refine g_aload_n C dL_law_1328 1 rfl rfl (q := 1329) rfl ?_
  refine g_aload_n C dL_law_1329 0 rfl rfl (q := 1330) rfl ?_
  refine g_iload C dL_law_1330 5 rfl (q := 1332) rfl ?_
  refine g_iconst C dL_law_1332 (q := 1333) rfl ?_
  refine g_iadd C dL_law_1333 (q := 1334) rfl ?_
  refine g_scr C hX (j := i + 1) (by omega) dL_law_1334 (q := 1335) rfl ?_
  refine g_top (b := r) hs_r ?_
  refine g_aload_n C dL_law_1335 0 rfl rfl (q := 1336) rfl ?_
  refine g_iload C dL_law_1336 5 rfl (q := 1338) rfl ?_
  refine g_iconst C dL_law_1338 (q := 1339) rfl ?_
  refine g_iadd C dL_law_1339 (q := 1340) rfl ?_
  refine g_scr C hX (j := i + 2) (by omega) dL_law_1340 (q := 1341) rfl ?_
  refine g_top (b := p) hs_p ?_
  refine g_aload_n C dL_law_1341 3 rfl rfl (q := 1342) rfl ?_
  rcases (show ((fR r = 0) ∧ (po (σ 2) r p ≠ -1)) ∨ ((fR r = 1)) ∨ ((fR r = 0) ∧ (po (σ 2) r p = -1)) by omega) with ⟨hq0, hq1⟩ | hq0 | ⟨hq0, hq1⟩
  · skip
    refine g_cL C (hh := th_L_positionAt) (As := [.ref (ea E 0), .int (iI r), .int (iI p), .ref (ea E 21)]) (c_L_positionAt l hst E _ r p  (by assumption) (by assumption) (by assumption) (by assumption) (by assumption)) ml_L_205 mf_L_positionAt rfl ⟨(Nat.le_of_ble_eq_true rfl), (Nat.le_of_ble_eq_true rfl)⟩ rfl rfl rfl (Nat.le_of_ble_eq_true rfl) hkn dL_law_1342 (q := 1345) rfl ?_
    refine g_istore C (L' := [(6, .int (iI 0)), (0, .ref bS), (1, .ref (ea E 0)), (2, .ref (ea E 13)), (3, .ref (ea E 21)), (4, .ref (ea E 22)), (5, .int (iI i))]) dL_law_1345 (by decide) rfl (q := 1347) rfl ?_
    refine g_aload_n C dL_law_1347 3 rfl rfl (q := 1348) rfl ?_
    refine g_aload_n C dL_law_1348 1 rfl rfl (q := 1349) rfl ?_
    refine g_iload C dL_law_1349 6 rfl (q := 1351) rfl ?_
    refine g_iconst C dL_law_1351 (q := 1352) rfl ?_
    refine g_iadd C dL_law_1352 (q := 1353) rfl ?_
    refine g_scr C hX (j := i + 1) (by omega) dL_law_1353 (q := 1354) rfl ?_
    refine g_top (b := r) hs_r ?_
    refine g_aload_n C dL_law_1354 1 rfl rfl (q := 1355) rfl ?_
    refine g_iload C dL_law_1355 6 rfl (q := 1357) rfl ?_
    refine g_iconst C dL_law_1357 (q := 1358) rfl ?_
    refine g_iadd C dL_law_1358 (q := 1359) rfl ?_
    refine g_scr C hX (j := i + 2) (by omega) dL_law_1359 (q := 1360) rfl ?_
    refine g_top (b := p) hs_p ?_
    refine g_cV_i C (As := [.int (iI r), .int (iI p)]) (c_X5_positionAt l E _ r p (σ 2) (by show MS (σ 2) (σ 14); assumption) (by omega) (by omega) (by assumption) (by assumption)) ml_L_207 mf_X5_positionAt (o := 13) (ci := 5) rfl rfl rfl rfl ⟨(Nat.le_of_ble_eq_true rfl), (Nat.le_of_ble_eq_true rfl)⟩ rfl rfl rfl (Nat.le_of_ble_eq_true rfl) hkn dL_law_1360 (q := 1363) rfl ?_
    refine g_st (σ2 := (st (st σ 13 (pt (σ 13) 0 0)) 21 (pt (σ 21) 0 (wr (po (σ 2) r p))))) (st_cm σ (o := 21) (q := 13) (pt (σ 21) 0 (wr (po (σ 2) r p))) (pt (σ 13) 0 0) (by decide)) ?_
    refine g_istore C (L' := [(7, .int (iI (po (σ 2) r p))), (6, .int (iI 0)), (0, .ref bS), (1, .ref (ea E 0)), (2, .ref (ea E 13)), (3, .ref (ea E 21)), (4, .ref (ea E 22)), (5, .int (iI i))]) dL_law_1363 (by decide) rfl (q := 1365) rfl ?_
    refine g_aload_n C dL_law_1365 4 rfl rfl (q := 1366) rfl ?_
    refine g_cV_i C (As := []) (c_X5_thrown l E _) ml_L_157 mf_X5_thrown (o := 13) (ci := 5) rfl rfl rfl rfl ⟨(Nat.le_of_ble_eq_true rfl), (Nat.le_of_ble_eq_true rfl)⟩ rfl rfl rfl (Nat.le_of_ble_eq_true rfl) hkn dL_law_1366 (q := 1369) rfl ?_
    refine g_top (b := 0) rfl ?_
    refine g_iload C dL_law_1369 1 rfl (q := 1371) rfl ?_
    refine g_icmp_eq C dL_law_1371 (by omega) (q2 := 1376) rfl (q := 1374) rfl (fun hb2 => ?_) (fun hb2 => ?_)
    · skip
      refine g_iload C dL_law_1376 1 rfl (q := 1378) rfl ?_
      refine g_if_ne C dL_law_1378 (by omega) (q2 := 1393) rfl (q := 1381) rfl (fun hb3 => ?_) (fun hb3 => ?_)
      · skip
        exfalso; omega
      · skip
        refine g_aload_n C dL_law_1381 5 rfl rfl (q := 1382) rfl ?_
        refine g_iconst C dL_law_1382 (q := 1383) rfl ?_
        refine gl_21 C dL_law_1383 (q := 1384) rfl ?_
        refine g_topl (b := (wr (po (σ 2) r p))) (show (pt (σ 21) 0 (wr (po (σ 2) r p))) 0 = (wr (po (σ 2) r p)) from pt_s _ _ _) ?_
        refine g_iload C dL_law_1384 0 rfl (q := 1386) rfl ?_
        refine g_i2lw C dL_law_1386 (q := 1387) rfl ?_
        refine g_lcmpE C (by rfl) dL_law_1387 (q := 1388) rfl ?_
        refine g_if_eq C dL_law_1388 (by omega) (q2 := 1393) rfl (q := 1391) rfl (fun hb4 => ?_) (fun hb4 => ?_)
        · skip
          refine g_goto C dL_law_1393 (q := 2912) rfl ?_
          refine g_sub [2, 3, 4, 5, 6, 7] (L' := [(0, .ref bS), (1, .ref (ea E 0)), (2, .ref (ea E 13)), (3, .ref (ea E 21)), (4, .ref (ea E 22)), (5, .int (iI i))]) rfl ?_
          exact K _ (by exact hI)
        · skip
          exfalso; omega
    · skip
      exfalso; omega
  · skip
    refine g_cL C (hh := th_L_positionAt) (As := [.ref (ea E 0), .int (iI r), .int (iI p), .ref (ea E 21)]) (c_L_positionAt_11 l hst E _ r p  (by assumption) (by assumption) (by assumption) (by assumption)) ml_L_205 mf_L_positionAt rfl ⟨(Nat.le_of_ble_eq_true rfl), (Nat.le_of_ble_eq_true rfl)⟩ rfl rfl rfl (Nat.le_of_ble_eq_true rfl) hkn dL_law_1342 (q := 1345) rfl ?_
    refine g_istore C (L' := [(6, .int (iI 1)), (0, .ref bS), (1, .ref (ea E 0)), (2, .ref (ea E 13)), (3, .ref (ea E 21)), (4, .ref (ea E 22)), (5, .int (iI i))]) dL_law_1345 (by decide) rfl (q := 1347) rfl ?_
    refine g_aload_n C dL_law_1347 3 rfl rfl (q := 1348) rfl ?_
    refine g_aload_n C dL_law_1348 1 rfl rfl (q := 1349) rfl ?_
    refine g_iload C dL_law_1349 6 rfl (q := 1351) rfl ?_
    refine g_iconst C dL_law_1351 (q := 1352) rfl ?_
    refine g_iadd C dL_law_1352 (q := 1353) rfl ?_
    refine g_scr C hX (j := i + 1) (by omega) dL_law_1353 (q := 1354) rfl ?_
    refine g_top (b := r) hs_r ?_
    refine g_aload_n C dL_law_1354 1 rfl rfl (q := 1355) rfl ?_
    refine g_iload C dL_law_1355 6 rfl (q := 1357) rfl ?_
    refine g_iconst C dL_law_1357 (q := 1358) rfl ?_
    refine g_iadd C dL_law_1358 (q := 1359) rfl ?_
    refine g_scr C hX (j := i + 2) (by omega) dL_law_1359 (q := 1360) rfl ?_
    refine g_top (b := p) hs_p ?_
    refine g_cV_i C (As := [.int (iI r), .int (iI p)]) (c_X5_positionAt_11 l E _ r p (σ 2) (by assumption) (by omega) (by omega) (by assumption)) ml_L_207 mf_X5_positionAt (o := 13) (ci := 5) rfl rfl rfl rfl ⟨(Nat.le_of_ble_eq_true rfl), (Nat.le_of_ble_eq_true rfl)⟩ rfl rfl rfl (Nat.le_of_ble_eq_true rfl) hkn dL_law_1360 (q := 1363) rfl ?_
    refine g_istore C (L' := [(7, .int (iI 0)), (6, .int (iI 1)), (0, .ref bS), (1, .ref (ea E 0)), (2, .ref (ea E 13)), (3, .ref (ea E 21)), (4, .ref (ea E 22)), (5, .int (iI i))]) dL_law_1363 (by decide) rfl (q := 1365) rfl ?_
    refine g_aload_n C dL_law_1365 4 rfl rfl (q := 1366) rfl ?_
    refine g_cV_i C (As := []) (c_X5_thrown l E _) ml_L_157 mf_X5_thrown (o := 13) (ci := 5) rfl rfl rfl rfl ⟨(Nat.le_of_ble_eq_true rfl), (Nat.le_of_ble_eq_true rfl)⟩ rfl rfl rfl (Nat.le_of_ble_eq_true rfl) hkn dL_law_1366 (q := 1369) rfl ?_
    refine g_top (b := 1) rfl ?_
    refine g_iload C dL_law_1369 1 rfl (q := 1371) rfl ?_
    refine g_icmp_eq C dL_law_1371 (by omega) (q2 := 1376) rfl (q := 1374) rfl (fun hb5 => ?_) (fun hb5 => ?_)
    · skip
      refine g_iload C dL_law_1376 1 rfl (q := 1378) rfl ?_
      refine g_if_ne C dL_law_1378 (by omega) (q2 := 1393) rfl (q := 1381) rfl (fun hb6 => ?_) (fun hb6 => ?_)
      · skip
        refine g_goto C dL_law_1393 (q := 2912) rfl ?_
        refine g_sub [2, 3, 4, 5, 6, 7] (L' := [(0, .ref bS), (1, .ref (ea E 0)), (2, .ref (ea E 13)), (3, .ref (ea E 21)), (4, .ref (ea E 22)), (5, .int (iI i))]) rfl ?_
        exact K _ (by exact hI)
      · skip
        exfalso; omega
    · skip
      exfalso; omega
  · skip
    refine g_cL C (hh := th_L_positionAt) (As := [.ref (ea E 0), .int (iI r), .int (iI p), .ref (ea E 21)]) (c_L_positionAt_n l hst E _ r p  (by assumption) (by assumption) (by assumption) (by assumption) (by assumption)) ml_L_205 mf_L_positionAt rfl ⟨(Nat.le_of_ble_eq_true rfl), (Nat.le_of_ble_eq_true rfl)⟩ rfl rfl rfl (Nat.le_of_ble_eq_true rfl) hkn dL_law_1342 (q := 1345) rfl ?_
    refine g_istore C (L' := [(6, .int (iI 2)), (0, .ref bS), (1, .ref (ea E 0)), (2, .ref (ea E 13)), (3, .ref (ea E 21)), (4, .ref (ea E 22)), (5, .int (iI i))]) dL_law_1345 (by decide) rfl (q := 1347) rfl ?_
    refine g_aload_n C dL_law_1347 3 rfl rfl (q := 1348) rfl ?_
    refine g_aload_n C dL_law_1348 1 rfl rfl (q := 1349) rfl ?_
    refine g_iload C dL_law_1349 6 rfl (q := 1351) rfl ?_
    refine g_iconst C dL_law_1351 (q := 1352) rfl ?_
    refine g_iadd C dL_law_1352 (q := 1353) rfl ?_
    refine g_scr C hX (j := i + 1) (by omega) dL_law_1353 (q := 1354) rfl ?_
    refine g_top (b := r) hs_r ?_
    refine g_aload_n C dL_law_1354 1 rfl rfl (q := 1355) rfl ?_
    refine g_iload C dL_law_1355 6 rfl (q := 1357) rfl ?_
    refine g_iconst C dL_law_1357 (q := 1358) rfl ?_
    refine g_iadd C dL_law_1358 (q := 1359) rfl ?_
    refine g_scr C hX (j := i + 2) (by omega) dL_law_1359 (q := 1360) rfl ?_
    refine g_top (b := p) hs_p ?_
    refine g_cV_i C (As := [.int (iI r), .int (iI p)]) (c_X5_positionAt_n l E _ r p (σ 2) (by assumption) (by omega) (by omega) (by assumption) (by assumption)) ml_L_207 mf_X5_positionAt (o := 13) (ci := 5) rfl rfl rfl rfl ⟨(Nat.le_of_ble_eq_true rfl), (Nat.le_of_ble_eq_true rfl)⟩ rfl rfl rfl (Nat.le_of_ble_eq_true rfl) hkn dL_law_1360 (q := 1363) rfl ?_
    refine g_istore C (L' := [(7, .int (iI 0)), (6, .int (iI 2)), (0, .ref bS), (1, .ref (ea E 0)), (2, .ref (ea E 13)), (3, .ref (ea E 21)), (4, .ref (ea E 22)), (5, .int (iI i))]) dL_law_1363 (by decide) rfl (q := 1365) rfl ?_
    refine g_aload_n C dL_law_1365 4 rfl rfl (q := 1366) rfl ?_
    refine g_cV_i C (As := []) (c_X5_thrown l E _) ml_L_157 mf_X5_thrown (o := 13) (ci := 5) rfl rfl rfl rfl ⟨(Nat.le_of_ble_eq_true rfl), (Nat.le_of_ble_eq_true rfl)⟩ rfl rfl rfl (Nat.le_of_ble_eq_true rfl) hkn dL_law_1366 (q := 1369) rfl ?_
    refine g_top (b := 2) rfl ?_
    refine g_iload C dL_law_1369 1 rfl (q := 1371) rfl ?_
    refine g_icmp_eq C dL_law_1371 (by omega) (q2 := 1376) rfl (q := 1374) rfl (fun hb7 => ?_) (fun hb7 => ?_)
    · skip
      refine g_iload C dL_law_1376 1 rfl (q := 1378) rfl ?_
      refine g_if_ne C dL_law_1378 (by omega) (q2 := 1393) rfl (q := 1381) rfl (fun hb8 => ?_) (fun hb8 => ?_)
      · skip
        refine g_goto C dL_law_1393 (q := 2912) rfl ?_
        refine g_sub [2, 3, 4, 5, 6, 7] (L' := [(0, .ref bS), (1, .ref (ea E 0)), (2, .ref (ea E 13)), (3, .ref (ea E 21)), (4, .ref (ea E 22)), (5, .int (iI i))]) rfl ?_
        exact K _ (by exact hI)
      · skip
        exfalso; omega
    · skip
      exfalso; omega
