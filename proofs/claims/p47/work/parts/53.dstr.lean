/-! a string that was made: its length, its characters -/
def DYT (E : EV) (qy : Nat) (ny : Int) (fy : Int → Int) : Prop := ∃ (v n : Nat) (f : Nat → Int32), ey E = some (qy, v, n, f) ∧ ny = n ∧ (n : Int) < 1000 ∧ ∀ i : Int, 0 ≤ i → i < ny → f i.toNat = iI (fy i) ∧ 0 ≤ fy i ∧ fy i < 128
section GDST
variable {p : Program} {l : Launch} {e : Env} {R : Room} {s : State} {m : MethodId} {args : Array Value} {below : List Frame} {meth : Method} {c : Code} {own : String} {cc : ByteArray} {nL : Nat} {E : EV} {A : Nat → Prop} {Q : State → Prop} {rt : Option FieldType}
variable {σ σ2 : SS} {k n pc q : Nat} {L : List (Nat × Value)} {sk sk0 : List Value} {qy v ln : Nat} {f : Nat → Int32}
theorem g_dval (C : CX p l e R s m args below meth c own cc nL E A rt) (ho : own = "java/lang/String") (hy : ey E = some (qy, v, ln, f)) (d : decode cc pc = .ok (.getfield 9, 3)) (hq : pc + 3 = q) (K : GG p l e R s m args below meth c Q E A nL σ k n q L (.ref v :: sk)) : GG p l e R s m args below meth c Q E A nL σ k n pc L (.ref qy :: sk) := by
  subst hq; subst ho; intro H locs ls hl hP hS
  exact vk_getf C.exec C.code (C.EH.2.2.2.2.2.2.2.2 qy v ln f hy).2.2.1 hS C.hown (C.hts _ flj_9) (fun x h => h) d (K H locs ls hl hP hS)
theorem g_dcod (C : CX p l e R s m args below meth c own cc nL E A rt) (ho : own = "java/lang/String") (hy : ey E = some (qy, v, ln, f)) (d : decode cc pc = .ok (.getfield 15, 3)) (hq : pc + 3 = q) (K : GG p l e R s m args below meth c Q E A nL σ k n q L (.int (iI 0) :: sk)) : GG p l e R s m args below meth c Q E A nL σ k n pc L (.ref qy :: sk) := by
  subst hq; subst ho; intro H locs ls hl hP hS
  exact vk_getf C.exec C.code (C.EH.2.2.2.2.2.2.2.2 qy v ln f hy).2.1 hS C.hown (C.hts _ flj_15) (fun x h => h) d (K H locs ls hl hP hS)
theorem g_dlen (C : CX p l e R s m args below meth c own cc nL E A rt) (hy : ey E = some (qy, v, ln, f)) (d : decode cc pc = .ok (.arraylength, 1)) (hq : pc + 1 = q) (K : GG p l e R s m args below meth c Q E A nL σ k n q L (.int (iI ln) :: sk)) : GG p l e R s m args below meth c Q E A nL σ k n pc L (.ref v :: sk) := by
  subst hq; intro H locs ls hl hP hS
  exact va_tlen C.exec C.code (C.EH.2.2.2.2.2.2.2.2 qy v ln f hy).2.2.2 hS (nI_iI _) d (K H locs ls hl hP hS)
theorem g_dbyt (C : CX p l e R s m args below meth c own cc nL E A rt) (hy : ey E = some (qy, v, ln, f)) {i : Int} (hi : 0 ≤ i ∧ i < (ln : Int) ∧ i < 1000) {z : Int} (hz : f i.toNat = iI z) (d : decode cc pc = .ok (.baload, 1)) (hq : pc + 1 = q) (K : GG p l e R s m args below meth c Q E A nL σ k n q L (.int (iI z) :: sk)) : GG p l e R s m args below meth c Q E A nL σ k n pc L (.int (iI i) :: .ref v :: sk) := by
  subst hq; intro H locs ls hl hP hS
  refine va_tb C.exec C.code (C.EH.2.2.2.2.2.2.2.2 qy v ln f hy).2.2.2 hS (vp_in_iff.mpr ?_) (by rw [iI_cl (by omega), hz]) d (K H locs ls hl hP hS)
  rw [iI_toInt (by omega)]; omega
variable {y : MethodName} {b : ByteArray} {mL nA idx w : Nat} {ret : Option FieldType} {rm : Room} {As : List Value} {ny : Int} {fy : Int → Int}
theorem g_cVd_i (C : CX p l e R s m args below meth c own cc nL E A rt) {r : Int} (hy9 : DYT E qy ny fy) (hM : Ki l y (cw y b mL ret) rm E (.ref qy :: As) σ r σ2) (hl : Cond.methodLink own idx y ∈ WA) (hy : mfV y b mL ret nA) (hv : y.cls = "java/lang/String") (hn : As.length = nA) (hR : rm.frames + 1 ≤ R.frames ∧ 8 + (mL + 11) + rm.locals ≤ R.locals) (hrc : rm.cells = 0) (hrs : rm.slots = 0) (hst : sk0 = As.reverse ++ .ref qy :: sk) (hcat : (sk.map fun v => v.category).sum ≤ 8) (hkn : k ≤ R.cells ∧ n ≤ R.slots) (d : decode cc pc = .ok (.invokevirtual idx, 3)) (hq : pc + 3 = q) (K : GG p l e R s m args below meth c Q E A nL σ2 k n q L (.int (iI r) :: sk)) : GG p l e R s m args below meth c Q E A nL σ k n pc L sk0 := by
  subst hq; subst hst; intro H locs ls hl2 hP hS
  obtain ⟨v9, n9, f9, h9, -⟩ := hy9
  have hr : ∃ cell : Cell, H[qy]? = some cell ∧ cell.vm.isStatics = false ∧ s.vm.findClass "java/lang/String" = some cell.cls := by
    obtain ⟨cell, h1, h2, h3, -⟩ := (C.EH.2.2.2.2.2.2.2.2 qy v9 n9 f9 h9).1.kept hS.2.1
    exact ⟨cell, h1, h2, h3⟩
  refine va_calli (va_runV (As := As) (rest := sk) C.fix (hM H.size) (cwV nA C.hts (hy.gV hl) rfl hrc hrs ⟨rfl, hy.2.2.2.2⟩ hR) ⟨PE_blind, by rw [hv]; exact hr, fun U hU hW => ⟨rfl, C.pre hP hS U hU hW⟩⟩ rfl hn hl2.1 rfl (lv_room hcat) d hkn) hS (fun q _ h => C.sub hS q h) (C.sub hS) (fun r2 u t H1 locs1 ht hvm hw hB hz hk hS1 => ?_)
  subst hw; rw [ht] at hB; exact K H1 locs1 ls hl2 hB hS1
end GDST
section STRD
variable (l : Launch) (E : EV) (σ : SS)
theorem c_dcoder {qy : Nat} {ny : Int} {fy : Int → Int} (hy : DYT E qy ny fy) : Ki l yJ0_coder_7d493 (cw yJ0_coder_7d493 cJ0_coder_7d493 1 (some .byte)) rm_s0 E [.ref qy] σ 0 σ := by
  obtain ⟨v9, n9, f9, h9, -⟩ := hy
  intro sz
  refine Met.ofW (cc := cJ0_coder_7d493) (maxL := 1) (ret := some .byte) (by decide +kernel) rfl ?_
  intro p e s m args below meth c s₁ B hml hv
  obtain ⟨rfl, hsz, hP, hK, hE, hap⟩ := hv
  subst hsz
  have hts := atoms_spec (ws := cw yJ0_coder_7d493 cJ0_coder_7d493 1 (some .byte)) B.pre
  have C : CX p l e rm_s0 s m ([.ref qy] : List Value).toArray below meth c "java/lang/String" cJ0_coder_7d493 1 E (aA E s.heap.size) (some .byte) := ⟨B.exec, B.bytes, hml, findClass_of_methodNamed B.named, fun w h => hts w (List.mem_cons_of_mem _ h), B.notSynchronized, hK, hE, hap, fun k hk => Or.inl ⟨k, hk, rfl⟩, fun q h => Or.inr h, B.returns⟩
  have hl := lv_entry ([.ref qy] : List Value) (n := 1) (Nat.le_of_ble_eq_true rfl)
  rw [lg_entry_eq]
  have K : GG p l e rm_s0 s m ([.ref qy] : List Value).toArray below meth c (MQ below (va_Qi (fun x (_ : Unit) => x = iI 0) (fun _ t => va_P E.1 gcl (Wd E σ) t.heap) (aA E s.heap.size)) ([.ref qy] : List Value).toArray s 0 0 (aA E s.heap.size)) E (aA E s.heap.size) 1 σ 0 0 0 [(0, .ref qy)] [] := by
    refine g_scomp C rfl dJ0_coder_7d493_0 (q := 3) rfl ?_
    refine g_if_eq C dJ0_coder_7d493_3 (by omega) (q2 := 13) rfl (q := 6) rfl (fun h => ?_) (fun h => ?_)
    · exfalso; omega
    · refine g_aload_n C dJ0_coder_7d493_6 0 rfl rfl (q := 7) rfl ?_
      refine g_dcod C rfl h9 dJ0_coder_7d493_7 (q := 10) rfl ?_
      refine g_goto C dJ0_coder_7d493_10 (q := 14) rfl ?_
      exact g_bret C rfl dJ0_coder_7d493_14 rfl rfl
  exact K s.heap [] _ hl hP va_S.rf
theorem c_dlatin1 {qy : Nat} {ny : Int} {fy : Int → Int} (hy : DYT E qy ny fy) : Ki l yJ0_isLatin1_aae02 (cw yJ0_isLatin1_aae02 cJ0_isLatin1_aae02 1 (some .boolean)) rm_s0 E [.ref qy] σ 1 σ := by
  obtain ⟨v9, n9, f9, h9, -⟩ := hy
  refine Kz_of (rm := rm_s0) (mL := 1) (b := cJ0_isLatin1_aae02) "java/lang/String" rfl (by decide +kernel) rfl rfl [(0, .ref qy)] rfl (Nat.le_of_ble_eq_true rfl) (fun p_ e_ s_ m_ a_ b_ h_ c_ Q A C hret => ?_)
  refine g_scomp C rfl dJ0_isLatin1_aae02_0 (q := 3) rfl ?_
  refine g_if_eq C dJ0_isLatin1_aae02_3 (by omega) (q2 := 17) rfl (q := 6) rfl (fun h => ?_) (fun h => ?_)
  · exfalso; omega
  · refine g_aload_n C dJ0_isLatin1_aae02_6 0 rfl rfl (q := 7) rfl ?_
    refine g_dcod C rfl h9 dJ0_isLatin1_aae02_7 (q := 10) rfl ?_
    refine g_if_ne C dJ0_isLatin1_aae02_10 (by omega) (q2 := 17) rfl (q := 13) rfl (fun h => ?_) (fun h => ?_)
    · exfalso; omega
    · refine g_iconst C dJ0_isLatin1_aae02_13 (q := 14) rfl ?_
      refine g_goto C dJ0_isLatin1_aae02_14 (q := 18) rfl ?_
      exact hret _ _ _ dJ0_isLatin1_aae02_18 (by omega) rfl
theorem c_dlength {qy : Nat} {ny : Int} {fy : Int → Int} (hy : DYT E qy ny fy) : Ki l yJ0_length_8abf5 (cw yJ0_length_8abf5 cJ0_length_8abf5 1 (some .int)) rm_s1 E [.ref qy] σ ny σ := by
  have hy9 := hy
  obtain ⟨v9, n9, f9, h9, hn9, -⟩ := hy
  refine Ki_of (rm := rm_s1) (mL := 1) (b := cJ0_length_8abf5) "java/lang/String" rfl (by decide +kernel) rfl rfl [(0, .ref qy)] rfl (Nat.le_of_ble_eq_true rfl) (fun p_ e_ s_ m_ a_ b_ h_ c_ Q A C hret => ?_)
  refine g_aload_n C dJ0_length_8abf5_0 0 rfl rfl (q := 1) rfl ?_
  refine g_dval C rfl h9 dJ0_length_8abf5_1 (q := 4) rfl ?_
  refine g_dlen C h9 dJ0_length_8abf5_4 (q := 5) rfl ?_
  refine g_aload_n C dJ0_length_8abf5_5 0 rfl rfl (q := 6) rfl ?_
  refine g_cVd_i C (As := []) hy9 (c_dcoder l E _ hy9) mlj_RJ0_335 mf_J0_coder_7d493 rfl rfl ⟨(Nat.le_of_ble_eq_true rfl), (Nat.le_of_ble_eq_true rfl)⟩ rfl rfl rfl (Nat.le_of_ble_eq_true rfl) ⟨(Nat.le_of_ble_eq_true rfl), (Nat.le_of_ble_eq_true rfl)⟩ dJ0_length_8abf5_6 (q := 9) rfl ?_
  refine g_ishr0 C dJ0_length_8abf5_9 (q := 10) rfl ?_
  exact hret _ _ _ dJ0_length_8abf5_10 hn9.symm
theorem c_dlchar {qy : Nat} {v9 n9 : Nat} {f9 : Nat → Int32} (h9 : ey E = some (qy, v9, n9, f9)) (hn9 : (n9 : Int) < 1000) {i z : Int} (hi : 0 ≤ i ∧ i < n9) (hz : f9 i.toNat = iI z) (hb : 0 ≤ z ∧ z < 128) : Ki l yJ1_charAt_3b067 (cw yJ1_charAt_3b067 cJ1_charAt_3b067 2 (some .char)) rm_s2 E [.ref v9, .int (iI i)] σ z σ := by
  refine Kc_of (rm := rm_s2) (mL := 2) (b := cJ1_charAt_3b067) RJ1 rfl (by decide +kernel) rfl rfl [(0, .ref v9), (1, .int (iI i))] rfl (Nat.le_of_ble_eq_true rfl) (fun p_ e_ s_ m_ a_ b_ h_ c_ Q A C hret => ?_)
  refine g_iload_n C dJ1_charAt_3b067_0 1 rfl rfl (q := 1) rfl ?_
  refine g_aload_n C dJ1_charAt_3b067_1 0 rfl rfl (q := 2) rfl ?_
  refine g_dlen C h9 dJ1_charAt_3b067_2 (q := 3) rfl ?_
  refine g_cSo_v C (As := [.int (iI i), .int (iI n9)]) (c_scheck l E _ (by omega)) mlj_RJ1_9 mf_J0_checkIndex_df160 rfl ⟨(Nat.le_of_ble_eq_true rfl), (Nat.le_of_ble_eq_true rfl)⟩ rfl rfl rfl (Nat.le_of_ble_eq_true rfl) ⟨(Nat.le_of_ble_eq_true rfl), (Nat.le_of_ble_eq_true rfl)⟩ dJ1_charAt_3b067_3 (q := 6) rfl ?_
  refine g_aload_n C dJ1_charAt_3b067_6 0 rfl rfl (q := 7) rfl ?_
  refine g_iload_n C dJ1_charAt_3b067_7 1 rfl rfl (q := 8) rfl ?_
  refine g_dbyt C h9 (by omega) hz dJ1_charAt_3b067_8 (q := 9) rfl ?_
  refine g_sipush C dJ1_charAt_3b067_9 (by decide) (q := 12) rfl ?_
  refine g_iand255 C hb dJ1_charAt_3b067_12 (q := 13) rfl ?_
  refine g_i2c C dJ1_charAt_3b067_13 (q := 14) rfl ?_
  refine g_top (b := z) (by omega) ?_
  exact hret _ _ _ dJ1_charAt_3b067_14 (by omega) rfl
theorem c_dcharAt {qy : Nat} {ny : Int} {fy : Int → Int} (hy : DYT E qy ny fy) {i : Int} (h : 0 ≤ i ∧ i < ny) : Ki l yJ0_charAt_5068e (cw yJ0_charAt_5068e cJ0_charAt_5068e 2 (some .char)) rm_s3 E [.ref qy, .int (iI i)] σ (fy i) σ := by
  have hy9 := hy
  obtain ⟨v9, n9, f9, h9, hn9, hn8, hf⟩ := hy
  have hb := hf i h.1 h.2
  refine Kc_of (rm := rm_s3) (mL := 2) (b := cJ0_charAt_5068e) "java/lang/String" rfl (by decide +kernel) rfl rfl [(0, .ref qy), (1, .int (iI i))] rfl (Nat.le_of_ble_eq_true rfl) (fun p_ e_ s_ m_ a_ b_ h_ c_ Q A C hret => ?_)
  refine g_aload_n C dJ0_charAt_5068e_0 0 rfl rfl (q := 1) rfl ?_
  refine g_cVd_i C (As := []) hy9 (c_dlatin1 l E _ hy9) mlj_RJ0_492 mf_J0_isLatin1_aae02 rfl rfl ⟨(Nat.le_of_ble_eq_true rfl), (Nat.le_of_ble_eq_true rfl)⟩ rfl rfl rfl (Nat.le_of_ble_eq_true rfl) ⟨(Nat.le_of_ble_eq_true rfl), (Nat.le_of_ble_eq_true rfl)⟩ dJ0_charAt_5068e_1 (q := 4) rfl ?_
  refine g_if_eq C dJ0_charAt_5068e_4 (by omega) (q2 := 16) rfl (q := 7) rfl (fun h => ?_) (fun h => ?_)
  · exfalso; omega
  · refine g_aload_n C dJ0_charAt_5068e_7 0 rfl rfl (q := 8) rfl ?_
    refine g_dval C rfl h9 dJ0_charAt_5068e_8 (q := 11) rfl ?_
    refine g_iload_n C dJ0_charAt_5068e_11 1 rfl rfl (q := 12) rfl ?_
    refine g_cSo_i C (As := [.ref v9, .int (iI i)]) (c_dlchar l E _ h9 hn8 (by omega) hb.1 hb.2) mlj_RJ0_495 mf_J1_charAt_3b067 rfl ⟨(Nat.le_of_ble_eq_true rfl), (Nat.le_of_ble_eq_true rfl)⟩ rfl rfl rfl (Nat.le_of_ble_eq_true rfl) ⟨(Nat.le_of_ble_eq_true rfl), (Nat.le_of_ble_eq_true rfl)⟩ dJ0_charAt_5068e_12 (q := 15) rfl ?_
    exact hret _ _ _ dJ0_charAt_5068e_15 (by omega) rfl
end STRD
