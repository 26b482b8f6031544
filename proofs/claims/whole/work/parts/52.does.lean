/-! what a command does, of any kind -/
set_option maxHeartbeats 4000000 in
theorem c_X5_does_ok (l : Launch) (E : EV) (σ : SS) (k : Int) (f : Int → Int) (hM : MS f (σ 14)) (hT19 : ∀ z : Int, 0 ≤ z ∧ z < 300 → 0 ≤ (σ 19) z ∧ (σ 19) z ≤ 200) (hk : 0 ≤ k ∧ k < 60) (hc : (σ 19) (5 * k) = cdK (KT (σ 19) k)) (hF : FK f (KT (σ 19) k) (PT (σ 19) (k * 4 + 0)) (PT (σ 19) (k * 4 + 1)) (PT (σ 19) (k * 4 + 2)) (PT (σ 19) (k * 4 + 3)) = 0) : Ki l yX5_does (cw yX5_does cX5_does 6 (some .int)) rm_X5_does E [.ref (ea E 13), .int (iI k)] σ 0 (st (st σ 13 (pt (σ 13) 14 (mAn f (σ 14) (KT (σ 19) k) (PT (σ 19) (k * 4 + 0)) (PT (σ 19) (k * 4 + 1)) (PT (σ 19) (k * 4 + 2)) (PT (σ 19) (k * 4 + 3))))) 14 (mOp (σ 14) (KT (σ 19) k) (PT (σ 19) (k * 4 + 0)) (PT (σ 19) (k * 4 + 1)) (PT (σ 19) (k * 4 + 2)) (PT (σ 19) (k * 4 + 3)))) := by
  have hkr : 0 ≤ KT (σ 19) k ∧ KT (σ 19) k ≤ 8 := kdV_rg _
  rcases (show KT (σ 19) k = 0 ∨ KT (σ 19) k = 1 ∨ KT (σ 19) k = 2 ∨ KT (σ 19) k = 3 ∨ KT (σ 19) k = 4 ∨ KT (σ 19) k = 5 ∨ KT (σ 19) k = 6 ∨ KT (σ 19) k = 7 ∨ KT (σ 19) k = 8 by omega) with hK | hK | hK | hK | hK | hK | hK | hK | hK
  · rw [hK] at hc hF ⊢
    rw [PT_0, PT_1, PT_2, PT_3] at hF ⊢
    exact c_X5_does_0 l E σ k f hM hT19 hk hc hF
  · rw [hK] at hc hF ⊢
    rw [PT_0, PT_1, PT_2, PT_3] at hF ⊢
    exact c_X5_does_1 l E σ k f hM hT19 hk hc hF
  · rw [hK] at hc hF ⊢
    rw [PT_0, PT_1, PT_2, PT_3] at hF ⊢
    exact c_X5_does_2 l E σ k f hM hT19 hk hc hF
  · rw [hK] at hc hF ⊢
    rw [PT_0, PT_1, PT_2, PT_3] at hF ⊢
    exact c_X5_does_3 l E σ k f hM hT19 hk hc hF
  · rw [hK] at hc hF ⊢
    rw [PT_0, PT_1, PT_2, PT_3] at hF ⊢
    exact c_X5_does_4 l E σ k f hM hT19 hk hc hF
  · rw [hK] at hc hF ⊢
    rw [PT_0, PT_1, PT_2, PT_3] at hF ⊢
    exact c_X5_does_5 l E σ k f hM hT19 hk hc hF
  · rw [hK] at hc hF ⊢
    rw [PT_0, PT_1, PT_2, PT_3] at hF ⊢
    exact c_X5_does_6 l E σ k f hM hT19 hk hc hF
  · rw [hK] at hc hF ⊢
    rw [PT_0, PT_1, PT_2, PT_3] at hF ⊢
    exact c_X5_does_7 l E σ k f hM hT19 hk hc hF
  · rw [hK] at hc hF ⊢
    rw [PT_0, PT_1, PT_2, PT_3] at hF ⊢
    exact c_X5_does_8 l E σ k f hM hT19 hk hc hF
set_option maxHeartbeats 4000000 in
theorem c_X5_does_no (l : Launch) (E : EV) (σ : SS) (k : Int) (f : Int → Int) (hM : MS f (σ 14)) (hT19 : ∀ z : Int, 0 ≤ z ∧ z < 300 → 0 ≤ (σ 19) z ∧ (σ 19) z ≤ 200) (hk : 0 ≤ k ∧ k < 60) (hc : (σ 19) (5 * k) = cdK (KT (σ 19) k)) (hF : FK f (KT (σ 19) k) (PT (σ 19) (k * 4 + 0)) (PT (σ 19) (k * 4 + 1)) (PT (σ 19) (k * 4 + 2)) (PT (σ 19) (k * 4 + 3)) ≠ 0) : Ki l yX5_does (cw yX5_does cX5_does 6 (some .int)) rm_X5_does E [.ref (ea E 13), .int (iI k)] σ (FK f (KT (σ 19) k) (PT (σ 19) (k * 4 + 0)) (PT (σ 19) (k * 4 + 1)) (PT (σ 19) (k * 4 + 2)) (PT (σ 19) (k * 4 + 3))) σ := by
  have hkr : 0 ≤ KT (σ 19) k ∧ KT (σ 19) k ≤ 8 := kdV_rg _
  rcases (show KT (σ 19) k = 0 ∨ KT (σ 19) k = 1 ∨ KT (σ 19) k = 2 ∨ KT (σ 19) k = 3 ∨ KT (σ 19) k = 4 ∨ KT (σ 19) k = 5 ∨ KT (σ 19) k = 6 ∨ KT (σ 19) k = 7 ∨ KT (σ 19) k = 8 by omega) with hK | hK | hK | hK | hK | hK | hK | hK | hK
  · have hfc := FK_cs f (KT (σ 19) k) (PT (σ 19) (k * 4 + 0)) (PT (σ 19) (k * 4 + 1)) (PT (σ 19) (k * 4 + 2)) (PT (σ 19) (k * 4 + 3))
    rcases (show FK f (KT (σ 19) k) (PT (σ 19) (k * 4 + 0)) (PT (σ 19) (k * 4 + 1)) (PT (σ 19) (k * 4 + 2)) (PT (σ 19) (k * 4 + 3)) = 1 ∨ FK f (KT (σ 19) k) (PT (σ 19) (k * 4 + 0)) (PT (σ 19) (k * 4 + 1)) (PT (σ 19) (k * 4 + 2)) (PT (σ 19) (k * 4 + 3)) = 2 ∨ FK f (KT (σ 19) k) (PT (σ 19) (k * 4 + 0)) (PT (σ 19) (k * 4 + 1)) (PT (σ 19) (k * 4 + 2)) (PT (σ 19) (k * 4 + 3)) = 3 by omega) with hG | hG | hG
    · rw [hG]
      rw [hK] at hc hG
      rw [PT_0, PT_1, PT_2, PT_3] at hG
      exact c_X5_does_0_1 l E σ k f hM hT19 hk hc hG
    · rw [hG]
      rw [hK] at hc hG
      rw [PT_0, PT_1, PT_2, PT_3] at hG
      exact c_X5_does_0_2 l E σ k f hM hT19 hk hc hG
    · rw [hG]
      rw [hK] at hc hG
      rw [PT_0, PT_1, PT_2, PT_3] at hG
      exact c_X5_does_0_3 l E σ k f hM hT19 hk hc hG
  · have hfc := FK_cs f (KT (σ 19) k) (PT (σ 19) (k * 4 + 0)) (PT (σ 19) (k * 4 + 1)) (PT (σ 19) (k * 4 + 2)) (PT (σ 19) (k * 4 + 3))
    rcases (show FK f (KT (σ 19) k) (PT (σ 19) (k * 4 + 0)) (PT (σ 19) (k * 4 + 1)) (PT (σ 19) (k * 4 + 2)) (PT (σ 19) (k * 4 + 3)) = 1 ∨ FK f (KT (σ 19) k) (PT (σ 19) (k * 4 + 0)) (PT (σ 19) (k * 4 + 1)) (PT (σ 19) (k * 4 + 2)) (PT (σ 19) (k * 4 + 3)) = 2 ∨ FK f (KT (σ 19) k) (PT (σ 19) (k * 4 + 0)) (PT (σ 19) (k * 4 + 1)) (PT (σ 19) (k * 4 + 2)) (PT (σ 19) (k * 4 + 3)) = 3 by omega) with hG | hG | hG
    · rw [hG]
      rw [hK] at hc hG
      rw [PT_0, PT_1, PT_2, PT_3] at hG
      exact c_X5_does_1_1 l E σ k f hM hT19 hk hc hG
    · rw [hG]
      rw [hK] at hc hG
      rw [PT_0, PT_1, PT_2, PT_3] at hG
      exact c_X5_does_1_2 l E σ k f hM hT19 hk hc hG
    · rw [hG]
      rw [hK] at hc hG
      rw [PT_0, PT_1, PT_2, PT_3] at hG
      exact c_X5_does_1_3 l E σ k f hM hT19 hk hc hG
  · have hfc := FK_cs f (KT (σ 19) k) (PT (σ 19) (k * 4 + 0)) (PT (σ 19) (k * 4 + 1)) (PT (σ 19) (k * 4 + 2)) (PT (σ 19) (k * 4 + 3))
    have hG : FK f (KT (σ 19) k) (PT (σ 19) (k * 4 + 0)) (PT (σ 19) (k * 4 + 1)) (PT (σ 19) (k * 4 + 2)) (PT (σ 19) (k * 4 + 3)) = 1 := by omega
    rw [hG]
    rw [hK] at hc hG
    rw [PT_0, PT_1, PT_2, PT_3] at hG
    exact c_X5_does_2_1 l E σ k f hM hT19 hk hc hG
  · have hfc := FK_cs f (KT (σ 19) k) (PT (σ 19) (k * 4 + 0)) (PT (σ 19) (k * 4 + 1)) (PT (σ 19) (k * 4 + 2)) (PT (σ 19) (k * 4 + 3))
    rcases (show FK f (KT (σ 19) k) (PT (σ 19) (k * 4 + 0)) (PT (σ 19) (k * 4 + 1)) (PT (σ 19) (k * 4 + 2)) (PT (σ 19) (k * 4 + 3)) = 1 ∨ FK f (KT (σ 19) k) (PT (σ 19) (k * 4 + 0)) (PT (σ 19) (k * 4 + 1)) (PT (σ 19) (k * 4 + 2)) (PT (σ 19) (k * 4 + 3)) = 2 by omega) with hG | hG
    · rw [hG]
      rw [hK] at hc hG
      rw [PT_0, PT_1, PT_2, PT_3] at hG
      exact c_X5_does_3_1 l E σ k f hM hT19 hk hc hG
    · rw [hG]
      rw [hK] at hc hG
      rw [PT_0, PT_1, PT_2, PT_3] at hG
      exact c_X5_does_3_2 l E σ k f hM hT19 hk hc hG
  · have hfc := FK_cs f (KT (σ 19) k) (PT (σ 19) (k * 4 + 0)) (PT (σ 19) (k * 4 + 1)) (PT (σ 19) (k * 4 + 2)) (PT (σ 19) (k * 4 + 3))
    rcases (show FK f (KT (σ 19) k) (PT (σ 19) (k * 4 + 0)) (PT (σ 19) (k * 4 + 1)) (PT (σ 19) (k * 4 + 2)) (PT (σ 19) (k * 4 + 3)) = 1 ∨ FK f (KT (σ 19) k) (PT (σ 19) (k * 4 + 0)) (PT (σ 19) (k * 4 + 1)) (PT (σ 19) (k * 4 + 2)) (PT (σ 19) (k * 4 + 3)) = 2 ∨ FK f (KT (σ 19) k) (PT (σ 19) (k * 4 + 0)) (PT (σ 19) (k * 4 + 1)) (PT (σ 19) (k * 4 + 2)) (PT (σ 19) (k * 4 + 3)) = 3 by omega) with hG | hG | hG
    · rw [hG]
      rw [hK] at hc hG
      rw [PT_0, PT_1, PT_2, PT_3] at hG
      exact c_X5_does_4_1 l E σ k f hM hT19 hk hc hG
    · rw [hG]
      rw [hK] at hc hG
      rw [PT_0, PT_1, PT_2, PT_3] at hG
      exact c_X5_does_4_2 l E σ k f hM hT19 hk hc hG
    · rw [hG]
      rw [hK] at hc hG
      rw [PT_0, PT_1, PT_2, PT_3] at hG
      exact c_X5_does_4_3 l E σ k f hM hT19 hk hc hG
  · have hfc := FK_cs f (KT (σ 19) k) (PT (σ 19) (k * 4 + 0)) (PT (σ 19) (k * 4 + 1)) (PT (σ 19) (k * 4 + 2)) (PT (σ 19) (k * 4 + 3))
    rcases (show FK f (KT (σ 19) k) (PT (σ 19) (k * 4 + 0)) (PT (σ 19) (k * 4 + 1)) (PT (σ 19) (k * 4 + 2)) (PT (σ 19) (k * 4 + 3)) = 1 ∨ FK f (KT (σ 19) k) (PT (σ 19) (k * 4 + 0)) (PT (σ 19) (k * 4 + 1)) (PT (σ 19) (k * 4 + 2)) (PT (σ 19) (k * 4 + 3)) = 2 ∨ FK f (KT (σ 19) k) (PT (σ 19) (k * 4 + 0)) (PT (σ 19) (k * 4 + 1)) (PT (σ 19) (k * 4 + 2)) (PT (σ 19) (k * 4 + 3)) = 3 by omega) with hG | hG | hG
    · rw [hG]
      rw [hK] at hc hG
      rw [PT_0, PT_1, PT_2, PT_3] at hG
      exact c_X5_does_5_1 l E σ k f hM hT19 hk hc hG
    · rw [hG]
      rw [hK] at hc hG
      rw [PT_0, PT_1, PT_2, PT_3] at hG
      exact c_X5_does_5_2 l E σ k f hM hT19 hk hc hG
    · rw [hG]
      rw [hK] at hc hG
      rw [PT_0, PT_1, PT_2, PT_3] at hG
      exact c_X5_does_5_3 l E σ k f hM hT19 hk hc hG
  · have hfc := FK_cs f (KT (σ 19) k) (PT (σ 19) (k * 4 + 0)) (PT (σ 19) (k * 4 + 1)) (PT (σ 19) (k * 4 + 2)) (PT (σ 19) (k * 4 + 3))
    have hG : FK f (KT (σ 19) k) (PT (σ 19) (k * 4 + 0)) (PT (σ 19) (k * 4 + 1)) (PT (σ 19) (k * 4 + 2)) (PT (σ 19) (k * 4 + 3)) = 1 := by omega
    rw [hG]
    rw [hK] at hc hG
    rw [PT_0, PT_1, PT_2, PT_3] at hG
    exact c_X5_does_6_1 l E σ k f hM hT19 hk hc hG
  · have hfc := FK_cs f (KT (σ 19) k) (PT (σ 19) (k * 4 + 0)) (PT (σ 19) (k * 4 + 1)) (PT (σ 19) (k * 4 + 2)) (PT (σ 19) (k * 4 + 3))
    rcases (show FK f (KT (σ 19) k) (PT (σ 19) (k * 4 + 0)) (PT (σ 19) (k * 4 + 1)) (PT (σ 19) (k * 4 + 2)) (PT (σ 19) (k * 4 + 3)) = 1 ∨ FK f (KT (σ 19) k) (PT (σ 19) (k * 4 + 0)) (PT (σ 19) (k * 4 + 1)) (PT (σ 19) (k * 4 + 2)) (PT (σ 19) (k * 4 + 3)) = 2 by omega) with hG | hG
    · rw [hG]
      rw [hK] at hc hG
      rw [PT_0, PT_1, PT_2, PT_3] at hG
      exact c_X5_does_7_1 l E σ k f hM hT19 hk hc hG
    · rw [hG]
      rw [hK] at hc hG
      rw [PT_0, PT_1, PT_2, PT_3] at hG
      exact c_X5_does_7_2 l E σ k f hM hT19 hk hc hG
  · have hfc := FK_cs f (KT (σ 19) k) (PT (σ 19) (k * 4 + 0)) (PT (σ 19) (k * 4 + 1)) (PT (σ 19) (k * 4 + 2)) (PT (σ 19) (k * 4 + 3))
    rcases (show FK f (KT (σ 19) k) (PT (σ 19) (k * 4 + 0)) (PT (σ 19) (k * 4 + 1)) (PT (σ 19) (k * 4 + 2)) (PT (σ 19) (k * 4 + 3)) = 1 ∨ FK f (KT (σ 19) k) (PT (σ 19) (k * 4 + 0)) (PT (σ 19) (k * 4 + 1)) (PT (σ 19) (k * 4 + 2)) (PT (σ 19) (k * 4 + 3)) = 2 by omega) with hG | hG
    · rw [hG]
      rw [hK] at hc hG
      rw [PT_0, PT_1, PT_2, PT_3] at hG
      exact c_X5_does_8_1 l E σ k f hM hT19 hk hc hG
    · rw [hG]
      rw [hK] at hc hG
      rw [PT_0, PT_1, PT_2, PT_3] at hG
      exact c_X5_does_8_2 l E σ k f hM hT19 hk hc hG
