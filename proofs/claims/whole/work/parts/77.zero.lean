/-! LAYER 3: the first row is held by a new machine -/
theorem ZR_z {i : Nat} (h : ¬ (73 ≤ i ∧ i < 76)) : ZR i = nI 0 := if_neg h
theorem ZR_m {i : Nat} (h : 73 ≤ i ∧ i < 76) : ZR i = -nI 1 := if_pos h
theorem ZR_n {i : Nat} (h : ¬ (73 ≤ i ∧ i < 76)) : nt (ZR i) = 0 := by rw [ZR_z h, nt0]
theorem ZR_wb : WB ZR := by
  refine ⟨ZR_z (i := 0) (by omega) ▸ isN0 _, ZR_z (i := 1) (by omega) ▸ isN0 _, ZR_z (i := 2) (by omega) ▸ isN0 _, ZR_z (i := 3) (by omega) ▸ isN0 _, ZR_z (i := 4) (by omega) ▸ isN0 _, ZR_z (i := 5) (by omega) ▸ isN0 _, ZR_z (i := 6) (by omega) ▸ isN0 _, ZR_z (i := 7) (by omega) ▸ isN0 _, ZR_z (i := 8) (by omega) ▸ isN0 _, fun i hi => ?_, fun i hi => ?_, fun i hi => ?_, fun l l1 l2 => Or.inl (ZR_m (by omega)), fun i hi => ?_, fun i hi => ?_, fun i hi => ?_, fun i hi => ?_, fun i hi => ?_, fun i k hi => ?_⟩
  all_goals (rw [ZR_n (by omega)] at hi; exact absurd hi (by omega))
theorem ZR_reset : sp_reset ZR = ZR := by
  funext i
  unfold sp_reset
  by_cases h : 1000 ≤ i ∧ i < 1020
  · rw [if_pos h, ZR_z (by omega)]
  · rw [if_neg h]
theorem ZR_rep {I : Nat → SA} {r : Nat} (h : NM I r) (hI : I r = fun _ => nI 0) : Rep I r ZR := by
  obtain ⟨h1, h2, h3, h4, h5, h6, h7, h8, h9⟩ := h
  have hc : ∀ (k j : Nat), k < 8 → ¬ (73 ≤ j ∧ j < 76) → I (r + 1 + 1 + 2 * k) 2 = ZR j := fun k j hk hj => by rw [h1 k hk, ZR_z hj]
  refine ⟨⟨⟨hc 0 0 (by omega) (by omega), fun i j hi => ?_⟩, ⟨hc 1 1 (by omega) (by omega), fun i j hi => ?_⟩, ⟨hc 2 2 (by omega) (by omega), fun i j hi => ?_⟩, ⟨hc 3 3 (by omega) (by omega), fun i j hi => ?_⟩, ⟨hc 4 4 (by omega) (by omega), fun i j hi => ?_⟩, ⟨hc 5 5 (by omega) (by omega), fun i j hi => ?_⟩, ⟨hc 6 6 (by omega) (by omega), fun i j hi => ?_⟩, ⟨hc 7 7 (by omega) (by omega), fun i hi => ?_⟩, fun l l1 l2 => ?_⟩, ⟨?_, fun i k hi => ?_⟩, fun k hk => ?_, fun k hk => ?_, fun k hk => ?_, fun l l1 l2 => ?_, ⟨?_, fun l hl => ?_⟩, ⟨?_, fun i k hi => ?_⟩, ?_⟩
  · rw [ZR_n (by omega)] at hi; exact absurd hi (by omega)
  · rw [ZR_n (by omega)] at hi; exact absurd hi (by omega)
  · rw [ZR_n (by omega)] at hi; exact absurd hi (by omega)
  · rw [ZR_n (by omega)] at hi; exact absurd hi (by omega)
  · rw [ZR_n (by omega)] at hi; exact absurd hi (by omega)
  · rw [ZR_n (by omega)] at hi; exact absurd hi (by omega)
  · rw [ZR_n (by omega)] at hi; exact absurd hi (by omega)
  · rw [ZR_n (by omega)] at hi; exact absurd hi (by omega)
  · rw [ZR_m (by omega)]; exact h2 l (by omega)
  · rw [h3, ZR_z (by omega)]
  · rw [ZR_n (by omega)] at hi; exact absurd hi (by omega)
  · rw [h4, ZR_z (by omega)]
  · rw [h5, ZR_z (by omega)]
  · rw [h6, ZR_n (by omega)]; show nI 0 = nI (0 / 2 ^ k % 2); rw [Nat.zero_div]
  · rw [h7, ZR_z (by omega)]
  · rw [h8, ZR_z (by omega)]
  · rw [ZR_n (by omega)] at hl; exact absurd hl (by omega)
  · rw [h9, ZR_n (by omega)]; rfl
  · rw [ZR_n (by omega)] at hi; exact absurd hi (by omega)
  · unfold RF; rw [hI, ZR_z (by omega), ZR_z (by omega), ZR_z (by omega)]; exact ⟨rfl, rfl, rfl⟩
theorem ZR_mo {μ : Mem} {r : Nat} (s : SM μ r) (h : NM (gI μ) r) (hI : gI μ r = fun _ => nI 0) : MO μ r ZR (BB ZR) := by
  have hb : BB ZR = 0 := by unfold BB; rw [ZR_n (by omega), ZR_n (by omega)]
  rw [hb]
  exact ⟨s, ZR_rep h hI, ZR_wb, ZR_reset ▸ WM.reset ZR_wb⟩
