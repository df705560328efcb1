/-! THE LAW'S LOOP: case after case, to the script's end -/
def ZZ : ZT := fun o _ => o = .inl (some (.int 1))
theorem ifo {c : Prop} [Decidable c] {P R : Prop} (h1 : P) (h2 : R) : if c then P else R := by split <;> assumption
theorem HI.mk {j LL : Nat} (h : 6 * j + 6 ≤ LL) (hL : LL ≤ 3072) : HI (nI (6 * j)) LL := by
  unfold HI
  rw [show (nI (6 * j) + 1 : Int32) = nI (6 * j + 1) from nI_add _ 1, show (nI (6 * j) + 2 : Int32) = nI (6 * j + 2) from nI_add _ 2, show (nI (6 * j) + 3 : Int32) = nI (6 * j + 3) from nI_add _ 3, show (nI (6 * j) + 4 : Int32) = nI (6 * j + 4) from nI_add _ 4, show (nI (6 * j) + 5 : Int32) = nI (6 * j + 5) from nI_add _ 5]
  exact ⟨q_inb (by omega) (by omega), q_inb (by omega) (by omega), q_inb (by omega) (by omega), q_inb (by omega) (by omega), q_inb (by omega) (by omega)⟩
theorem lw_loop {x LL : Nat} {XS : Nat → Int32} (hL : LL ≤ 3072) : ∀ (n j : Nat) (μ : Mem), LI x XS LL μ → 6 * j ≤ LL → LL + 6 ≤ 6 * j + 6 * n → L_L_law_28 ZZ n x (x + 120) (x + 132) (x + 133) (nI (6 * j)) μ := by
  intro n
  induction n with
  | zero => intro j μ _ h1 h2; omega
  | succ n ih =>
    intro j μ hLI h1 h2
    obtain ⟨⟨A, h⟩, hs, hl⟩ := hLI
    show B_L_law_28 ZZ (L_L_law_28 ZZ n) x (x + 120) (x + 132) (x + 133) (nI (6 * j)) μ
    unfold B_L_law_28
    by_cases hj : 6 * j + 6 ≤ LL
    · have hi := HI.mk hj hL
      have hk : HK (L_L_law_28 ZZ n) x XS LL (nI (6 * j)) := fun μ' h' => by
        rw [show (nI (6 * j) + 6 : Int32) = nI (6 * (j + 1)) from nI_add _ 6]
        exact ih (j + 1) μ' h' (by omega) (by omega)
      have hc : ¬ (Int32.ofNat (gL μ 1)) - (6 : Int32) < nI (6 * j) := by
        rw [hl, show Int32.ofNat LL - (6 : Int32) = nI LL - nI 6 from rfl, Int32.lt_iff_toInt_lt, pk_sub_toInt (by omega) (by decide), nI_toInt (by omega)]
        omega
      refine if_n hc ⟨(by rw [hl]; exact q_inb (by omega) (by omega)), ?_⟩
      simp only [q_dl]
      refine ifo (lc_232 h hl hs hi hk) ?_
      refine ifo (lc_305 h hl hs hi hk) ?_
      refine ifo (lc_361 h hl hs hi hk) ?_
      refine ifo (lc_374 h hl hs hi hk) ?_
      refine ifo (lc_387 h hl hs hi hk) ?_
      refine ifo (lc_400 h hl hs hi hk) ?_
      refine ifo (lc_468 h hl hs hi hk) ?_
      refine ifo (lc_535 h hl hs hi hk) ?_
      refine ifo (lc_591 h hl hs hi hk) ?_
      refine ifo (lc_647 h hl hs hi hk) ?_
      refine ifo (lc_715 h hl hs hi hk) ?_
      refine ifo (lc_794 h hl hs hi hk) ?_
      refine ifo (lc_862 h hl hs hi hk) ?_
      refine ifo (lc_939 h hl hs hi hk) ?_
      refine ifo (lc_1037 h hl hs hi hk) ?_
      refine ifo (lc_1093 h hl hs hi hk) ?_
      refine ifo (lc_1161 h hl hs hi hk) ?_
      refine ifo (lc_1217 h hl hs hi hk) ?_
      refine ifo (lc_1273 h hl hs hi hk) ?_
      refine ifo (lc_1329 h hl hs hi hk) ?_
      refine ifo (lc_1409 h hl hs hi hk) ?_
      refine ifo (lc_1489 h hl hs hi hk) ?_
      refine ifo (lc_1585 h hl hs hi hk) ?_
      refine ifo (lc_1653 h hl hs hi hk) ?_
      refine ifo (lc_1697 h hl hs hk) ?_
      refine ifo (lc_1708 h hl hs hi hk) ?_
      refine ifo (lc_1764 h hl hs hi hk) ?_
      refine ifo (lc_1808 h hl hs hi hk) ?_
      refine ifo (lc_1821 h hl hs hi hk) ?_
      refine ifo (lc_1877 h hl hs hi hk) ?_
      refine ifo (lc_1933 h hl hs hi hk) ?_
      refine ifo (lc_1996 h hl hs hi hk) ?_
      refine ifo (lc_2052 h hl hs hi hk) ?_
      refine ifo (lc_2065 h hl hs hi hk) ?_
      refine ifo (lc_2133 h hl hs hi hk) ?_
      refine ifo (lc_2189 h hl hs hi hk) ?_
      refine ifo (lc_2202 h hl hs hi hk) ?_
      refine ifo (lc_2270 h hl hs hi hk) ?_
      refine ifo (lc_2283 h hl hs hi hk) ?_
      refine ifo (lc_2339 h hl hs hi hk) ?_
      refine ifo (lc_2395 h hl hs hi hk) ?_
      refine ifo (lc_2475 h hl hs hi hk) ?_
      refine ifo (lc_2511 h hl hs hi hk) ?_
      exact hk _ ⟨⟨A, h⟩, hs, hl⟩
    · have hc : (Int32.ofNat (gL μ 1)) - (6 : Int32) < nI (6 * j) := by
        rw [hl, show Int32.ofNat LL - (6 : Int32) = nI LL - nI 6 from rfl, Int32.lt_iff_toInt_lt, pk_sub_toInt (by omega) (by decide), nI_toInt (by omega)]
        omega
      exact if_c hc rfl
theorem gI_N {μ : Mem} {k n : Nat} (h : 23 ≤ gN μ) : gI (stN μ k n) 1 = gI μ 1 := by
  funext j
  show (if 1 = gN μ then 0 else gI μ 1 j) = gI μ 1 j
  rw [if_neg (by omega)]
theorem gL_N {μ : Mem} {k n : Nat} (h : 23 ≤ gN μ) : gL (stN μ k n) 1 = gL μ 1 := by
  show (if 1 = gN μ then n else gL μ 1) = gL μ 1
  rw [if_neg (by omega)]
theorem law_holds {μ : Mem} (h23 : 23 ≤ gN μ) (hL : gL μ 1 ≤ 3072) : F_L_main μ ZZ := by
  obtain ⟨μ1, μ2, B, e1, e2, e3, e4, e5⟩ := inv_start (μ := μ) (x := gN μ) rfl h23
  unfold F_L_main
  simp only [q_dl]
  refine ⟨h23, ⟨μ1, e1, fun k1 => ⟨by omega, ?_⟩⟩⟩
  rw [e2]
  refine ⟨μ2, e3, fun k2 => ?_⟩
  have e6 : gN (stN μ2 102 1) = gN μ + 133 := by show gN μ2 + 1 = _; omega
  rw [e4, e6]
  have i1 : gI (stN (stN μ2 102 1) 104 1) 1 = gI μ 1 := by rw [gI_N (by omega), gI_N (by omega), k2.1, gI_N (by omega), k1.1, gI_N h23]
  have i2 : gL (stN (stN μ2 102 1) 104 1) 1 = gL μ 1 := by rw [gL_N (by omega), gL_N (by omega), k2.2, gL_N (by omega), k1.2, gL_N h23]
  exact lw_loop (XS := gI μ 1) (LL := gL μ 1) hL 520 0 _ ⟨⟨B, e5⟩, i1, i2⟩ (by omega) (by omega)
