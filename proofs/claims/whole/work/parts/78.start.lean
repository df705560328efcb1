/-! LAYER 3: what holds at the start -/
section STA
variable {μ : Mem} {x : Nat}
theorem inv_start (hN : gN μ = x) (h23 : 23 ≤ x) : ∃ μ1 μ2 B, F_X8_init x (stN μ 7 0) = some μ1 ∧ gN μ1 = x + 120 ∧ F_X9_init (x + 120) (stN μ1 8 0) = some μ2 ∧ gN μ2 = x + 132 ∧ INV (stN (stN μ2 102 1) 104 1) x B := by
  obtain ⟨μ1, e1, p1, n1, ⟨c1, c2, c3, c4, c5, c6, c7, c8, c9, c10, c11, c12⟩, z1, z2, z3, z4, z5⟩ := a7 (μ := stN μ 7 0) (x := x) (by rw [N_N, hN]) (N_Ks hN.symm) h23
  obtain ⟨μ2, B, e2, p2, n2, r2, b2, m2, m9, s5⟩ := a9 (μ := stN μ1 8 0) (m := x + 120) (by rw [N_N, n1]) (N_Ks n1.symm) (by omega) (N_Is n1.symm)
  have e : ∀ a, a < x + 120 → gK (stN (stN μ2 102 1) 104 1) a = gK μ1 a ∧ gL (stN (stN μ2 102 1) 104 1) a = gL μ1 a ∧ gR (stN (stN μ2 102 1) 104 1) a = gR μ1 a ∧ gI (stN (stN μ2 102 1) 104 1) a = gI μ1 a := fun a ha => by
    have n3 : gN (stN μ2 102 1) = x + 133 := by rw [N_N, n2]
    refine ⟨?_, ?_, ?_, ?_⟩
    · rw [N_K (by omega), N_K (by omega), p2.k ha, N_K (by omega)]
    · rw [N_L (by omega), N_L (by omega), p2.l ha, N_L (by omega)]
    · rw [N_R (by omega), N_R (by omega), p2.2 a ha (by omega), N_R (by omega)]
    · rw [N_I (by omega), N_I (by omega), p2.i ha, N_I (by omega)]
  have e' : ∀ a, a < x + 132 → gK (stN (stN μ2 102 1) 104 1) a = gK μ2 a ∧ gL (stN (stN μ2 102 1) 104 1) a = gL μ2 a ∧ gR (stN (stN μ2 102 1) 104 1) a = gR μ2 a ∧ gI (stN (stN μ2 102 1) 104 1) a = gI μ2 a := fun a ha => by
    have n3 : gN (stN μ2 102 1) = x + 133 := by rw [N_N, n2]
    exact ⟨by rw [N_K (by omega), N_K (by omega)], by rw [N_L (by omega), N_L (by omega)], by rw [N_R (by omega), N_R (by omega)], by rw [N_I (by omega), N_I (by omega)]⟩
  have n3 : gN (stN μ2 102 1) = x + 133 := by rw [N_N, n2]
  have k32 : gK (stN (stN μ2 102 1) 104 1) (x + 132) = 102 := by rw [N_K (by omega), N_Ks n2.symm]
  have l32 : gL (stN (stN μ2 102 1) 104 1) (x + 132) = 1 := by rw [N_L (by omega), N_Ls n2.symm]
  have k33 : gK (stN (stN μ2 102 1) 104 1) (x + 133) = 104 := N_Ks n3.symm
  have l33 : gL (stN (stN μ2 102 1) 104 1) (x + 133) = 1 := N_Ls n3.symm
  have nn : gN (stN (stN μ2 102 1) 104 1) = x + 134 := by rw [N_N, n3]
  have hm := ZR_mo c7 z3 z2
  refine ⟨μ1, μ2, B, e1, n1, e2, n2, ?_⟩
  generalize stN (stN μ2 102 1) 104 1 = μ3 at *
  have ex : ∀ a, a < x + 120 → gK μ3 a = gK μ1 a ∧ gL μ3 a = gL μ1 a ∧ gR μ3 a = gR μ1 a := fun a ha => ⟨(e a ha).1, (e a ha).2.1, (e a ha).2.2.1⟩
  have g119 := (ex (x + 119) (by omega)).2.2
  have x0 := ex x (by omega)
  have hs : gR μ3 (x + 119) = fun _ => 0 := g119.trans z1
  have i1 : gI μ3 (x + 1) = fun _ => nI 0 := (e (x + 1) (by omega)).2.2.2.trans z4
  have i120 : gI μ3 (x + 120) = gI μ2 (x + 120) := (e' _ (by omega)).2.2.2
  refine ⟨⟨x0.1.trans c1, by rw [x0.2.2]; exact c2, by rw [x0.2.2]; exact c3, by rw [x0.2.2]; exact c4, by rw [x0.2.2]; exact c5, by rw [x0.2.2]; exact c6, c7.ext (fun a a1 a2 => ex a (by omega)), c8.ext (fun a a1 a2 => ex a (by omega)), c9.ext (fun a a1 a2 => ex a (by omega)), (ex _ (by omega)).1.trans c10, (ex _ (by omega)).2.1.trans c11, r2.1.ext (fun a a1 a2 => ⟨(e' a (by omega)).1, (e' a (by omega)).2.1, (e' a (by omega)).2.2.1⟩), c12.ext (fun a a1 a2 => ex a (by omega)), k32, l32, k33, l33, by omega, h23⟩, ?_, (e' _ (by omega)).2.2.2.trans r2.2, ⟨fun i hi => Or.inl ⟨by rw [hs], ?_⟩, fun i j _ _ _ q _ => absurd (by rw [hs]) q⟩, ⟨⟨0, by omega, by rw [i1], ?_, fun k hk => absurd hk (by omega)⟩, fun k hk => ?_⟩, ?_, ?_⟩
  · rw [BB.ext b2]
    exact (hm.mv (fun a a1 a2 => ex a (by omega)) (fun a a1 a2 => (e a (by omega)).2.2.2)).ext b2
  · rw [(e' (x + 125) (by omega)).2.2.2, show x + 125 = x + 120 + 5 from rfl, s5]
  · rw [i120]; exact m2 7 (by decide)
  · rw [(e _ (by omega)).2.2.2]; exact z5 k hk
  · rw [i1, i120]; exact (m2 8 (by decide)).symm
  · exact Or.inl ⟨by rw [i1], by rw [i120]; exact m9⟩
end STA
