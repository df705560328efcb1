/-! LAYER 3: the plugboard that is read keeps to its limits -/
def W0 (A : SA) (i : Nat) : Prop := isN (A (9 + 2 * i)) 1 20 ∧ isN (A (9 + 2 * i + 1)) (fr A i) (min 20 (fr A i + 8))
def W1 (A : SA) (i : Nat) : Prop := isN (A (25 + 3 * i)) 1 20 ∧ isN (A (25 + 3 * i + 1)) 0 10 ∧ isN (A (25 + 3 * i + 2)) 0 1
def W2 (A : SA) (i : Nat) : Prop := isN (A (43 + 5 * i)) 1 9 ∧ (isN (A (43 + 5 * i + 1)) 0 7 ∧ nt (A (43 + 5 * i + 1)) < nt (A 0)) ∧ isN (A (43 + 5 * i + 2)) 0 2 ∧ (A (43 + 5 * i + 3) = -nI 1 ∨ (isN (A (43 + 5 * i + 3)) 0 5 ∧ nt (A (43 + 5 * i + 3)) < nt (A 1))) ∧ isN (A (43 + 5 * i + 4)) 0 1
def W3 (A : SA) (l : Nat) : Prop := A (73 + l - 1) = -nI 1 ∨ (isN (A (73 + l - 1)) 0 7 ∧ nt (A (73 + l - 1)) < nt (A 0))
def W4 (A : SA) (i : Nat) : Prop := (isN (A (76 + 2 * i)) 0 7 ∧ nt (A (76 + 2 * i)) < nt (A 0)) ∧ isN (A (76 + 2 * i + 1)) 1 40
def W5 (A : SA) (i : Nat) : Prop := isN (A (100 + 3 * i)) 1 3 ∧ (isN (A (100 + 3 * i + 1)) 0 5 ∧ nt (A (100 + 3 * i + 1)) < nt (A 2)) ∧ isN (A (100 + 3 * i + 2)) 1 40
def W6 (A : SA) (i : Nat) : Prop := isN (A (136 + 3 * i)) 1 3 ∧ (isN (A (136 + 3 * i + 1)) 0 5 ∧ nt (A (136 + 3 * i + 1)) < nt (A 2)) ∧ isN (A (136 + 3 * i + 2)) 0 5 ∧ nt (A (136 + 3 * i + 2)) < nt (A 2)
def W7 (A : SA) (i : Nat) : Prop := isN (A (160 + 2 * i)) 1 3 ∧ isN (A (160 + 2 * i + 1)) 0 5 ∧ nt (A (160 + 2 * i + 1)) < nt (A 2)
def W8 (A : SA) (i : Nat) : Prop := isN (A (176 + 3 * i)) 1 3 ∧ (isN (A (176 + 3 * i + 1)) 0 13 ∧ ((nt (A (176 + 3 * i + 1)) < 8 ∧ nt (A (176 + 3 * i + 1)) < nt (A 0)) ∨ (8 ≤ nt (A (176 + 3 * i + 1)) ∧ nt (A (176 + 3 * i + 1)) - 8 < nt (A 2)))) ∧ isN (A (176 + 3 * i + 2)) 1 20
theorem wb_grow {A A' : SA} (w : WB A) (e0 : isN (A' 0) 0 8) (e1 : isN (A' 1) 0 6) (e2 : isN (A' 2) 0 6) (e3 : isN (A' 3) 0 12) (e4 : isN (A' 4) 0 12) (e5 : isN (A' 5) 0 8) (e6 : isN (A' 6) 0 8) (e7 : isN (A' 7) 0 8) (e8 : isN (A' 8) 0 40) (l0 : nt (A 0) ≤ nt (A' 0)) (l1 : nt (A 1) ≤ nt (A' 1)) (l2 : nt (A 2) ≤ nt (A' 2))
    (f0 : ∀ i, i < nt (A' 0) → (i < nt (A 0) ∧ A' (9 + 2 * i) = A (9 + 2 * i) ∧ A' (9 + 2 * i + 1) = A (9 + 2 * i + 1)) ∨ W0 A' i)
    (f1 : ∀ i, i < nt (A' 1) → (i < nt (A 1) ∧ A' (25 + 3 * i) = A (25 + 3 * i) ∧ A' (25 + 3 * i + 1) = A (25 + 3 * i + 1) ∧ A' (25 + 3 * i + 2) = A (25 + 3 * i + 2)) ∨ W1 A' i)
    (f2 : ∀ i, i < nt (A' 2) → (i < nt (A 2) ∧ A' (43 + 5 * i) = A (43 + 5 * i) ∧ A' (43 + 5 * i + 1) = A (43 + 5 * i + 1) ∧ A' (43 + 5 * i + 2) = A (43 + 5 * i + 2) ∧ A' (43 + 5 * i + 3) = A (43 + 5 * i + 3) ∧ A' (43 + 5 * i + 4) = A (43 + 5 * i + 4)) ∨ W2 A' i)
    (f3 : ∀ i, i < nt (A' 3) → (i < nt (A 3) ∧ A' (76 + 2 * i) = A (76 + 2 * i) ∧ A' (76 + 2 * i + 1) = A (76 + 2 * i + 1)) ∨ W4 A' i)
    (f4 : ∀ i, i < nt (A' 4) → (i < nt (A 4) ∧ A' (100 + 3 * i) = A (100 + 3 * i) ∧ A' (100 + 3 * i + 1) = A (100 + 3 * i + 1) ∧ A' (100 + 3 * i + 2) = A (100 + 3 * i + 2)) ∨ W5 A' i)
    (f5 : ∀ i, i < nt (A' 5) → (i < nt (A 5) ∧ A' (136 + 3 * i) = A (136 + 3 * i) ∧ A' (136 + 3 * i + 1) = A (136 + 3 * i + 1) ∧ A' (136 + 3 * i + 2) = A (136 + 3 * i + 2)) ∨ W6 A' i)
    (f6 : ∀ i, i < nt (A' 6) → (i < nt (A 6) ∧ A' (160 + 2 * i) = A (160 + 2 * i) ∧ A' (160 + 2 * i + 1) = A (160 + 2 * i + 1)) ∨ W7 A' i)
    (f7 : ∀ i, i < nt (A' 7) → (i < nt (A 7) ∧ A' (176 + 3 * i) = A (176 + 3 * i) ∧ A' (176 + 3 * i + 1) = A (176 + 3 * i + 1) ∧ A' (176 + 3 * i + 2) = A (176 + 3 * i + 2)) ∨ W8 A' i)
    (fc : ∀ l, 1 ≤ l → l ≤ 3 → A' (73 + l - 1) = A (73 + l - 1) ∨ W3 A' l)
    (fd : ∀ i k, i < nt (A' 8) → 1 ≤ k → k ≤ 20 → (i < nt (A 8) ∧ A' (200 + 20 * i + k - 1) = A (200 + 20 * i + k - 1)) ∨ lc (A' (200 + 20 * i + k - 1))) : WB A' := by
  obtain ⟨-, -, -, -, -, -, -, -, -, w0, w1, w2, wc, w3, w4, w5, w6, w7, wd⟩ := w
  refine ⟨e0, e1, e2, e3, e4, e5, e6, e7, e8, fun i hi => ?_, fun i hi => ?_, fun i hi => ?_, fun l l1' l2' => ?_, fun i hi => ?_, fun i hi => ?_, fun i hi => ?_, fun i hi => ?_, fun i hi => ?_, fun i k hi k1 k2 => ?_⟩
  · rcases f0 i hi with ⟨h1, h2, h3⟩ | h
    · unfold fr; rw [h2, h3]; exact w0 i h1
    · exact h
  · rcases f1 i hi with ⟨h1, h2, h3, h4⟩ | h
    · rw [h2, h3, h4]; exact w1 i h1
    · exact h
  · rcases f2 i hi with ⟨h1, h2, h3, h4, h5, h6⟩ | h
    · rw [h2, h3, h4, h5, h6]
      obtain ⟨a1, ⟨a2, a3⟩, a4, a5, a6⟩ := w2 i h1
      exact ⟨a1, ⟨a2, by omega⟩, a4, a5.imp id (fun q => ⟨q.1, by have := q.2; omega⟩), a6⟩
    · exact h
  · rcases fc l l1' l2' with h | h
    · rw [h]; exact (wc l l1' l2').imp id (fun q => ⟨q.1, by have := q.2; omega⟩)
    · exact h
  · rcases f3 i hi with ⟨h1, h2, h3⟩ | h
    · rw [h2, h3]
      obtain ⟨⟨a1, a2⟩, a3⟩ := w3 i h1
      exact ⟨⟨a1, by omega⟩, a3⟩
    · exact h
  · rcases f4 i hi with ⟨h1, h2, h3, h4⟩ | h
    · rw [h2, h3, h4]
      obtain ⟨a1, ⟨a2, a3⟩, a4⟩ := w4 i h1
      exact ⟨a1, ⟨a2, by omega⟩, a4⟩
    · exact h
  · rcases f5 i hi with ⟨h1, h2, h3, h4⟩ | h
    · rw [h2, h3, h4]
      obtain ⟨a1, ⟨a2, a3⟩, a4, a5⟩ := w5 i h1
      exact ⟨a1, ⟨a2, by omega⟩, a4, by omega⟩
    · exact h
  · rcases f6 i hi with ⟨h1, h2, h3⟩ | h
    · rw [h2, h3]
      obtain ⟨a1, a2, a3⟩ := w6 i h1
      exact ⟨a1, a2, by omega⟩
    · exact h
  · rcases f7 i hi with ⟨h1, h2, h3, h4⟩ | h
    · rw [h2, h3, h4]
      obtain ⟨a1, ⟨a2, a3⟩, a4⟩ := w7 i h1
      exact ⟨a1, ⟨a2, by omega⟩, a4⟩
    · exact h
  · rcases fd i k hi k1 k2 with ⟨h1, h2⟩ | h
    · rw [h2]; exact wd i k h1 k1 k2
    · exact h
def PK (A : SA) : Prop := ∀ i, i < nt (A 7) → A (10000 + 5 * i) = A (176 + 3 * i) ∧ A (10000 + 5 * i + 3) = A (176 + 3 * i + 2) ∧
  ((nt (A (176 + 3 * i + 1)) < 8 ∧ A (10000 + 5 * i + 1) = nI 1 ∧ A (10000 + 5 * i + 2) = A (176 + 3 * i + 1)) ∨ (8 ≤ nt (A (176 + 3 * i + 1)) ∧ A (10000 + 5 * i + 1) = nI 0 ∧ A (10000 + 5 * i + 2) = nI (nt (A (176 + 3 * i + 1)) - 8)))
def VA (A : SA) (nc : Nat → Nat) : Prop := WB A ∧ PK A ∧ ∀ t, t < 3 → nc t = nt (A t)
theorem isN_of {lo hi v : Nat} (h1 : lo ≤ v) (h2 : v ≤ hi) : isN (nI v) lo hi := ⟨v, rfl, h1, h2⟩
theorem wb_field {A A' : SA} (w : WB A) (hc : nt (A 0) < 8) (hk : A' 0 = nI (nt (A 0) + 1)) (hE : ∀ i, ¬ i = 0 → ¬ (9 + 2 * nt (A 0) ≤ i ∧ i < 9 + 2 * nt (A 0) + 2) → A' i = A i) {a z : Nat} (h0 : A' (9 + 2 * nt (A 0)) = nI a) (h1 : A' (9 + 2 * nt (A 0) + 1) = nI z) (b0 : 1 ≤ a ∧ a ≤ 20) (b1 : a ≤ z ∧ z ≤ min 20 (a + 8)) : WB A' := by
  have c0 := w.c0.2
  have c1 := w.c1.2
  have c2 := w.c2.2
  have c3 := w.c3.2
  have c4 := w.c4.2
  have c5 := w.c5.2
  have c6 := w.c6.2
  have c7 := w.c7.2
  have c8 := w.c8.2
  refine wb_grow w ?e0 ?e1 ?e2 ?e3 ?e4 ?e5 ?e6 ?e7 ?e8 ?l0 ?l1 ?l2 ?f0 ?f1 ?f2 ?f3 ?f4 ?f5 ?f6 ?f7 ?fc ?fd
  case e0 => rw [hk]; exact isN_of (Nat.zero_le _) (by omega)
  case e1 => rw [hE 1 (by omega) (by omega)]; exact w.2.1
  case e2 => rw [hE 2 (by omega) (by omega)]; exact w.2.2.1
  case e3 => rw [hE 3 (by omega) (by omega)]; exact w.2.2.2.1
  case e4 => rw [hE 4 (by omega) (by omega)]; exact w.2.2.2.2.1
  case e5 => rw [hE 5 (by omega) (by omega)]; exact w.2.2.2.2.2.1
  case e6 => rw [hE 6 (by omega) (by omega)]; exact w.2.2.2.2.2.2.1
  case e7 => rw [hE 7 (by omega) (by omega)]; exact w.2.2.2.2.2.2.2.1
  case e8 => rw [hE 8 (by omega) (by omega)]; exact w.2.2.2.2.2.2.2.2.1
  case l0 => rw [hk, nt_nI (by omega)]; omega
  case l1 => rw [hE 1 (by omega) (by omega)]; exact Nat.le_refl _
  case l2 => rw [hE 2 (by omega) (by omega)]; exact Nat.le_refl _
  case f0 =>
    intro i hi
    rw [hk, nt_nI (by omega)] at hi
    by_cases hic : i = nt (A 0)
    · right
      subst hic
      refine ⟨?_, ?_⟩
      · rw [h0]; exact isN_of b0.1 b0.2
      · unfold fr; rw [h0, h1, nt_nI (by omega)]; exact isN_of b1.1 b1.2
    · exact Or.inl ⟨by omega, hE _ (by omega) (by omega), hE _ (by omega) (by omega)⟩
  case f1 =>
    intro i hi
    rw [hE 1 (by omega) (by omega)] at hi
    exact Or.inl ⟨hi, hE _ (by omega) (by omega), hE _ (by omega) (by omega), hE _ (by omega) (by omega)⟩
  case f2 =>
    intro i hi
    rw [hE 2 (by omega) (by omega)] at hi
    exact Or.inl ⟨hi, hE _ (by omega) (by omega), hE _ (by omega) (by omega), hE _ (by omega) (by omega), hE _ (by omega) (by omega), hE _ (by omega) (by omega)⟩
  case f3 =>
    intro i hi
    rw [hE 3 (by omega) (by omega)] at hi
    exact Or.inl ⟨hi, hE _ (by omega) (by omega), hE _ (by omega) (by omega)⟩
  case f4 =>
    intro i hi
    rw [hE 4 (by omega) (by omega)] at hi
    exact Or.inl ⟨hi, hE _ (by omega) (by omega), hE _ (by omega) (by omega), hE _ (by omega) (by omega)⟩
  case f5 =>
    intro i hi
    rw [hE 5 (by omega) (by omega)] at hi
    exact Or.inl ⟨hi, hE _ (by omega) (by omega), hE _ (by omega) (by omega), hE _ (by omega) (by omega)⟩
  case f6 =>
    intro i hi
    rw [hE 6 (by omega) (by omega)] at hi
    exact Or.inl ⟨hi, hE _ (by omega) (by omega), hE _ (by omega) (by omega)⟩
  case f7 =>
    intro i hi
    rw [hE 7 (by omega) (by omega)] at hi
    exact Or.inl ⟨hi, hE _ (by omega) (by omega), hE _ (by omega) (by omega), hE _ (by omega) (by omega)⟩
  case fc => exact fun l l1 l2 => Or.inl (hE _ (by omega) (by omega))
  case fd =>
    intro i k hi k1 k2
    rw [hE 8 (by omega) (by omega)] at hi
    exact Or.inl ⟨hi, hE _ (by omega) (by omega)⟩
theorem wb_sel {A A' : SA} (w : WB A) (hc : nt (A 1) < 6) (hk : A' 1 = nI (nt (A 1) + 1)) (hE : ∀ i, ¬ i = 1 → ¬ (25 + 3 * nt (A 1) ≤ i ∧ i < 25 + 3 * nt (A 1) + 3) → A' i = A i) {u v x : Nat} (h0 : A' (25 + 3 * nt (A 1)) = nI u) (h1 : A' (25 + 3 * nt (A 1) + 1) = nI v) (h2 : A' (25 + 3 * nt (A 1) + 2) = nI x) (b0 : 1 ≤ u ∧ u ≤ 20) (b1 : v ≤ 10) (b2 : x ≤ 1) : WB A' := by
  have c0 := w.c0.2
  have c1 := w.c1.2
  have c2 := w.c2.2
  have c3 := w.c3.2
  have c4 := w.c4.2
  have c5 := w.c5.2
  have c6 := w.c6.2
  have c7 := w.c7.2
  have c8 := w.c8.2
  refine wb_grow w ?e0 ?e1 ?e2 ?e3 ?e4 ?e5 ?e6 ?e7 ?e8 ?l0 ?l1 ?l2 ?f0 ?f1 ?f2 ?f3 ?f4 ?f5 ?f6 ?f7 ?fc ?fd
  case e0 => rw [hE 0 (by omega) (by omega)]; exact w.1
  case e1 => rw [hk]; exact isN_of (Nat.zero_le _) (by omega)
  case e2 => rw [hE 2 (by omega) (by omega)]; exact w.2.2.1
  case e3 => rw [hE 3 (by omega) (by omega)]; exact w.2.2.2.1
  case e4 => rw [hE 4 (by omega) (by omega)]; exact w.2.2.2.2.1
  case e5 => rw [hE 5 (by omega) (by omega)]; exact w.2.2.2.2.2.1
  case e6 => rw [hE 6 (by omega) (by omega)]; exact w.2.2.2.2.2.2.1
  case e7 => rw [hE 7 (by omega) (by omega)]; exact w.2.2.2.2.2.2.2.1
  case e8 => rw [hE 8 (by omega) (by omega)]; exact w.2.2.2.2.2.2.2.2.1
  case l0 => rw [hE 0 (by omega) (by omega)]; exact Nat.le_refl _
  case l1 => rw [hk, nt_nI (by omega)]; omega
  case l2 => rw [hE 2 (by omega) (by omega)]; exact Nat.le_refl _
  case f0 =>
    intro i hi
    rw [hE 0 (by omega) (by omega)] at hi
    exact Or.inl ⟨hi, hE _ (by omega) (by omega), hE _ (by omega) (by omega)⟩
  case f1 =>
    intro i hi
    rw [hk, nt_nI (by omega)] at hi
    by_cases hic : i = nt (A 1)
    · right
      subst hic
      refine ⟨?_, ?_, ?_⟩
      · rw [h0]; exact isN_of b0.1 b0.2
      · rw [h1]; exact isN_of (Nat.zero_le _) b1
      · rw [h2]; exact isN_of (Nat.zero_le _) b2
    · exact Or.inl ⟨by omega, hE _ (by omega) (by omega), hE _ (by omega) (by omega), hE _ (by omega) (by omega)⟩
  case f2 =>
    intro i hi
    rw [hE 2 (by omega) (by omega)] at hi
    exact Or.inl ⟨hi, hE _ (by omega) (by omega), hE _ (by omega) (by omega), hE _ (by omega) (by omega), hE _ (by omega) (by omega), hE _ (by omega) (by omega)⟩
  case f3 =>
    intro i hi
    rw [hE 3 (by omega) (by omega)] at hi
    exact Or.inl ⟨hi, hE _ (by omega) (by omega), hE _ (by omega) (by omega)⟩
  case f4 =>
    intro i hi
    rw [hE 4 (by omega) (by omega)] at hi
    exact Or.inl ⟨hi, hE _ (by omega) (by omega), hE _ (by omega) (by omega), hE _ (by omega) (by omega)⟩
  case f5 =>
    intro i hi
    rw [hE 5 (by omega) (by omega)] at hi
    exact Or.inl ⟨hi, hE _ (by omega) (by omega), hE _ (by omega) (by omega), hE _ (by omega) (by omega)⟩
  case f6 =>
    intro i hi
    rw [hE 6 (by omega) (by omega)] at hi
    exact Or.inl ⟨hi, hE _ (by omega) (by omega), hE _ (by omega) (by omega)⟩
  case f7 =>
    intro i hi
    rw [hE 7 (by omega) (by omega)] at hi
    exact Or.inl ⟨hi, hE _ (by omega) (by omega), hE _ (by omega) (by omega), hE _ (by omega) (by omega)⟩
  case fc => exact fun l l1 l2 => Or.inl (hE _ (by omega) (by omega))
  case fd =>
    intro i k hi k1 k2
    rw [hE 8 (by omega) (by omega)] at hi
    exact Or.inl ⟨hi, hE _ (by omega) (by omega)⟩
theorem wb_ctr {A A' : SA} (w : WB A) (hc : nt (A 2) < 6) (hk : A' 2 = nI (nt (A 2) + 1)) (hE : ∀ i, ¬ i = 2 → ¬ (43 + 5 * nt (A 2) ≤ i ∧ i < 43 + 5 * nt (A 2) + 5) → A' i = A i) {u v x y : Nat} {z : Int32} (h0 : A' (43 + 5 * nt (A 2)) = nI u) (h1 : A' (43 + 5 * nt (A 2) + 1) = nI v) (h2 : A' (43 + 5 * nt (A 2) + 2) = nI x) (h3 : A' (43 + 5 * nt (A 2) + 3) = z) (h4 : A' (43 + 5 * nt (A 2) + 4) = nI y) (b0 : 1 ≤ u ∧ u ≤ 9) (b1 : v < nt (A 0)) (b2 : x ≤ 2) (b3 : z = -nI 1 ∨ ∃ r, z = nI r ∧ r < nt (A 1)) (b4 : y ≤ 1) : WB A' := by
  have c0 := w.c0.2
  have c1 := w.c1.2
  have c2 := w.c2.2
  have c3 := w.c3.2
  have c4 := w.c4.2
  have c5 := w.c5.2
  have c6 := w.c6.2
  have c7 := w.c7.2
  have c8 := w.c8.2
  refine wb_grow w ?e0 ?e1 ?e2 ?e3 ?e4 ?e5 ?e6 ?e7 ?e8 ?l0 ?l1 ?l2 ?f0 ?f1 ?f2 ?f3 ?f4 ?f5 ?f6 ?f7 ?fc ?fd
  case e0 => rw [hE 0 (by omega) (by omega)]; exact w.1
  case e1 => rw [hE 1 (by omega) (by omega)]; exact w.2.1
  case e2 => rw [hk]; exact isN_of (Nat.zero_le _) (by omega)
  case e3 => rw [hE 3 (by omega) (by omega)]; exact w.2.2.2.1
  case e4 => rw [hE 4 (by omega) (by omega)]; exact w.2.2.2.2.1
  case e5 => rw [hE 5 (by omega) (by omega)]; exact w.2.2.2.2.2.1
  case e6 => rw [hE 6 (by omega) (by omega)]; exact w.2.2.2.2.2.2.1
  case e7 => rw [hE 7 (by omega) (by omega)]; exact w.2.2.2.2.2.2.2.1
  case e8 => rw [hE 8 (by omega) (by omega)]; exact w.2.2.2.2.2.2.2.2.1
  case l0 => rw [hE 0 (by omega) (by omega)]; exact Nat.le_refl _
  case l1 => rw [hE 1 (by omega) (by omega)]; exact Nat.le_refl _
  case l2 => rw [hk, nt_nI (by omega)]; omega
  case f0 =>
    intro i hi
    rw [hE 0 (by omega) (by omega)] at hi
    exact Or.inl ⟨hi, hE _ (by omega) (by omega), hE _ (by omega) (by omega)⟩
  case f1 =>
    intro i hi
    rw [hE 1 (by omega) (by omega)] at hi
    exact Or.inl ⟨hi, hE _ (by omega) (by omega), hE _ (by omega) (by omega), hE _ (by omega) (by omega)⟩
  case f2 =>
    intro i hi
    rw [hk, nt_nI (by omega)] at hi
    by_cases hic : i = nt (A 2)
    · right
      subst hic
      refine ⟨?_, ⟨?_, ?_⟩, ?_, ?_, ?_⟩
      · rw [h0]; exact isN_of b0.1 b0.2
      · rw [h1]; exact isN_of (Nat.zero_le _) (by omega)
      · rw [h1, nt_nI (by omega), hE 0 (by omega) (by omega)]; exact b1
      · rw [h2]; exact isN_of (Nat.zero_le _) b2
      · rw [h3]
        rcases b3 with b3 | ⟨r, b3, b5⟩
        · exact Or.inl b3
        · right
          rw [b3, nt_nI (by omega), hE 1 (by omega) (by omega)]
          exact ⟨isN_of (Nat.zero_le _) (by omega), b5⟩
      · rw [h4]; exact isN_of (Nat.zero_le _) b4
    · exact Or.inl ⟨by omega, hE _ (by omega) (by omega), hE _ (by omega) (by omega), hE _ (by omega) (by omega), hE _ (by omega) (by omega), hE _ (by omega) (by omega)⟩
  case f3 =>
    intro i hi
    rw [hE 3 (by omega) (by omega)] at hi
    exact Or.inl ⟨hi, hE _ (by omega) (by omega), hE _ (by omega) (by omega)⟩
  case f4 =>
    intro i hi
    rw [hE 4 (by omega) (by omega)] at hi
    exact Or.inl ⟨hi, hE _ (by omega) (by omega), hE _ (by omega) (by omega), hE _ (by omega) (by omega)⟩
  case f5 =>
    intro i hi
    rw [hE 5 (by omega) (by omega)] at hi
    exact Or.inl ⟨hi, hE _ (by omega) (by omega), hE _ (by omega) (by omega), hE _ (by omega) (by omega)⟩
  case f6 =>
    intro i hi
    rw [hE 6 (by omega) (by omega)] at hi
    exact Or.inl ⟨hi, hE _ (by omega) (by omega), hE _ (by omega) (by omega)⟩
  case f7 =>
    intro i hi
    rw [hE 7 (by omega) (by omega)] at hi
    exact Or.inl ⟨hi, hE _ (by omega) (by omega), hE _ (by omega) (by omega), hE _ (by omega) (by omega)⟩
  case fc => exact fun l l1 l2 => Or.inl (hE _ (by omega) (by omega))
  case fd =>
    intro i k hi k1 k2
    rw [hE 8 (by omega) (by omega)] at hi
    exact Or.inl ⟨hi, hE _ (by omega) (by omega)⟩
theorem wb_lst {A A' : SA} (w : WB A) (hc : nt (A 3) < 12) (hk : A' 3 = nI (nt (A 3) + 1)) (hE : ∀ i, ¬ i = 3 → ¬ (76 + 2 * nt (A 3) ≤ i ∧ i < 76 + 2 * nt (A 3) + 2) → A' i = A i) {u v : Nat} (h0 : A' (76 + 2 * nt (A 3)) = nI u) (h1 : A' (76 + 2 * nt (A 3) + 1) = nI v) (b0 : u < nt (A 0)) (b1 : 1 ≤ v ∧ v ≤ 40) : WB A' := by
  have c0 := w.c0.2
  have c1 := w.c1.2
  have c2 := w.c2.2
  have c3 := w.c3.2
  have c4 := w.c4.2
  have c5 := w.c5.2
  have c6 := w.c6.2
  have c7 := w.c7.2
  have c8 := w.c8.2
  refine wb_grow w ?e0 ?e1 ?e2 ?e3 ?e4 ?e5 ?e6 ?e7 ?e8 ?l0 ?l1 ?l2 ?f0 ?f1 ?f2 ?f3 ?f4 ?f5 ?f6 ?f7 ?fc ?fd
  case e0 => rw [hE 0 (by omega) (by omega)]; exact w.1
  case e1 => rw [hE 1 (by omega) (by omega)]; exact w.2.1
  case e2 => rw [hE 2 (by omega) (by omega)]; exact w.2.2.1
  case e3 => rw [hk]; exact isN_of (Nat.zero_le _) (by omega)
  case e4 => rw [hE 4 (by omega) (by omega)]; exact w.2.2.2.2.1
  case e5 => rw [hE 5 (by omega) (by omega)]; exact w.2.2.2.2.2.1
  case e6 => rw [hE 6 (by omega) (by omega)]; exact w.2.2.2.2.2.2.1
  case e7 => rw [hE 7 (by omega) (by omega)]; exact w.2.2.2.2.2.2.2.1
  case e8 => rw [hE 8 (by omega) (by omega)]; exact w.2.2.2.2.2.2.2.2.1
  case l0 => rw [hE 0 (by omega) (by omega)]; exact Nat.le_refl _
  case l1 => rw [hE 1 (by omega) (by omega)]; exact Nat.le_refl _
  case l2 => rw [hE 2 (by omega) (by omega)]; exact Nat.le_refl _
  case f0 =>
    intro i hi
    rw [hE 0 (by omega) (by omega)] at hi
    exact Or.inl ⟨hi, hE _ (by omega) (by omega), hE _ (by omega) (by omega)⟩
  case f1 =>
    intro i hi
    rw [hE 1 (by omega) (by omega)] at hi
    exact Or.inl ⟨hi, hE _ (by omega) (by omega), hE _ (by omega) (by omega), hE _ (by omega) (by omega)⟩
  case f2 =>
    intro i hi
    rw [hE 2 (by omega) (by omega)] at hi
    exact Or.inl ⟨hi, hE _ (by omega) (by omega), hE _ (by omega) (by omega), hE _ (by omega) (by omega), hE _ (by omega) (by omega), hE _ (by omega) (by omega)⟩
  case f3 =>
    intro i hi
    rw [hk, nt_nI (by omega)] at hi
    by_cases hic : i = nt (A 3)
    · right
      subst hic
      refine ⟨⟨?_, ?_⟩, ?_⟩
      · rw [h0]; exact isN_of (Nat.zero_le _) (by omega)
      · rw [h0, nt_nI (by omega), hE 0 (by omega) (by omega)]; exact b0
      · rw [h1]; exact isN_of b1.1 b1.2
    · exact Or.inl ⟨by omega, hE _ (by omega) (by omega), hE _ (by omega) (by omega)⟩
  case f4 =>
    intro i hi
    rw [hE 4 (by omega) (by omega)] at hi
    exact Or.inl ⟨hi, hE _ (by omega) (by omega), hE _ (by omega) (by omega), hE _ (by omega) (by omega)⟩
  case f5 =>
    intro i hi
    rw [hE 5 (by omega) (by omega)] at hi
    exact Or.inl ⟨hi, hE _ (by omega) (by omega), hE _ (by omega) (by omega), hE _ (by omega) (by omega)⟩
  case f6 =>
    intro i hi
    rw [hE 6 (by omega) (by omega)] at hi
    exact Or.inl ⟨hi, hE _ (by omega) (by omega), hE _ (by omega) (by omega)⟩
  case f7 =>
    intro i hi
    rw [hE 7 (by omega) (by omega)] at hi
    exact Or.inl ⟨hi, hE _ (by omega) (by omega), hE _ (by omega) (by omega), hE _ (by omega) (by omega)⟩
  case fc => exact fun l l1 l2 => Or.inl (hE _ (by omega) (by omega))
  case fd =>
    intro i k hi k1 k2
    rw [hE 8 (by omega) (by omega)] at hi
    exact Or.inl ⟨hi, hE _ (by omega) (by omega)⟩
theorem wb_tot {A A' : SA} (w : WB A) (hc : nt (A 4) < 12) (hk : A' 4 = nI (nt (A 4) + 1)) (hE : ∀ i, ¬ i = 4 → ¬ (100 + 3 * nt (A 4) ≤ i ∧ i < 100 + 3 * nt (A 4) + 3) → A' i = A i) {u v x : Nat} (h0 : A' (100 + 3 * nt (A 4)) = nI u) (h1 : A' (100 + 3 * nt (A 4) + 1) = nI v) (h2 : A' (100 + 3 * nt (A 4) + 2) = nI x) (b0 : 1 ≤ u ∧ u ≤ 3) (b1 : v < nt (A 2)) (b2 : 1 ≤ x ∧ x ≤ 40) : WB A' := by
  have c0 := w.c0.2
  have c1 := w.c1.2
  have c2 := w.c2.2
  have c3 := w.c3.2
  have c4 := w.c4.2
  have c5 := w.c5.2
  have c6 := w.c6.2
  have c7 := w.c7.2
  have c8 := w.c8.2
  refine wb_grow w ?e0 ?e1 ?e2 ?e3 ?e4 ?e5 ?e6 ?e7 ?e8 ?l0 ?l1 ?l2 ?f0 ?f1 ?f2 ?f3 ?f4 ?f5 ?f6 ?f7 ?fc ?fd
  case e0 => rw [hE 0 (by omega) (by omega)]; exact w.1
  case e1 => rw [hE 1 (by omega) (by omega)]; exact w.2.1
  case e2 => rw [hE 2 (by omega) (by omega)]; exact w.2.2.1
  case e3 => rw [hE 3 (by omega) (by omega)]; exact w.2.2.2.1
  case e4 => rw [hk]; exact isN_of (Nat.zero_le _) (by omega)
  case e5 => rw [hE 5 (by omega) (by omega)]; exact w.2.2.2.2.2.1
  case e6 => rw [hE 6 (by omega) (by omega)]; exact w.2.2.2.2.2.2.1
  case e7 => rw [hE 7 (by omega) (by omega)]; exact w.2.2.2.2.2.2.2.1
  case e8 => rw [hE 8 (by omega) (by omega)]; exact w.2.2.2.2.2.2.2.2.1
  case l0 => rw [hE 0 (by omega) (by omega)]; exact Nat.le_refl _
  case l1 => rw [hE 1 (by omega) (by omega)]; exact Nat.le_refl _
  case l2 => rw [hE 2 (by omega) (by omega)]; exact Nat.le_refl _
  case f0 =>
    intro i hi
    rw [hE 0 (by omega) (by omega)] at hi
    exact Or.inl ⟨hi, hE _ (by omega) (by omega), hE _ (by omega) (by omega)⟩
  case f1 =>
    intro i hi
    rw [hE 1 (by omega) (by omega)] at hi
    exact Or.inl ⟨hi, hE _ (by omega) (by omega), hE _ (by omega) (by omega), hE _ (by omega) (by omega)⟩
  case f2 =>
    intro i hi
    rw [hE 2 (by omega) (by omega)] at hi
    exact Or.inl ⟨hi, hE _ (by omega) (by omega), hE _ (by omega) (by omega), hE _ (by omega) (by omega), hE _ (by omega) (by omega), hE _ (by omega) (by omega)⟩
  case f3 =>
    intro i hi
    rw [hE 3 (by omega) (by omega)] at hi
    exact Or.inl ⟨hi, hE _ (by omega) (by omega), hE _ (by omega) (by omega)⟩
  case f4 =>
    intro i hi
    rw [hk, nt_nI (by omega)] at hi
    by_cases hic : i = nt (A 4)
    · right
      subst hic
      refine ⟨?_, ⟨?_, ?_⟩, ?_⟩
      · rw [h0]; exact isN_of b0.1 b0.2
      · rw [h1]; exact isN_of (Nat.zero_le _) (by omega)
      · rw [h1, nt_nI (by omega), hE 2 (by omega) (by omega)]; exact b1
      · rw [h2]; exact isN_of b2.1 b2.2
    · exact Or.inl ⟨by omega, hE _ (by omega) (by omega), hE _ (by omega) (by omega), hE _ (by omega) (by omega)⟩
  case f5 =>
    intro i hi
    rw [hE 5 (by omega) (by omega)] at hi
    exact Or.inl ⟨hi, hE _ (by omega) (by omega), hE _ (by omega) (by omega), hE _ (by omega) (by omega)⟩
  case f6 =>
    intro i hi
    rw [hE 6 (by omega) (by omega)] at hi
    exact Or.inl ⟨hi, hE _ (by omega) (by omega), hE _ (by omega) (by omega)⟩
  case f7 =>
    intro i hi
    rw [hE 7 (by omega) (by omega)] at hi
    exact Or.inl ⟨hi, hE _ (by omega) (by omega), hE _ (by omega) (by omega), hE _ (by omega) (by omega)⟩
  case fc => exact fun l l1 l2 => Or.inl (hE _ (by omega) (by omega))
  case fd =>
    intro i k hi k1 k2
    rw [hE 8 (by omega) (by omega)] at hi
    exact Or.inl ⟨hi, hE _ (by omega) (by omega)⟩
theorem wb_rol {A A' : SA} (w : WB A) (hc : nt (A 5) < 8) (hk : A' 5 = nI (nt (A 5) + 1)) (hE : ∀ i, ¬ i = 5 → ¬ (136 + 3 * nt (A 5) ≤ i ∧ i < 136 + 3 * nt (A 5) + 3) → A' i = A i) {u v x : Nat} (h0 : A' (136 + 3 * nt (A 5)) = nI u) (h1 : A' (136 + 3 * nt (A 5) + 1) = nI v) (h2 : A' (136 + 3 * nt (A 5) + 2) = nI x) (b0 : 1 ≤ u ∧ u ≤ 3) (b1 : v < nt (A 2)) (b2 : x < nt (A 2)) : WB A' := by
  have c0 := w.c0.2
  have c1 := w.c1.2
  have c2 := w.c2.2
  have c3 := w.c3.2
  have c4 := w.c4.2
  have c5 := w.c5.2
  have c6 := w.c6.2
  have c7 := w.c7.2
  have c8 := w.c8.2
  refine wb_grow w ?e0 ?e1 ?e2 ?e3 ?e4 ?e5 ?e6 ?e7 ?e8 ?l0 ?l1 ?l2 ?f0 ?f1 ?f2 ?f3 ?f4 ?f5 ?f6 ?f7 ?fc ?fd
  case e0 => rw [hE 0 (by omega) (by omega)]; exact w.1
  case e1 => rw [hE 1 (by omega) (by omega)]; exact w.2.1
  case e2 => rw [hE 2 (by omega) (by omega)]; exact w.2.2.1
  case e3 => rw [hE 3 (by omega) (by omega)]; exact w.2.2.2.1
  case e4 => rw [hE 4 (by omega) (by omega)]; exact w.2.2.2.2.1
  case e5 => rw [hk]; exact isN_of (Nat.zero_le _) (by omega)
  case e6 => rw [hE 6 (by omega) (by omega)]; exact w.2.2.2.2.2.2.1
  case e7 => rw [hE 7 (by omega) (by omega)]; exact w.2.2.2.2.2.2.2.1
  case e8 => rw [hE 8 (by omega) (by omega)]; exact w.2.2.2.2.2.2.2.2.1
  case l0 => rw [hE 0 (by omega) (by omega)]; exact Nat.le_refl _
  case l1 => rw [hE 1 (by omega) (by omega)]; exact Nat.le_refl _
  case l2 => rw [hE 2 (by omega) (by omega)]; exact Nat.le_refl _
  case f0 =>
    intro i hi
    rw [hE 0 (by omega) (by omega)] at hi
    exact Or.inl ⟨hi, hE _ (by omega) (by omega), hE _ (by omega) (by omega)⟩
  case f1 =>
    intro i hi
    rw [hE 1 (by omega) (by omega)] at hi
    exact Or.inl ⟨hi, hE _ (by omega) (by omega), hE _ (by omega) (by omega), hE _ (by omega) (by omega)⟩
  case f2 =>
    intro i hi
    rw [hE 2 (by omega) (by omega)] at hi
    exact Or.inl ⟨hi, hE _ (by omega) (by omega), hE _ (by omega) (by omega), hE _ (by omega) (by omega), hE _ (by omega) (by omega), hE _ (by omega) (by omega)⟩
  case f3 =>
    intro i hi
    rw [hE 3 (by omega) (by omega)] at hi
    exact Or.inl ⟨hi, hE _ (by omega) (by omega), hE _ (by omega) (by omega)⟩
  case f4 =>
    intro i hi
    rw [hE 4 (by omega) (by omega)] at hi
    exact Or.inl ⟨hi, hE _ (by omega) (by omega), hE _ (by omega) (by omega), hE _ (by omega) (by omega)⟩
  case f5 =>
    intro i hi
    rw [hk, nt_nI (by omega)] at hi
    by_cases hic : i = nt (A 5)
    · right
      subst hic
      refine ⟨?_, ⟨?_, ?_⟩, ?_, ?_⟩
      · rw [h0]; exact isN_of b0.1 b0.2
      · rw [h1]; exact isN_of (Nat.zero_le _) (by omega)
      · rw [h1, nt_nI (by omega), hE 2 (by omega) (by omega)]; exact b1
      · rw [h2]; exact isN_of (Nat.zero_le _) (by omega)
      · rw [h2, nt_nI (by omega), hE 2 (by omega) (by omega)]; exact b2
    · exact Or.inl ⟨by omega, hE _ (by omega) (by omega), hE _ (by omega) (by omega), hE _ (by omega) (by omega)⟩
  case f6 =>
    intro i hi
    rw [hE 6 (by omega) (by omega)] at hi
    exact Or.inl ⟨hi, hE _ (by omega) (by omega), hE _ (by omega) (by omega)⟩
  case f7 =>
    intro i hi
    rw [hE 7 (by omega) (by omega)] at hi
    exact Or.inl ⟨hi, hE _ (by omega) (by omega), hE _ (by omega) (by omega), hE _ (by omega) (by omega)⟩
  case fc => exact fun l l1 l2 => Or.inl (hE _ (by omega) (by omega))
  case fd =>
    intro i k hi k1 k2
    rw [hE 8 (by omega) (by omega)] at hi
    exact Or.inl ⟨hi, hE _ (by omega) (by omega)⟩
theorem wb_clr {A A' : SA} (w : WB A) (hc : nt (A 6) < 8) (hk : A' 6 = nI (nt (A 6) + 1)) (hE : ∀ i, ¬ i = 6 → ¬ (160 + 2 * nt (A 6) ≤ i ∧ i < 160 + 2 * nt (A 6) + 2) → A' i = A i) {u v : Nat} (h0 : A' (160 + 2 * nt (A 6)) = nI u) (h1 : A' (160 + 2 * nt (A 6) + 1) = nI v) (b0 : 1 ≤ u ∧ u ≤ 3) (b1 : v < nt (A 2)) : WB A' := by
  have c0 := w.c0.2
  have c1 := w.c1.2
  have c2 := w.c2.2
  have c3 := w.c3.2
  have c4 := w.c4.2
  have c5 := w.c5.2
  have c6 := w.c6.2
  have c7 := w.c7.2
  have c8 := w.c8.2
  refine wb_grow w ?e0 ?e1 ?e2 ?e3 ?e4 ?e5 ?e6 ?e7 ?e8 ?l0 ?l1 ?l2 ?f0 ?f1 ?f2 ?f3 ?f4 ?f5 ?f6 ?f7 ?fc ?fd
  case e0 => rw [hE 0 (by omega) (by omega)]; exact w.1
  case e1 => rw [hE 1 (by omega) (by omega)]; exact w.2.1
  case e2 => rw [hE 2 (by omega) (by omega)]; exact w.2.2.1
  case e3 => rw [hE 3 (by omega) (by omega)]; exact w.2.2.2.1
  case e4 => rw [hE 4 (by omega) (by omega)]; exact w.2.2.2.2.1
  case e5 => rw [hE 5 (by omega) (by omega)]; exact w.2.2.2.2.2.1
  case e6 => rw [hk]; exact isN_of (Nat.zero_le _) (by omega)
  case e7 => rw [hE 7 (by omega) (by omega)]; exact w.2.2.2.2.2.2.2.1
  case e8 => rw [hE 8 (by omega) (by omega)]; exact w.2.2.2.2.2.2.2.2.1
  case l0 => rw [hE 0 (by omega) (by omega)]; exact Nat.le_refl _
  case l1 => rw [hE 1 (by omega) (by omega)]; exact Nat.le_refl _
  case l2 => rw [hE 2 (by omega) (by omega)]; exact Nat.le_refl _
  case f0 =>
    intro i hi
    rw [hE 0 (by omega) (by omega)] at hi
    exact Or.inl ⟨hi, hE _ (by omega) (by omega), hE _ (by omega) (by omega)⟩
  case f1 =>
    intro i hi
    rw [hE 1 (by omega) (by omega)] at hi
    exact Or.inl ⟨hi, hE _ (by omega) (by omega), hE _ (by omega) (by omega), hE _ (by omega) (by omega)⟩
  case f2 =>
    intro i hi
    rw [hE 2 (by omega) (by omega)] at hi
    exact Or.inl ⟨hi, hE _ (by omega) (by omega), hE _ (by omega) (by omega), hE _ (by omega) (by omega), hE _ (by omega) (by omega), hE _ (by omega) (by omega)⟩
  case f3 =>
    intro i hi
    rw [hE 3 (by omega) (by omega)] at hi
    exact Or.inl ⟨hi, hE _ (by omega) (by omega), hE _ (by omega) (by omega)⟩
  case f4 =>
    intro i hi
    rw [hE 4 (by omega) (by omega)] at hi
    exact Or.inl ⟨hi, hE _ (by omega) (by omega), hE _ (by omega) (by omega), hE _ (by omega) (by omega)⟩
  case f5 =>
    intro i hi
    rw [hE 5 (by omega) (by omega)] at hi
    exact Or.inl ⟨hi, hE _ (by omega) (by omega), hE _ (by omega) (by omega), hE _ (by omega) (by omega)⟩
  case f6 =>
    intro i hi
    rw [hk, nt_nI (by omega)] at hi
    by_cases hic : i = nt (A 6)
    · right
      subst hic
      refine ⟨?_, ?_, ?_⟩
      · rw [h0]; exact isN_of b0.1 b0.2
      · rw [h1]; exact isN_of (Nat.zero_le _) (by omega)
      · rw [h1, nt_nI (by omega), hE 2 (by omega) (by omega)]; exact b1
    · exact Or.inl ⟨by omega, hE _ (by omega) (by omega), hE _ (by omega) (by omega)⟩
  case f7 =>
    intro i hi
    rw [hE 7 (by omega) (by omega)] at hi
    exact Or.inl ⟨hi, hE _ (by omega) (by omega), hE _ (by omega) (by omega), hE _ (by omega) (by omega)⟩
  case fc => exact fun l l1 l2 => Or.inl (hE _ (by omega) (by omega))
  case fd =>
    intro i k hi k1 k2
    rw [hE 8 (by omega) (by omega)] at hi
    exact Or.inl ⟨hi, hE _ (by omega) (by omega)⟩
theorem wb_pun {A A' : SA} (w : WB A) (hc : nt (A 7) < 8) (hk : A' 7 = nI (nt (A 7) + 1)) (hE1 : ∀ i, ¬ i = 7 → ¬ (176 + 3 * nt (A 7) ≤ i ∧ i < 176 + 3 * nt (A 7) + 3) → i < 6740 → A' i = A i) {u v x : Nat} (h0 : A' (176 + 3 * nt (A 7)) = nI u) (h1 : A' (176 + 3 * nt (A 7) + 1) = nI v) (h2 : A' (176 + 3 * nt (A 7) + 2) = nI x) (b0 : 1 ≤ u ∧ u ≤ 3) (b1 : (v < 8 ∧ v < nt (A 0)) ∨ (8 ≤ v ∧ v - 8 < nt (A 2))) (b2 : 1 ≤ x ∧ x ≤ 20) : WB A' := by
  have c0 := w.c0.2
  have c1 := w.c1.2
  have c2 := w.c2.2
  have c3 := w.c3.2
  have c4 := w.c4.2
  have c5 := w.c5.2
  have c6 := w.c6.2
  have c7 := w.c7.2
  have c8 := w.c8.2
  refine wb_grow w ?e0 ?e1 ?e2 ?e3 ?e4 ?e5 ?e6 ?e7 ?e8 ?l0 ?l1 ?l2 ?f0 ?f1 ?f2 ?f3 ?f4 ?f5 ?f6 ?f7 ?fc ?fd
  case e0 => rw [hE1 0 (by omega) (by omega) (by omega)]; exact w.1
  case e1 => rw [hE1 1 (by omega) (by omega) (by omega)]; exact w.2.1
  case e2 => rw [hE1 2 (by omega) (by omega) (by omega)]; exact w.2.2.1
  case e3 => rw [hE1 3 (by omega) (by omega) (by omega)]; exact w.2.2.2.1
  case e4 => rw [hE1 4 (by omega) (by omega) (by omega)]; exact w.2.2.2.2.1
  case e5 => rw [hE1 5 (by omega) (by omega) (by omega)]; exact w.2.2.2.2.2.1
  case e6 => rw [hE1 6 (by omega) (by omega) (by omega)]; exact w.2.2.2.2.2.2.1
  case e7 => rw [hk]; exact isN_of (Nat.zero_le _) (by omega)
  case e8 => rw [hE1 8 (by omega) (by omega) (by omega)]; exact w.2.2.2.2.2.2.2.2.1
  case l0 => rw [hE1 0 (by omega) (by omega) (by omega)]; exact Nat.le_refl _
  case l1 => rw [hE1 1 (by omega) (by omega) (by omega)]; exact Nat.le_refl _
  case l2 => rw [hE1 2 (by omega) (by omega) (by omega)]; exact Nat.le_refl _
  case f0 =>
    intro i hi
    rw [hE1 0 (by omega) (by omega) (by omega)] at hi
    exact Or.inl ⟨hi, hE1 _ (by omega) (by omega) (by omega), hE1 _ (by omega) (by omega) (by omega)⟩
  case f1 =>
    intro i hi
    rw [hE1 1 (by omega) (by omega) (by omega)] at hi
    exact Or.inl ⟨hi, hE1 _ (by omega) (by omega) (by omega), hE1 _ (by omega) (by omega) (by omega), hE1 _ (by omega) (by omega) (by omega)⟩
  case f2 =>
    intro i hi
    rw [hE1 2 (by omega) (by omega) (by omega)] at hi
    exact Or.inl ⟨hi, hE1 _ (by omega) (by omega) (by omega), hE1 _ (by omega) (by omega) (by omega), hE1 _ (by omega) (by omega) (by omega), hE1 _ (by omega) (by omega) (by omega), hE1 _ (by omega) (by omega) (by omega)⟩
  case f3 =>
    intro i hi
    rw [hE1 3 (by omega) (by omega) (by omega)] at hi
    exact Or.inl ⟨hi, hE1 _ (by omega) (by omega) (by omega), hE1 _ (by omega) (by omega) (by omega)⟩
  case f4 =>
    intro i hi
    rw [hE1 4 (by omega) (by omega) (by omega)] at hi
    exact Or.inl ⟨hi, hE1 _ (by omega) (by omega) (by omega), hE1 _ (by omega) (by omega) (by omega), hE1 _ (by omega) (by omega) (by omega)⟩
  case f5 =>
    intro i hi
    rw [hE1 5 (by omega) (by omega) (by omega)] at hi
    exact Or.inl ⟨hi, hE1 _ (by omega) (by omega) (by omega), hE1 _ (by omega) (by omega) (by omega), hE1 _ (by omega) (by omega) (by omega)⟩
  case f6 =>
    intro i hi
    rw [hE1 6 (by omega) (by omega) (by omega)] at hi
    exact Or.inl ⟨hi, hE1 _ (by omega) (by omega) (by omega), hE1 _ (by omega) (by omega) (by omega)⟩
  case f7 =>
    intro i hi
    rw [hk, nt_nI (by omega)] at hi
    by_cases hic : i = nt (A 7)
    · right
      subst hic
      refine ⟨?_, ⟨?_, ?_⟩, ?_⟩
      · rw [h0]; exact isN_of b0.1 b0.2
      · rw [h1]; exact isN_of (Nat.zero_le _) (by omega)
      · rw [h1, nt_nI (by omega), hE1 0 (by omega) (by omega) (by omega), hE1 2 (by omega) (by omega) (by omega)]; exact b1
      · rw [h2]; exact isN_of b2.1 b2.2
    · exact Or.inl ⟨by omega, hE1 _ (by omega) (by omega) (by omega), hE1 _ (by omega) (by omega) (by omega), hE1 _ (by omega) (by omega) (by omega)⟩
  case fc => exact fun l l1 l2 => Or.inl (hE1 _ (by omega) (by omega) (by omega))
  case fd =>
    intro i k hi k1 k2
    rw [hE1 8 (by omega) (by omega) (by omega)] at hi
    exact Or.inl ⟨hi, hE1 _ (by omega) (by omega) (by omega)⟩
theorem wb_ctl {A A' : SA} (w : WB A) {l r : Nat} (hl : 1 ≤ l ∧ l ≤ 3) (hk : A' (73 + l - 1) = nI r) (hr : r < nt (A 0)) (hE : ∀ i, ¬ i = 73 + l - 1 → A' i = A i) : WB A' := by
  have c0 := w.c0.2
  have c1 := w.c1.2
  have c2 := w.c2.2
  have c3 := w.c3.2
  have c4 := w.c4.2
  have c5 := w.c5.2
  have c6 := w.c6.2
  have c7 := w.c7.2
  have c8 := w.c8.2
  refine wb_grow w ?e0 ?e1 ?e2 ?e3 ?e4 ?e5 ?e6 ?e7 ?e8 ?l0 ?l1 ?l2 ?f0 ?f1 ?f2 ?f3 ?f4 ?f5 ?f6 ?f7 ?fc ?fd
  case e0 => rw [hE 0 (by omega)]; exact w.1
  case e1 => rw [hE 1 (by omega)]; exact w.2.1
  case e2 => rw [hE 2 (by omega)]; exact w.2.2.1
  case e3 => rw [hE 3 (by omega)]; exact w.2.2.2.1
  case e4 => rw [hE 4 (by omega)]; exact w.2.2.2.2.1
  case e5 => rw [hE 5 (by omega)]; exact w.2.2.2.2.2.1
  case e6 => rw [hE 6 (by omega)]; exact w.2.2.2.2.2.2.1
  case e7 => rw [hE 7 (by omega)]; exact w.2.2.2.2.2.2.2.1
  case e8 => rw [hE 8 (by omega)]; exact w.2.2.2.2.2.2.2.2.1
  case l0 => rw [hE 0 (by omega)]; exact Nat.le_refl _
  case l1 => rw [hE 1 (by omega)]; exact Nat.le_refl _
  case l2 => rw [hE 2 (by omega)]; exact Nat.le_refl _
  case f0 =>
    intro i hi
    rw [hE 0 (by omega)] at hi
    exact Or.inl ⟨hi, hE _ (by omega), hE _ (by omega)⟩
  case f1 =>
    intro i hi
    rw [hE 1 (by omega)] at hi
    exact Or.inl ⟨hi, hE _ (by omega), hE _ (by omega), hE _ (by omega)⟩
  case f2 =>
    intro i hi
    rw [hE 2 (by omega)] at hi
    exact Or.inl ⟨hi, hE _ (by omega), hE _ (by omega), hE _ (by omega), hE _ (by omega), hE _ (by omega)⟩
  case f3 =>
    intro i hi
    rw [hE 3 (by omega)] at hi
    exact Or.inl ⟨hi, hE _ (by omega), hE _ (by omega)⟩
  case f4 =>
    intro i hi
    rw [hE 4 (by omega)] at hi
    exact Or.inl ⟨hi, hE _ (by omega), hE _ (by omega), hE _ (by omega)⟩
  case f5 =>
    intro i hi
    rw [hE 5 (by omega)] at hi
    exact Or.inl ⟨hi, hE _ (by omega), hE _ (by omega), hE _ (by omega)⟩
  case f6 =>
    intro i hi
    rw [hE 6 (by omega)] at hi
    exact Or.inl ⟨hi, hE _ (by omega), hE _ (by omega)⟩
  case f7 =>
    intro i hi
    rw [hE 7 (by omega)] at hi
    exact Or.inl ⟨hi, hE _ (by omega), hE _ (by omega), hE _ (by omega)⟩
  case fc =>
    intro q l1 l2
    by_cases hq : q = l
    · right
      subst hq
      right
      rw [hk, nt_nI (by omega), hE 0 (by omega)]
      exact ⟨isN_of (Nat.zero_le _) (by omega), hr⟩
    · exact Or.inl (hE _ (by omega))
  case fd =>
    intro i k hi k1 k2
    rw [hE 8 (by omega)] at hi
    exact Or.inl ⟨hi, hE _ (by omega)⟩
theorem wb_card {A A' : SA} (w : WB A) (hc : nt (A 8) < 40) (hk : A' 8 = nI (nt (A 8) + 1)) (hE : ∀ i, ¬ i = 8 → ¬ (200 + 20 * nt (A 8) ≤ i ∧ i < 200 + 20 * nt (A 8) + 20) → A' i = A i) (hn : ∀ j, j < 20 → lc (A' (200 + 20 * nt (A 8) + j))) : WB A' := by
  have c0 := w.c0.2
  have c1 := w.c1.2
  have c2 := w.c2.2
  have c3 := w.c3.2
  have c4 := w.c4.2
  have c5 := w.c5.2
  have c6 := w.c6.2
  have c7 := w.c7.2
  have c8 := w.c8.2
  refine wb_grow w ?e0 ?e1 ?e2 ?e3 ?e4 ?e5 ?e6 ?e7 ?e8 ?l0 ?l1 ?l2 ?f0 ?f1 ?f2 ?f3 ?f4 ?f5 ?f6 ?f7 ?fc ?fd
  case e0 => rw [hE 0 (by omega) (by omega)]; exact w.1
  case e1 => rw [hE 1 (by omega) (by omega)]; exact w.2.1
  case e2 => rw [hE 2 (by omega) (by omega)]; exact w.2.2.1
  case e3 => rw [hE 3 (by omega) (by omega)]; exact w.2.2.2.1
  case e4 => rw [hE 4 (by omega) (by omega)]; exact w.2.2.2.2.1
  case e5 => rw [hE 5 (by omega) (by omega)]; exact w.2.2.2.2.2.1
  case e6 => rw [hE 6 (by omega) (by omega)]; exact w.2.2.2.2.2.2.1
  case e7 => rw [hE 7 (by omega) (by omega)]; exact w.2.2.2.2.2.2.2.1
  case e8 => rw [hk]; exact isN_of (Nat.zero_le _) (by omega)
  case l0 => rw [hE 0 (by omega) (by omega)]; exact Nat.le_refl _
  case l1 => rw [hE 1 (by omega) (by omega)]; exact Nat.le_refl _
  case l2 => rw [hE 2 (by omega) (by omega)]; exact Nat.le_refl _
  case f0 =>
    intro i hi
    rw [hE 0 (by omega) (by omega)] at hi
    exact Or.inl ⟨hi, hE _ (by omega) (by omega), hE _ (by omega) (by omega)⟩
  case f1 =>
    intro i hi
    rw [hE 1 (by omega) (by omega)] at hi
    exact Or.inl ⟨hi, hE _ (by omega) (by omega), hE _ (by omega) (by omega), hE _ (by omega) (by omega)⟩
  case f2 =>
    intro i hi
    rw [hE 2 (by omega) (by omega)] at hi
    exact Or.inl ⟨hi, hE _ (by omega) (by omega), hE _ (by omega) (by omega), hE _ (by omega) (by omega), hE _ (by omega) (by omega), hE _ (by omega) (by omega)⟩
  case f3 =>
    intro i hi
    rw [hE 3 (by omega) (by omega)] at hi
    exact Or.inl ⟨hi, hE _ (by omega) (by omega), hE _ (by omega) (by omega)⟩
  case f4 =>
    intro i hi
    rw [hE 4 (by omega) (by omega)] at hi
    exact Or.inl ⟨hi, hE _ (by omega) (by omega), hE _ (by omega) (by omega), hE _ (by omega) (by omega)⟩
  case f5 =>
    intro i hi
    rw [hE 5 (by omega) (by omega)] at hi
    exact Or.inl ⟨hi, hE _ (by omega) (by omega), hE _ (by omega) (by omega), hE _ (by omega) (by omega)⟩
  case f6 =>
    intro i hi
    rw [hE 6 (by omega) (by omega)] at hi
    exact Or.inl ⟨hi, hE _ (by omega) (by omega), hE _ (by omega) (by omega)⟩
  case f7 =>
    intro i hi
    rw [hE 7 (by omega) (by omega)] at hi
    exact Or.inl ⟨hi, hE _ (by omega) (by omega), hE _ (by omega) (by omega), hE _ (by omega) (by omega)⟩
  case fc => exact fun l l1 l2 => Or.inl (hE _ (by omega) (by omega))
  case fd =>
    intro i k hi k1 k2
    rw [hk, nt_nI (by omega)] at hi
    by_cases hic : i = nt (A 8)
    · right
      subst hic
      rw [show 200 + 20 * nt (A 8) + k - 1 = 200 + 20 * nt (A 8) + (k - 1) from by omega]
      exact hn (k - 1) (by omega)
    · exact Or.inl ⟨by omega, hE _ (by omega) (by omega)⟩
