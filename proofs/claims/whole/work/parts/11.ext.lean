/-! MORE ENDS: bytes and chars -/
theorem nar_c {v : Int32} (h : 0 ≤ v ∧ v < 65536) : narrow .char (.int v) = .int v := by
  have h0 : (0 : Int) ≤ v.toInt := by have := Int32.le_iff_toInt_le.mp h.1; simpa using this
  have h1 : v.toInt < 65536 := by have := Int32.lt_iff_toInt_lt.mp h.2; simpa using this
  have h3 := BitVec.toInt_eq_toNat_cond v.toBitVec
  have h4 : v.toInt = v.toBitVec.toInt := rfl
  have h5 : v.toUInt32.toNat = v.toBitVec.toNat := rfl
  have h6 : v.toUInt32.toNat < 65536 := by
    rw [h5]
    split at h3 <;> omega
  have hw : v.toUInt32.toUInt16.toUInt32 = v.toUInt32 := by
    apply UInt32.toNat_inj.mp
    rw [UInt16.toNat_toUInt32, UInt32.toNat_toUInt16]
    omega
  show Value.int v.toUInt32.toUInt16.toUInt32.toInt32 = .int v
  rw [hw]
  rfl
section SE2
variable {M : MI} {Qr : (Option Value ⊕ Nat) → Mem → Prop} {cells slots pc : Nat} {lv lv' : List (Option Value)} {st : List Value} {μ : Mem}
theorem S_breturn {v : Int32} (hdg : decode M.cc pc = .ok (.ireturn, 1)) (hr : M.ret = some .byte) (hv01 : v = 0 ∨ v = 1) (h1 : cells ≤ M.rm.cells) (h2 : slots ≤ M.rm.slots) (hq : Qr (.inl (some (.int v))) μ) : S M Qr cells slots pc lv [.int v] μ := by
  intro cx ad0 n0 p l e s m args below meth c hx d0 ad H locs ls hd he hn hw hS hl hol hs
  exact u_ret hd h1 h2 (W.zret (v := v) hx.1 hx.2.1 (hx.2.2.2.1.trans hr) (by rcases hv01 with rfl | rfl <;> decide) (fun t ht hW => ⟨μ, ad, ⟨some (.int v), rfl, hq, fun x hx9 => by cases hx9; exact ok_h hs⟩, he, hn, by rw [ht]; exact hw.d d0, hS.F ht⟩) hS.2.2 hdg hx.2.2.2.2.1)
end SE2
