/-! THE ABSTRACT MEMORY: typed contents of numbered things (0: null; 1..22: constants; from 23 on: what the run has made), and what it says of a heap. -/
abbrev Mem : Type := (Nat → Nat) × (Nat → Nat) × Nat × (Nat → Nat → Nat) × (Nat → Nat → Int32) × (Nat → Nat → Int64) × (Nat → Nat → UInt64)
def gK (μ : Mem) : Nat → Nat := μ.1
def gL (μ : Mem) : Nat → Nat := μ.2.1
def gN (μ : Mem) : Nat := μ.2.2.1
def gR (μ : Mem) : Nat → Nat → Nat := μ.2.2.2.1
def gI (μ : Mem) : Nat → Nat → Int32 := μ.2.2.2.2.1
def gJ (μ : Mem) : Nat → Nat → Int64 := μ.2.2.2.2.2.1
def gD (μ : Mem) : Nat → Nat → UInt64 := μ.2.2.2.2.2.2
def up2 {α : Type} (f : Nat → Nat → α) (a j : Nat) (v : α) : Nat → Nat → α := fun b k => if b = a ∧ k = j then v else f b k
def stI (μ : Mem) (a j : Nat) (v : Int32) : Mem := (gK μ, gL μ, gN μ, gR μ, up2 (gI μ) a j v, gJ μ, gD μ)
def stR (μ : Mem) (a j : Nat) (v : Nat) : Mem := (gK μ, gL μ, gN μ, up2 (gR μ) a j v, gI μ, gJ μ, gD μ)
def stJ (μ : Mem) (a j : Nat) (v : Int64) : Mem := (gK μ, gL μ, gN μ, gR μ, gI μ, up2 (gJ μ) a j v, gD μ)
def stD (μ : Mem) (a j : Nat) (v : UInt64) : Mem := (gK μ, gL μ, gN μ, gR μ, gI μ, gJ μ, up2 (gD μ) a j v)
/-- a copy of n ints (System.arraycopy) -/
def stC (μ : Mem) (a sp b dp n : Nat) : Mem := (gK μ, gL μ, gN μ, gR μ, (fun c k => if c = b ∧ dp ≤ k ∧ k < dp + n then gI μ a (sp + (k - dp)) else gI μ c k), gJ μ, gD μ)
/-- a filling (Arrays.fill) -/
def stF (μ : Mem) (a lo hi : Nat) (v : Int32) : Mem := (gK μ, gL μ, gN μ, gR μ, (fun c k => if c = a ∧ lo ≤ k ∧ k < hi then v else gI μ c k), gJ μ, gD μ)
/-- a new thing of kind k and length n -/
def stN (μ : Mem) (k n : Nat) : Mem := ((fun b => if b = gN μ then k else gK μ b), (fun b => if b = gN μ then n else gL μ b), gN μ + 1, (fun b j => if b = gN μ then 0 else gR μ b j), (fun b j => if b = gN μ then 0 else gI μ b j), (fun b j => if b = gN μ then 0 else gJ μ b j), (fun b j => if b = gN μ then 0 else gD μ b j))
-- classes
abbrev ab_cl : List vw_C := [(RX1, TX1, 9), (RX2, TX2, 2), (RX3, TX3, 12), (RX4, TX4, 3), (RX5, TX5, 17), (RX6, TX6, 3), (RX8, TX8, 5), (RX9, TX9, 26)]
def ab_ty (ci : Nat) : Nat → FieldType := match ci with
  | 0 => tyX1 | 1 => tyX2 | 2 => tyX3 | 3 => tyX4 | 4 => tyX5 | 5 => tyX6 | 6 => tyX8 | _ => tyX9
def ab_n (ci : Nat) : Nat := match ci with
  | 0 => 9 | 1 => 2 | 2 => 12 | 3 => 3 | 4 => 17 | 5 => 3 | 6 => 5 | _ => 26
/-- a reference as the machine has it -/
def cv_r (ad : Nat → Nat) (r : Nat) : Value := if r = 0 then .null else .ref (ad r)
def cv_o (ad : Nat → Nat) (r : Nat) : Option Nat := if r = 0 then none else some (ad r)
theorem cv_ro (ad : Nat → Nat) (r : Nat) : va_rf (cv_o ad r) = cv_r ad r := by
  unfold cv_o cv_r; split <;> rfl
def cv (ad : Nat → Nat) (v : Value) : Value := match v with
  | .ref r => cv_r ad r
  | v => v
def ab_fv (ad : Nat → Nat) (μ : Mem) (r j : Nat) (ty : FieldType) : Value := match ty with
  | .int => .int (gI μ r j)
  | .boolean => .int (gI μ r j)
  | .long => .long (gJ μ r j)
  | _ => cv_r ad (gR μ r j)
def ab_fs (ad : Nat → Nat) (μ : Mem) (r ci : Nat) : List Value := (List.range (ab_n ci)).map fun j => ab_fv ad μ r j (ab_ty ci j)
abbrev CX : Type := va_G × (Nat → ClassId) × Nat × (Nat → Nat) × Nat × (Nat → Int32)
abbrev CX.D (cx : CX) : va_G := cx.1
abbrev CX.cA (cx : CX) : Nat → ClassId := cx.2.1
abbrev CX.Z (cx : CX) : Nat := cx.2.2.1
abbrev CX.cad (cx : CX) : Nat → Nat := cx.2.2.2.1
abbrev CX.L (cx : CX) : Nat := cx.2.2.2.2.1
abbrev CX.xs (cx : CX) : Nat → Int32 := cx.2.2.2.2.2
abbrev CX.A (cx : CX) : Nat → Prop := fun q => cx.Z ≤ q
def ab_ent (cx : CX) (ad : Nat → Nat) (μ : Mem) (r : Nat) : va_E :=
  if gK μ r = 101 then .inl (cx.cA 0, gL μ r, .inl (gI μ r))
  else if gK μ r = 102 then .inl (cx.cA 1, gL μ r, .inr (.inl (gJ μ r)))
  else if gK μ r = 103 then .inl (cx.cA 2, gL μ r, .inl (gI μ r))
  else if gK μ r = 104 then .inl (cx.cA 3, gL μ r, .inr (.inr (.inr (.inl (gD μ r)))))
  else if gK μ r = 105 then .inl (cx.cA 4, gL μ r, .inr (.inr (.inr (.inr (fun j => cv_o ad (gR μ r j))))))
  else .inr (gK μ r - 1, ab_fs ad μ r (gK μ r - 1))
def ab_wl (cx : CX) (ad : Nat → Nat) (μ : Mem) : va_W := (List.range (gN μ - 23)).map fun i => (ad (i + 23), ab_ent cx ad μ (i + 23))
def ab_tys (cx : CX) : List (ClassId × FieldType) := [(cx.cA 0, .int), (cx.cA 1, .long), (cx.cA 2, .boolean), (cx.cA 3, .double), (cx.cA 4, .object RX3)]
/-- kinds of the run's own things -/
def ab_own (k : Nat) : Prop := (1 ≤ k ∧ k ≤ 8) ∨ (101 ≤ k ∧ k ≤ 105)
/-- what is fixed of the constants: 1 the script, 2..17 the words, 18 their array, 19 the switch's table, 20 the keywords' text, 21 its bytes, 22 a formatter -/
def ab_ck (r : Nat) : Nat := if r = 1 then 111 else if 2 ≤ r ∧ r < 18 then 120 else if r = 18 then 123 else if r = 19 then 112 else if r = 20 then 122 else if r = 21 then 113 else if r = 22 then 123 else 0
def Wd (cx : CX) (ad : Nat → Nat) (μ : Mem) (s : State) (H : Heap) : Prop :=
  va_K cx.D ab_cl (ab_tys cx) s ∧ va_P cx.D ab_cl (ab_wl cx ad μ) H ∧ va_D cx.A (ab_wl cx ad μ) ∧ 23 ≤ gN μ ∧ (∀ r, ab_own (gK μ r) → 23 ≤ r ∧ r < gN μ) ∧ (∀ r, r < 23 → ad r = cx.cad r ∧ gK μ r = ab_ck r) ∧
  gL μ 1 = cx.L ∧ gI μ 1 = cx.xs ∧ (∀ r j, gR μ r j < gN μ) ∧ ∀ r j, gK μ r = 103 → gI μ r j = 0 ∨ gI μ r j = 1
theorem ab_wl_at {cx : CX} {ad : Nat → Nat} {μ : Mem} {r : Nat} (h : 23 ≤ r) (h2 : r < gN μ) : (ab_wl cx ad μ)[r - 23]? = some (ad r, ab_ent cx ad μ r) := by
  unfold ab_wl
  rw [List.getElem?_map, List.getElem?_range (by omega)]
  simp only [Option.map_some, Nat.sub_add_cancel h]
/-- a change of one thing alone -/
theorem ab_wl_set {cx : CX} {ad : Nat → Nat} {μ μ' : Mem} {r : Nat} {e : va_E} (h : 23 ≤ r) (hn : gN μ' = gN μ) (he : ab_ent cx ad μ' r = e) (ho : ∀ q, q ≠ r → ab_ent cx ad μ' q = ab_ent cx ad μ q) : ab_wl cx ad μ' = (ab_wl cx ad μ).set (r - 23) (ad r, e) := by
  unfold ab_wl
  rw [hn]
  apply List.ext_getElem (by simp)
  intro i h1 h2
  simp only [List.length_map, List.length_range] at h1
  rw [List.getElem_set]
  simp only [List.getElem_map, List.getElem_range]
  by_cases hi : r - 23 = i
  · rw [if_pos hi]
    have : i + 23 = r := by omega
    rw [this, he]
  · rw [if_neg hi, ho _ (by omega)]
/-- a new thing -/
theorem ab_wl_new {cx : CX} {ad ad' : Nat → Nat} {μ μ' : Mem} {e : va_E} {q : Nat} (h : 23 ≤ gN μ) (hn : gN μ' = gN μ + 1) (hq : ad' (gN μ) = q) (he : ab_ent cx ad' μ' (gN μ) = e) (ho : ∀ r, r < gN μ → ad' r = ad r ∧ ab_ent cx ad' μ' r = ab_ent cx ad μ r) : ab_wl cx ad' μ' = ab_wl cx ad μ ++ [(q, e)] := by
  unfold ab_wl
  rw [hn, show gN μ + 1 - 23 = (gN μ - 23) + 1 from by omega, List.range_succ, List.map_append]
  congr 1
  · apply List.map_congr_left
    intro i hi
    rw [List.mem_range] at hi
    obtain ⟨h1, h2⟩ := ho (i + 23) (by omega)
    rw [h1, h2]
  · simp only [List.map_cons, List.map_nil]
    rw [show gN μ - 23 + 23 = gN μ from by omega, hq, he]
theorem ab_fs_len (ad : Nat → Nat) (μ : Mem) (r ci : Nat) : (ab_fs ad μ r ci).length = ab_n ci := by simp [ab_fs]
theorem ab_fs_at {ad : Nat → Nat} {μ : Mem} {r ci j : Nat} (h : j < ab_n ci) : (ab_fs ad μ r ci)[j]? = some (ab_fv ad μ r j (ab_ty ci j)) := by
  unfold ab_fs
  rw [List.getElem?_map, List.getElem?_range h]; rfl
theorem ab_fs_set {ad : Nat → Nat} {μ μ' : Mem} {r ci j : Nat} {v : Value} (hv : ab_fv ad μ' r j (ab_ty ci j) = v) (ho : ∀ k, k ≠ j → ab_fv ad μ' r k (ab_ty ci k) = ab_fv ad μ r k (ab_ty ci k)) : ab_fs ad μ' r ci = (ab_fs ad μ r ci).set j v := by
  unfold ab_fs
  apply List.ext_getElem (by simp)
  intro i h1 h2
  rw [List.getElem_set]
  simp only [List.getElem_map, List.getElem_range]
  by_cases hi : j = i
  · subst hi
    rw [if_pos rfl, hv]
  · rw [if_neg hi, ho i (Ne.symm hi)]
theorem ab_cl_at {ci : Nat} {r : vw_C} (h : ab_cl[ci]? = some r) : r.2.2 = ab_n ci ∧ ci < 8 := by
  match ci, h with
  | 0, h => cases h; exact ⟨rfl, by omega⟩
  | 1, h => cases h; exact ⟨rfl, by omega⟩
  | 2, h => cases h; exact ⟨rfl, by omega⟩
  | 3, h => cases h; exact ⟨rfl, by omega⟩
  | 4, h => cases h; exact ⟨rfl, by omega⟩
  | 5, h => cases h; exact ⟨rfl, by omega⟩
  | 6, h => cases h; exact ⟨rfl, by omega⟩
  | 7, h => cases h; exact ⟨rfl, by omega⟩
  | k + 8, h => simp at h
-- getters over setters
theorem up2_s {α : Type} (f : Nat → Nat → α) (a j : Nat) (v : α) : up2 f a j v a j = v := by simp [up2]
theorem up2_a {α : Type} (f : Nat → Nat → α) {a b : Nat} (j : Nat) (v : α) (h : b ≠ a) : up2 f a j v b = f b := by funext k; simp [up2, h]
theorem up2_j {α : Type} (f : Nat → Nat → α) (a : Nat) {j k : Nat} (v : α) (h : k ≠ j) : up2 f a j v a k = f a k := by simp [up2, h]
theorem up2_row {α : Type} (f : Nat → Nat → α) (a j : Nat) (v : α) : up2 f a j v a = fun k => if k = j then v else f a k := by funext k; simp [up2]
theorem ent_arr0 {cx : CX} {ad : Nat → Nat} {μ : Mem} {r : Nat} (h : gK μ r = 101) : ab_ent cx ad μ r = .inl (cx.cA 0, gL μ r, .inl (gI μ r)) := by simp [ab_ent, h]
theorem ent_arr1 {cx : CX} {ad : Nat → Nat} {μ : Mem} {r : Nat} (h : gK μ r = 102) : ab_ent cx ad μ r = .inl (cx.cA 1, gL μ r, .inr (.inl (gJ μ r))) := by simp [ab_ent, h]
theorem ent_arr2 {cx : CX} {ad : Nat → Nat} {μ : Mem} {r : Nat} (h : gK μ r = 103) : ab_ent cx ad μ r = .inl (cx.cA 2, gL μ r, .inl (gI μ r)) := by simp [ab_ent, h]
theorem ent_arr3 {cx : CX} {ad : Nat → Nat} {μ : Mem} {r : Nat} (h : gK μ r = 104) : ab_ent cx ad μ r = .inl (cx.cA 3, gL μ r, .inr (.inr (.inr (.inl (gD μ r))))) := by simp [ab_ent, h]
theorem ent_arr4 {cx : CX} {ad : Nat → Nat} {μ : Mem} {r : Nat} (h : gK μ r = 105) : ab_ent cx ad μ r = .inl (cx.cA 4, gL μ r, .inr (.inr (.inr (.inr (fun j => cv_o ad (gR μ r j)))))) := by simp [ab_ent, h]
theorem ent_obj {cx : CX} {ad : Nat → Nat} {μ : Mem} {r ci : Nat} (h : gK μ r = ci + 1) (hc : ci < 8) : ab_ent cx ad μ r = .inr (ci, ab_fs ad μ r ci) := by
  unfold ab_ent
  rw [h, if_neg (by omega), if_neg (by omega), if_neg (by omega), if_neg (by omega), if_neg (by omega), Nat.add_sub_cancel]
theorem Wd.inl {cx : CX} {ad : Nat → Nat} {μ : Mem} {s : State} {H : Heap} (h : Wd cx ad μ s H) {r : Nat} (hk : ab_own (gK μ r)) : (ab_wl cx ad μ)[r - 23]? = some (ad r, ab_ent cx ad μ r) := ab_wl_at (h.2.2.2.2.1 r hk).1 (h.2.2.2.2.1 r hk).2
theorem own_c {k ci : Nat} (h : k = ci + 1) (hc : ci < 8) : ab_own k := Or.inl ⟨by omega, by omega⟩
theorem own_a {k j : Nat} (h : k = 101 + j) (hj : j < 5) : ab_own k := Or.inr ⟨by omega, by omega⟩
/-- the world behind a change of one thing -/
theorem Wd.chg {cx : CX} {ad : Nat → Nat} {μ μ' : Mem} {s : State} {H H1 : Heap} {r : Nat} {e : va_E} (h : Wd cx ad μ s H) (hk : ab_own (gK μ r)) (hK : gK μ' = gK μ) (hL : gL μ' = gL μ) (hN : gN μ' = gN μ) (hI : gI μ' 1 = gI μ 1) (hR : ∀ r j, gR μ' r j < gN μ) (hZ : ∀ r j, gK μ r = 103 → gI μ' r j = 0 ∨ gI μ' r j = 1)
    (he : ab_ent cx ad μ' r = e) (ho : ∀ q, q ≠ r → ab_ent cx ad μ' q = ab_ent cx ad μ q)
    (hP : va_P cx.D ab_cl ((ab_wl cx ad μ).set (r - 23) (ad r, e)) H1) (hD : va_D cx.A ((ab_wl cx ad μ).set (r - 23) (ad r, e))) : Wd cx ad μ' s H1 := by
  obtain ⟨h1, h2, h3, h4, h5, h6, h7, h8, h9, -⟩ := h
  have hr := h5 r hk
  have hw := ab_wl_set (cx := cx) (ad := ad) hr.1 hN he ho
  refine ⟨h1, by rw [hw]; exact hP, by rw [hw]; exact hD, by rw [hN]; exact h4, by rw [hK, hN]; exact h5, by rw [hK]; exact h6, by rw [hL]; exact h7, by rw [hI]; exact h8, by rw [hN]; exact hR, by rw [hK]; exact hZ⟩
/-- words that last, though a start that warms may bring them: links of nest mates, casts, declarations -/
def good2 (w : Cond) : Bool := match w with
  | .castable _ _ => true
  | .declares _ => true
  | .fieldLinkNest _ _ _ _ _ _ => true
  | .methodLinkNest _ _ _ _ => true
  | _ => false
def ab_W2 : List Cond := lw_tbl.filter good2
theorem good2_tab {w : Cond} (h : good2 w = true) : w.onTables = true := by
  cases w <;> first | rfl | (simp [good2] at h)
theorem good2_warm {w : Cond} (h : good2 w = true) {s U : State} (hW : s.WarmedH U.vm) (hz : va_Nw w s) : va_Nw w U := by
  cases w <;> first | exact va_Nw.warmC hW hz | exact va_Nw.warmD hW hz | exact va_Nw.warmF hW hz | exact va_Nw.warmM hW hz | (simp [good2] at h)
theorem ab_w2 {w : Cond} (i : Nat) (h : lw_tbl[i]? = some w) (hg : good2 w = true) : w ∈ ab_W2 := List.mem_filter.mpr ⟨List.mem_of_getElem? h, hg⟩
/-- the messages of the exceptions: (class, pool entry, text) -/
def ab_msgs : List (String × Nat × String) := [("Tabulator", 43, "no such length"), ("Tabulator", 108, "no such group"), ("Tabulator", 114, "no such weight"), ("Tabulator", 135, "the deck is full"), ("Tabulator", 141, "no such code"), ("Tabulator", 150, "no such mode"), ("Tabulator", 179, "no summary card is kept"), ("Tabulator", 185, "no such number of cards"), ("Tabulator", 225, "no such position"), ("Tabulator", 237, "no such summary card"), ("Tabulator", 257, "nothing was saved there"), ("Tabulator", 262, "no such card"), ("Tabulator", 264, "no such column"), ("Tabulator", 270, "no such field"), ("Tabulator", 275, "no such selector"), ("Tabulator", 277, "no such counter"), ("Tabulator", 279, "no such line"), ("Tabulator", 281, "no such slot"), ("Tabulator", 283, "no such level"), ("Tabulator", 289, "the machine is finished")]
/-- pairs of exception classes of which the first is not the second -/
def ab_nc : List (String × String) := [("java/lang/IllegalArgumentException", "java/lang/IndexOutOfBoundsException"), ("java/lang/IllegalStateException", "java/lang/IndexOutOfBoundsException"), ("java/lang/IllegalStateException", "java/lang/IllegalArgumentException")]
/-- the words, by their ordinals -/
def wd_nm : List String := ["FIELD", "SELECTOR", "COUNTER", "CONTROL", "LIST", "TOTAL", "ROLL", "CLEAR", "PUNCH", "CARD", "DELAYED", "ADD", "SUB", "SIGNED", "IF", "UNLESS"]
def wd_kl : List Int64 := [439854918756, 8315171469725560690, 27988572849333618, 27988542885097324, 1818850164, 500086104428, 1919904876, 427020345714, 483006505832, 1667330660, 28259013837284708, 6382692, 7566690, 126896544048484, 26982, 129117125440371]
def wd_key (i : Nat) : Int64 := wd_kl.getD i 0
def wd_sw (i : Nat) : Int32 := if i < 10 then nI (i + 1) else 0
def kw_bl : List Int32 := [102, 105, 101, 108, 100, 32, 115, 101, 108, 101, 99, 116, 111, 114, 32, 99, 111, 117, 110, 116, 101, 114, 32, 99, 111, 110, 116, 114, 111, 108, 32, 108, 105, 115, 116, 32, 116, 111, 116, 97, 108, 32, 114, 111, 108, 108, 32, 99, 108, 101, 97, 114, 32, 112, 117, 110, 99, 104, 32, 99, 97, 114, 100, 32, 100, 101, 108, 97, 121, 101, 100, 32, 97, 100, 100, 32, 115, 117, 98, 32, 115, 105, 103, 110, 101, 100, 32, 105, 102, 32, 117, 110, 108, 101, 115, 115, 32]
def kw_b (k : Nat) : Int32 := kw_bl.getD k 0
def kw_tx : String := "field selector counter control list total roll clear punch card delayed add sub signed if unless "
/-- the constants, as the start has them -/
def Cw (cx : CX) (s : State) (H : Heap) : Prop :=
  va_X (cx.cad 1) cx.L cx.xs s H ∧ ¬ cx.A (cx.cad 1) ∧
  (∀ i, i < 16 → va_Z RX7 (wd_nm.getD i "") "LTabulator$Word;" (.ref (cx.cad (2 + i))) cx.A s H) ∧ (∀ i, i < 16 → va_O RX7 (cx.cad (2 + i)) cx.A s H) ∧
  va_Ef 16 RX7 "key" "J" (fun i => .long (wd_key i)) (fun i => cx.cad (2 + i)) cx.A s H ∧ va_Ef 16 "java/lang/Enum" "ordinal" "I" (fun i => .int (nI i)) (fun i => cx.cad (2 + i)) cx.A s H ∧
  (∀ i j, i < 16 → j < 16 → cx.cad (2 + i) = cx.cad (2 + j) → i = j) ∧
  va_Z RX7 "ALL" "[LTabulator$Word;" (.ref (cx.cad 18)) cx.A s H ∧ va_T (.object RX7) (cx.cad 18) 16 (fun j => .ref (cx.cad (2 + j))) cx.A s H ∧
  va_Z RX0 "$SwitchMap$Tabulator$Word" "[I" (.ref (cx.cad 19)) cx.A s H ∧ va_T .int (cx.cad 19) 16 (fun j => .int (wd_sw j)) cx.A s H ∧
  va_O "java/lang/String" (cx.cad 20) cx.A s H ∧ va_OF "java/lang/String" "coder" "B" (.int 0) (cx.cad 20) cx.A s H ∧ va_OF "java/lang/String" "value" "[B" (.ref (cx.cad 21)) (cx.cad 20) cx.A s H ∧ va_T .byte (cx.cad 21) 97 (fun j => .int (kw_b j)) cx.A s H ∧
  va_Z "java/lang/String" "COMPACT_STRINGS" "Z" (.int 1) cx.A s H ∧
  (va_Z "jdk/internal/util/Preconditions" "SIOOBE_FORMATTER" "Ljava/util/function/BiFunction;" .null cx.A s H ∨ va_Z "jdk/internal/util/Preconditions" "SIOOBE_FORMATTER" "Ljava/util/function/BiFunction;" (.ref (cx.cad 22)) cx.A s H)
def Cs (cx : CX) (s : State) : Prop := cx.Z ≤ s.heap.size ∧ va_AO RX3 s ∧ (∀ w ∈ ab_W2, va_Nw w s) ∧
  vx_Zq Bundle.tN "UNASSIGNED_STACK" Bundle.steD cx.A s s.heap ∧ vx_Zq Bundle.tN "SUPPRESSED_SENTINEL" Bundle.listD cx.A s s.heap ∧ (∀ q ∈ ab_msgs, ∃ sa, vk_R q.1 q.2.1 q.2.2 sa s) ∧ (∀ q ∈ ab_nc, va_Nc q.1 q.2 s) ∧ Cw cx s s.heap ∧ vk_R RX9 110 kw_tx (cx.cad 20) s
theorem Cs.Z {cx : CX} {s : State} (h : Cs cx s) : cx.Z ≤ s.heap.size := h.1
theorem Cs.AO {cx : CX} {s : State} (h : Cs cx s) : va_AO RX3 s := h.2.1
theorem Cs.w2 {cx : CX} {s : State} (h : Cs cx s) {w : Cond} (hw : w ∈ ab_W2) {args : Array Value} : w.before args s = true := va_Nw.use (good2_tab (List.mem_filter.mp hw).2) (h.2.2.1 w hw)
theorem Cs.nc {cx : CX} {s : State} (h : Cs cx s) {a b : String} (hq : (a, b) ∈ ab_nc) : va_Nc a b s := h.2.2.2.2.2.2.1 (a, b) hq
theorem Cs.cw {cx : CX} {s : State} (h : Cs cx s) : Cw cx s s.heap := h.2.2.2.2.2.2.2.1
theorem Cw.go {cx : CX} {s U : State} {H H1 : Heap} (h : Cw cx s H) (hv : s.vm.Alike U.vm) (hz : cx.Z ≤ H.size) (hk : ∀ q : Nat, q < H.size → ¬ cx.A q → H1[q]? = H[q]?) : Cw cx U H1 := by
  obtain ⟨h1, h2, h3, h4, h5, h6, h7, h8, h9, h10, h11, h12, h13, h14, h15, h16, h17⟩ := h
  refine ⟨(h1.moved hv).kept (hk _ (Nat.lt_of_lt_of_le (Nat.lt_of_not_le h2) hz) h2), h2, fun i hi => ((h3 i hi).moved hv).kept hk, fun i hi => ((h4 i hi).moved hv).kept hk, (h5.moved hv).kept hk, (h6.moved hv).kept hk, h7, (h8.moved hv).kept hk, (h9.moved hv).kept hk, (h10.moved hv).kept hk, (h11.moved hv).kept hk, (h12.moved hv).kept hk, (h13.moved hv).kept hk, (h14.moved hv).kept hk, (h15.moved hv).kept hk, (h16.moved hv).kept hk, ?_⟩
  rcases h17 with h | h
  · exact Or.inl ((h.moved hv).kept hk)
  · exact Or.inr ((h.moved hv).kept hk)
