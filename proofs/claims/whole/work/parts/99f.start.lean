/-! THE START: what the Statement says of it makes the constants of the abstract memory -/
def wz (i : Nat) : Term := .static RX7 (wd_nm.getD i "") "LTabulator$Word;"
def lft (c : Cond) : Cond := match c with | .and a _ => a | _ => c
def rgt (c : Cond) : Cond := match c with | .and _ b => b | _ => c
def bal : Nat → Nat → Nat → Cond → Cond
  | 0, _, _, c => c
  | f + 1, n, i, c => bif Nat.ble n 1 then c else bif Nat.ble (i + 1) (n / 2) then bal f (n / 2) i (lft c) else bal f (n - n / 2) (i - n / 2) (rgt c)
theorem lft_of {args : Array Value} {s : State} {c : Cond} (h : c.before args s = true) : (lft c).before args s = true := by
  unfold lft
  split
  · rw [Cond.before_and, Bool.and_eq_true] at h; exact h.1
  · exact h
theorem rgt_of {args : Array Value} {s : State} {c : Cond} (h : c.before args s = true) : (rgt c).before args s = true := by
  unfold rgt
  split
  · rw [Cond.before_and, Bool.and_eq_true] at h; exact h.2
  · exact h
theorem bal_of {args : Array Value} {s : State} : ∀ (f n i : Nat) (c : Cond), c.before args s = true → (bal f n i c).before args s = true
  | 0, _, _, _, h => h
  | f + 1, n, i, c, h => by
    unfold bal
    cases Nat.ble n 1
    · cases Nat.ble (i + 1) (n / 2)
      · exact bal_of f _ _ _ (rgt_of h)
      · exact bal_of f _ _ _ (lft_of h)
    · exact h
def nar (i : Nat) : Cond := bal 12 1062 (i - 2) narrow_1
theorem nar_at {args : Array Value} {s : State} (h : (Cond.and given_1 narrow_1).before args s = true) {w : Cond} (i : Nat) (hi : nar i = w) : w.before args s = true := by
  rw [Cond.before_and, Bool.and_eq_true] at h
  exact hi ▸ bal_of _ _ _ _ h.2
def ix_ex : List Nat := [290, 299, 309, 320, 332, 345, 359, 374, 390, 407, 257, 269, 260, 264, 275, 282]
theorem nr_ex : ∀ i, i < 16 → nar (ix_ex.getD i 0) = .exactly (wz i) RX7 := by decide +kernel
theorem nr_od : ∀ i, i < 16 → nar (ix_ex.getD i 0 + 1) = .eq (.field (wz i) "java/lang/Enum" "ordinal" "I") (.int (nI i)) := by decide +kernel
theorem nr_ke : ∀ i, i < 16 → nar (ix_ex.getD i 0 + 2) = .eq (.field (wz i) RX7 "key" "J") (.long (wd_key i)) := by decide +kernel
def tALL : Term := .static RX7 "ALL" "[LTabulator$Word;"
def tSW : Term := .static RX0 "$SwitchMap$Tabulator$Word" "[I"
def tKW : Term := .string RX9 110
def tKV : Term := .field tKW "java/lang/String" "value" "[B"
theorem nr_al : ∀ i, i < 16 → nar (222 + i) = .eq (.elem tALL (.int (Int32.ofNat i))) (wz i) := by decide +kernel
theorem nr_sw : ∀ i, i < 16 → nar (241 + i) = .eq (.elem tSW (.int (Int32.ofNat i))) (.int (wd_sw i)) := by decide +kernel
theorem nr_kb : ∀ i, i < 97 → nar (938 + i) = .eq (.elem tKV (.int (Int32.ofNat i))) (.int (kw_b i)) := by decide +kernel
theorem nr_1 : nar (219) = .arrayOf tALL (.object RX7) := by decide +kernel
theorem nr_2 : nar (220) = .eq (.length tALL) (.int 16) := by decide +kernel
theorem nr_3 : nar (239) = .arrayOf tSW .int := by decide +kernel
theorem nr_4 : nar (240) = .eq (.length tSW) (.int 16) := by decide +kernel
theorem nr_5 : nar (934) = .exactly tKW "java/lang/String" := by decide +kernel
theorem nr_6 : nar (935) = .eq (.field tKW "java/lang/String" "code\x72" "B") (.int 0) := by decide +kernel
theorem nr_7 : nar (936) = .arrayOf tKV .byte := by decide +kernel
theorem nr_8 : nar (937) = .eq (.length tKV) (.int 97) := by decide +kernel
theorem nr_9 : nar (6) = .eq (.static "java/lang/String" "COMPACT_STRINGS" "Z") (.int 1) := by decide +kernel
theorem nr_10 : nar (7) = .isRef (.static "jdk/internal/util/Preconditions" "SIOOBE_FORMATTER" "Ljava/util/function/BiFunction;") := by decide +kernel
theorem nr_11 : nar (4) = .isRef (.static Bundle.tN "UNASSIGNED_STACK" Bundle.steD) := by decide +kernel
theorem nr_12 : nar (5) = .isRef (.static Bundle.tN "SUPPRESSED_SENTINEL" Bundle.listD) := by decide +kernel
def ix_me : List Nat := [538, 624, 641, 659, 679, 714, 750, 777, 847, 867, 907, 556, 572, 590, 730, 695, 831, 891, 607, 804]
def ix_ms : List Nat := [954, 1225, 1247, 1309, 1328, 1342, 1373, 1382, 1440, 1464, 1530, 1155, 1163, 1176, 1356, 1341, 1439, 1512, 1197, 1387]
def msg (i : Nat) : String × Nat × String := ab_msgs.getD i ("", 0, "")
theorem nr_me : ∀ i, i < 20 → nar (ix_me.getD i 0) = .exactly (.string (msg i).1 (msg i).2.1) "java/lang/String" := by decide +kernel
theorem lt_ms : ∀ i, i < 20 → lw_tbl[ix_ms.getD i 0]? = some (.stringRef (msg i).1 (msg i).2.1 (msg i).2.2) := by decide +kernel
theorem nr_n0 : nar (447) = .not (.castable "java/lang/IllegalArgumentException" "java/lang/IndexOutOfBoundsException") := by decide +kernel
theorem nr_n1 : nar (451) = .not (.castable "java/lang/IllegalStateException" "java/lang/IndexOutOfBoundsException") := by decide +kernel
theorem nr_n2 : nar (438) = .not (.castable "java/lang/IllegalStateException" "java/lang/IllegalArgumentException") := by decide +kernel
def ix_ls : List Nat := [2154, 2155, 2156, 2157, 2158, 2159, 2160, 2161, 2162, 2163, 1066, 1084, 1080, 1082, 1086, 1088]
theorem lt_ls : ∀ i, i < 16 → lw_tbl[ix_ls.getD i 0]? = some (.laysStatic RX7 (wd_nm.getD i "") "LTabulator$Word;") := by decide +kernel
theorem lt_1 : lw_tbl[1003]? = some (.laysStatic RX7 "ALL" "[LTabulator$Word;") := by decide +kernel
theorem lt_2 : lw_tbl[1009]? = some (.laysStatic RX0 "$SwitchMap$Tabulator$Word" "[I") := by decide +kernel
theorem lt_3 : lw_tbl[600]? = some (.laysStatic "java/lang/String" "COMPACT_STRINGS" "Z") := by decide +kernel
theorem lt_4 : lw_tbl[685]? = some (.laysStatic "jdk/internal/util/Preconditions" "SIOOBE_FORMATTER" "Ljava/util/function/BiFunction;") := by decide +kernel
theorem lt_5 : lw_tbl[577]? = some (.laysStatic Bundle.tN "SUPPRESSED_SENTINEL" Bundle.listD) := by decide +kernel
theorem lt_6 : lw_tbl[575]? = some (.laysStatic Bundle.tN "UNASSIGNED_STACK" Bundle.steD) := by decide +kernel
theorem lt_7 : lw_tbl[135]? = some (.initialized RX7) := by decide +kernel
theorem lt_8 : lw_tbl[136]? = some (.initialized RX0) := by decide +kernel
theorem lt_9 : lw_tbl[139]? = some (.initialized "java/lang/String") := by decide +kernel
theorem lt_10 : lw_tbl[144]? = some (.initialized "jdk/internal/util/Preconditions") := by decide +kernel
theorem lt_11 : lw_tbl[130]? = some (.initialized Bundle.tN) := by decide +kernel
theorem lt_12 : lw_tbl[390]? = some (.arrayOver (.object RX3)) := by decide +kernel
theorem lt_13 : lw_tbl[1663]? = some (.stringRef RX9 110 kw_tx) := by decide +kernel
