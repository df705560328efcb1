/-! THE LAW'S ENTRY: its locals hold the script alone (tgen's text of 99.lawm, without a receiver) -/
def F_L_main (μ : Mem) (Z : ZT) : Prop :=
  dl (gN μ) fun x1 =>
  dl (stN μ 7 0) fun μ2 =>
  da (23 ≤ x1) <|
  db (F_X8_init x1 μ2) <| fun μ4 =>
  dk (KP μ2 μ4) <|
  dl (gN μ4) fun x7 =>
  dl (stN μ4 8 0) fun μ8 =>
  da (23 ≤ x7) <|
  db (F_X9_init x7 μ8) <| fun μ10 =>
  dk (KP μ8 μ10) <|
  dl (gN μ10) fun x13 =>
  dl (stN μ10 102 1) fun μ14 =>
  dl (gN μ14) fun x15 =>
  dl (stN μ14 104 1) fun μ16 =>
  L_L_law_28 Z 520 x1 x7 x13 x15 (0 : Int32) μ16
theorem C_L_main {μ : Mem} {Z : ZT} (h : F_L_main μ Z) : S m_L_law Z 0 0 0 (ab_ent0 [.ref 1]) [] μ := by
  unfold F_L_main at h
  refine (S.sub (lv' := [some (.ref 1), none, none, none, none, none, none, none, none]) ?_ (le_s (le_m (le_m (le_m (le_m (le_m (le_m (le_m (le_m (le_0)))))))))))
  obtain ⟨x1, ex1, h⟩ := dl_o h
  obtain ⟨μ2, eμ2, h⟩ := dl_o h
  refine S_new (pc := 0) (ci := 6) dL_law_0 rfl hin_6 tyX8_ok w_151 w_152 w_121 (by decide) (by decide) hty_6 ?_
  refine S_evR ex1 ?_
  refine S_evM eμ2 ?_
  refine S_dup (pc := 3) dL_law_3 rfl ?_
  obtain ⟨c3, h⟩ := da_o h
  obtain ⟨μ4, e5, h⟩ := db_o h
  refine S_cIk (pc := 4) (args := []) (st := [.ref x1]) (K := m_X8_init) (cells' := 120) (slots' := 23858) (μ2 := μ4) (o := none) (r := x1) dL_law_4 c3 rfl rfl rfl w_153 w_154 hl_X8_init (KW.ck (n := 0) (L := 0) (C := 0) (W := 0) kw_X8_init (by decide) (by decide) (by decide) (by decide)) (Nat.le_of_ble_eq_true rfl) (C_X8_init e5) rfl rfl (fun kk6 => ?_)
  replace h := dk_o h kk6
  refine S_astore_n (pc := 7) (lv' := [some (.ref 1), some (.ref x1), none, none, none, none, none, none, none]) dL_law_7 rfl (by decide) rfl ?_
  obtain ⟨x7, ex7, h⟩ := dl_o h
  obtain ⟨μ8, eμ8, h⟩ := dl_o h
  refine S_new (pc := 8) (ci := 7) dL_law_8 rfl hin_7 tyX9_ok w_1531 w_1532 w_129 (by decide) (by decide) hty_7 ?_
  refine S_evR ex7 ?_
  refine S_evM eμ8 ?_
  refine S_dup (pc := 11) dL_law_11 rfl ?_
  obtain ⟨c9, h⟩ := da_o h
  obtain ⟨μ10, e11, h⟩ := db_o h
  refine S_cIk (pc := 12) (args := []) (st := [.ref x7]) (K := m_X9_init) (cells' := 132) (slots' := 70472) (μ2 := μ10) (o := none) (r := x7) dL_law_12 c9 rfl rfl rfl w_1533 w_1534 hl_X9_init (KW.ck (n := 0) (L := 0) (C := 0) (W := 0) kw_X9_init (by decide) (by decide) (by decide) (by decide)) (Nat.le_of_ble_eq_true rfl) (C_X9_init e11) rfl rfl (fun kk12 => ?_)
  replace h := dk_o h kk12
  refine S_astore_n (pc := 15) (lv' := [some (.ref 1), some (.ref x1), some (.ref x7), none, none, none, none, none, none]) dL_law_15 rfl (by decide) rfl ?_
  refine S_iconst (pc := 16) dL_law_16 ic_1 ?_
  obtain ⟨x13, ex13, h⟩ := dl_o h
  obtain ⟨μ14, eμ14, h⟩ := dl_o h
  refine S_newaJ (pc := 17) (N := 1) dL_law_17 (by decide) (by decide) (by decide) (by decide) (by decide) w_190 ?_
  refine S_evR ex13 ?_
  refine S_evM eμ14 ?_
  refine S_astore_n (pc := 19) (lv' := [some (.ref 1), some (.ref x1), some (.ref x7), some (.ref x13), none, none, none, none, none]) dL_law_19 rfl (by decide) rfl ?_
  refine S_iconst (pc := 20) dL_law_20 ic_1 ?_
  obtain ⟨x15, ex15, h⟩ := dl_o h
  obtain ⟨μ16, eμ16, h⟩ := dl_o h
  refine S_newaD (pc := 21) (N := 1) dL_law_21 (by decide) (by decide) (by decide) (by decide) (by decide) w_2141 ?_
  refine S_evR ex15 ?_
  refine S_evM eμ16 ?_
  refine S_astore (pc := 23) (lv' := [some (.ref 1), some (.ref x1), some (.ref x7), some (.ref x13), some (.ref x15), none, none, none, none]) dL_law_23 (by decide) rfl ?_
  refine S_iconst (pc := 25) dL_law_25 ic_0 ?_
  refine S_istore (pc := 26) (lv' := [some (.ref 1), some (.ref x1), some (.ref x7), some (.ref x13), some (.ref x15), some (.int (0 : Int32)), none, none, none]) dL_law_26 (by decide) rfl ?_
  exact S.sub (tl_L_law_28 520 134 70474 (by decide) (by decide) _ _ _ _ _ _  h) (le_s (le_s (le_s (le_s (le_s (le_s (le_n (le_n (le_n (le_0))))))))))
