/-! The law: its loop as a whole, and its start. Printed by wip/whole/law3.py -/
theorem lw_lt {i len : Nat} (hl : len ≤ 2560) (hi : i ≤ 2565) : nI len - 5 < nI i ↔ len < i + 5 := by
  rw [Int32.lt_iff_toInt_lt, Int32.toInt_sub, nI_toInt (by omega), nI_toInt (by omega), show (5 : Int32).toInt = 5 from rfl, Int.bmod_eq_of_le (by omega) (by omega)]
  omega
theorem lw_nI (x : Int32) : x = nI x.toBitVec.toNat := by
  apply Int32.toBitVec_inj.mp
  show x.toBitVec = BitVec.ofNat 32 x.toBitVec.toNat
  exact (BitVec.ofNat_toNat 32 x.toBitVec).symm.trans rfl |>.symm.symm ▸ by simp
theorem lw_and (x : Int32) : ∃ t, t < 32 ∧ x &&& 31 = nI t := by
  refine ⟨x.toBitVec.toNat % 2 ^ 5, Nat.mod_lt _ (by decide), ?_⟩
  have h := pk_andN (n := x.toBitVec.toNat) x.toBitVec.isLt (m := 31) 5 (by decide)
  rw [← lw_nI x] at h
  exact h
theorem law_head {l : Launch} {D : gzD} {K : gzK} {len : Nat} {sc : Nat → Int32} (hD : RM D) (hls : l.stackTraces = false) (hl : len ≤ 2560) (kend : ∀ M n nc ns, K (.inl (some (.int 1))) M n nc ns) {q b : Nat} (hq5 : q ≤ 512) (hb : q < 512 → b + 1000 ≤ 300000) (k : q < 512 → LK l D K len sc (5 * q) (b + 560) (q + 1)) : ∀ (S : gS) (L : gL) (v : gV) (g : gG) (T : CT) (f : Nat → Value) (M : gzM) (n nc ns : Nat) (a5 a6 a7 : Option Value), RF M S L M → RC M b v g T M n nc ns → Rel 12 true S T → IV T q → M 2 = some (.inl (0, len, fun j => .int (sc j))) → M 113 = some (.inl (2, 1, f)) → GZ l P1 D F_L_law K 23 [some (.ref 2), some (.ref 3), some (.ref 83), some (.ref 113), some (.int (nI (5 * q))), a5, a6, a7] [] M n nc ns := by
  intro S L v g T f M n nc ns a5 a6 a7 hR hC hT hV h2 hO
  refine gz_iload gd_L_law_23 rfl ?_
  refine gz_aload_n gd_L_law_25 rfl rfl (gz_isr.r _) ?_
  refine gz_alen gd_L_law_26 rfl h2 ?_
  refine gz_iconst (v := 5) gd_L_law_27 (by decide) ?_
  refine gz_isub gd_L_law_28 ?_
  refine gz_icmp_gt (tgt := 1517) gd_L_law_29 (by decide) (fun h29 => ?_) (fun h29 => ?_)
  · refine gz_iconst (v := 1) gd_L_law_1517 (by decide) ?_
    refine gz_ireturn gd_L_law_1518 rfl rfl ?_
    exact kend _ _ _ _
  rw [lw_lt hl (by omega)] at h29
  have hi : 5 * q + 5 ≤ len := by omega
  have hq : q < 512 := by omega
  replace hb := hb hq
  replace k := k hq
  refine gz_aload_n gd_L_law_32 rfl rfl (gz_isr.r _) ?_
  refine gz_iload gd_L_law_33 rfl ?_
  refine gz_iaload (i := 5 * q) gd_L_law_35 rfl h2 rfl (by omega) (by omega) rfl ?_
  refine gz_bipush (v := 31) gd_L_law_36 (by decide) ?_
  refine gz_iand gd_L_law_38 ?_
  obtain ⟨t, ht, e⟩ := lw_and (sc (5 * q))
  rw [e]
  by_cases c : 22 < t
  · refine gz_tableOut (tgt := 1511) gd_L_law_39 (Or.inr (by rw [nI_toInt (by omega)]; omega)) (by decide) ?_
    exact k _ _ _ _ _ _ _ _ _ _ _ _ _ hR (hC.le (by omega)) hT hV.next h2 hO
  have ht : t = 0 ∨ t = 1 ∨ t = 2 ∨ t = 3 ∨ t = 4 ∨ t = 5 ∨ t = 6 ∨ t = 7 ∨ t = 8 ∨ t = 9 ∨ t = 10 ∨ t = 11 ∨ t = 12 ∨ t = 13 ∨ t = 14 ∨ t = 15 ∨ t = 16 ∨ t = 17 ∨ t = 18 ∨ t = 19 ∨ t = 20 ∨ t = 21 ∨ t = 22 := by omega
  rcases ht with rfl | rfl | rfl | rfl | rfl | rfl | rfl | rfl | rfl | rfl | rfl | rfl | rfl | rfl | rfl | rfl | rfl | rfl | rfl | rfl | rfl | rfl | rfl
  · refine gz_tableIn (off := 105) (tgt := 144) gd_L_law_39 (by decide) (by decide) rfl (by decide) ?_
    exact lc_precinct hR hC hT hV hq hD hb hls h2 hO hi hl k
  · refine gz_tableIn (off := 165) (tgt := 204) gd_L_law_39 (by decide) (by decide) rfl (by decide) ?_
    exact lc_votes hR hC hT hV hq hD hb hls h2 hO hi hl k
  · refine gz_tableIn (off := 233) (tgt := 272) gd_L_law_39 (by decide) (by decide) rfl (by decide) ?_
    exact lc_version hR hC hT hV hq hD hb hls h2 hO hi hl k
  · refine gz_tableIn (off := 325) (tgt := 364) gd_L_law_39 (by decide) (by decide) rfl (by decide) ?_
    exact lc_hang hR hC hT hV hq hD hb hls h2 hO hi hl k
  · refine gz_tableIn (off := 393) (tgt := 432) gd_L_law_39 (by decide) (by decide) rfl (by decide) ?_
    exact lc_fail hR hC hT hV hq hD hb hls h2 hO hi hl k
  · refine gz_tableIn (off := 449) (tgt := 488) gd_L_law_39 (by decide) (by decide) rfl (by decide) ?_
    exact lc_revive hR hC hT hV hq hD hb hls h2 hO hi hl k
  · refine gz_tableIn (off := 505) (tgt := 544) gd_L_law_39 (by decide) (by decide) rfl (by decide) ?_
    exact lc_move hR hC hT hV hq hD hb hls h2 hO hi hl k
  · refine gz_tableIn (off := 580) (tgt := 619) gd_L_law_39 (by decide) (by decide) rfl (by decide) ?_
    exact lc_deliver hR hC hT hV hq hD hb hls h2 hO hi hl k
  · refine gz_tableIn (off := 643) (tgt := 682) gd_L_law_39 (by decide) (by decide) rfl (by decide) ?_
    exact lc_drop hR hC hT hV hq hD hb hls h2 hO hi hl k
  · refine gz_tableIn (off := 699) (tgt := 738) gd_L_law_39 (by decide) (by decide) rfl (by decide) ?_
    exact lc_twin hR hC hT hV hq hD hb hls h2 hO hi hl k
  · refine gz_tableIn (off := 755) (tgt := 794) gd_L_law_39 (by decide) (by decide) rfl (by decide) ?_
    exact lc_resend hR hC hT hV hq hD hb hls h2 hO hi hl k
  · refine gz_tableIn (off := 811) (tgt := 850) gd_L_law_39 (by decide) (by decide) rfl (by decide) ?_
    exact lc_letters hR hC hT hV hq hD hb hls h2 hO hi hl k
  · refine gz_tableIn (off := 824) (tgt := 863) gd_L_law_39 (by decide) (by decide) rfl (by decide) ?_
    exact lc_letter hR hC hT hV hq hD hb hls h2 hO hi hl k
  · refine gz_tableIn (off := 892) (tgt := 931) gd_L_law_39 (by decide) (by decide) rfl (by decide) ?_
    exact lc_sum hR hC hT hV hq hD hb hls h2 hO hi hl k
  · refine gz_tableIn (off := 959) (tgt := 998) gd_L_law_39 (by decide) (by decide) rfl (by decide) ?_
    exact lc_included hR hC hT hV hq hD hb hls h2 hO hi hl k
  · refine gz_tableIn (off := 1027) (tgt := 1066) gd_L_law_39 (by decide) (by decide) rfl (by decide) ?_
    exact lc_through hR hC hT hV hq hD hb hls h2 hO hi hl k
  · refine gz_tableIn (off := 1095) (tgt := 1134) gd_L_law_39 (by decide) (by decide) rfl (by decide) ?_
    exact lc_held hR hC hT hV hq hD hb hls h2 hO hi hl k
  · refine gz_tableIn (off := 1174) (tgt := 1213) gd_L_law_39 (by decide) (by decide) rfl (by decide) ?_
    exact lc_marked hR hC hT hV hq hD hb hls h2 hO hi hl k
  · refine gz_tableIn (off := 1230) (tgt := 1269) gd_L_law_39 (by decide) (by decide) rfl (by decide) ?_
    exact lc_office hR hC hT hV hq hD hb hls h2 hO hi hl k
  · refine gz_tableIn (off := 1298) (tgt := 1337) gd_L_law_39 (by decide) (by decide) rfl (by decide) ?_
    exact lc_newest hR hC hT hV hq hD hb hls h2 hO hi hl k
  · refine gz_tableIn (off := 1354) (tgt := 1393) gd_L_law_39 (by decide) (by decide) rfl (by decide) ?_
    exact lc_seats hR hC hT hV hq hD hb hls h2 hO hi hl k
  · refine gz_tableIn (off := 1446) (tgt := 1485) gd_L_law_39 (by decide) (by decide) rfl (by decide) ?_
    exact lc_atRest hR hC hT hV hq hD hb hls h2 hO hi hl k
  · refine gz_tableIn (off := 1459) (tgt := 1498) gd_L_law_39 (by decide) (by decide) rfl (by decide) ?_
    exact lc_astray hR hC hT hV hq hD hb hls h2 hO hi hl k
theorem law_loop {l : Launch} {D : gzD} {K : gzK} {len : Nat} {sc : Nat → Int32} (hD : RM D) (hls : l.stackTraces = false) (hl : len ≤ 2560) (kend : ∀ M n nc ns, K (.inl (some (.int 1))) M n nc ns) : ∀ (m q b : Nat), q + m = 512 → b + 560 * m ≤ 299000 → ∀ (S : gS) (L : gL) (v : gV) (g : gG) (T : CT) (f : Nat → Value) (M : gzM) (n nc ns : Nat) (a5 a6 a7 : Option Value), RF M S L M → RC M b v g T M n nc ns → Rel 12 true S T → IV T q → M 2 = some (.inl (0, len, fun j => .int (sc j))) → M 113 = some (.inl (2, 1, f)) → GZ l P1 D F_L_law K 23 [some (.ref 2), some (.ref 3), some (.ref 83), some (.ref 113), some (.int (nI (5 * q))), a5, a6, a7] [] M n nc ns
  | 0, q, b, hm, hb => law_head hD hls hl kend (by omega) (by omega) (fun h => absurd h (by omega))
  | m + 1, q, b, hm, hb => law_head hD hls hl kend (by omega) (by omega) (fun _ => by
    intro S L v g T f M n nc ns a5 a6 a7 hR hC hT hV h2 hO
    refine gz_iinc (v := nI (5 * (q + 1))) gd_L_law_1511 rfl (show nI (5 * q) + nI 5 = nI (5 * (q + 1)) by rw [nI_add, show 5 * q + 5 = 5 * (q + 1) by omega]) (Nat.le_of_ble_eq_true rfl) rfl ?_
    refine gz_goto (tgt := 23) gd_L_law_1514 (by decide) ?_
    exact law_loop hD hls hl kend m (q + 1) (b + 560) (by omega) (by omega) S L v g T f M n nc ns a5 a6 a7 hR hC hT hV h2 hO)
theorem FH.keep {M M' : gzM} {o : Nat} (h : FH M o) (hM : ∀ j, j < 83 → M' j = M j) : FH M' o := by
  obtain ⟨h3, h4, ⟨f5, h5, hf5⟩, h6, h7, h8, h9, h10⟩ := h
  exact ⟨(hM _ (by omega)).trans h3, (hM _ (by omega)).trans h4, ⟨f5, (hM _ (by omega)).trans h5, hf5⟩, (hM _ (by omega)).trans h6, (hM _ (by omega)).trans h7, (hM _ (by omega)).trans h8, (hM _ (by omega)).trans h9, (hM _ (by omega)).trans h10⟩
theorem RC_0 {M : gzM} {v : gV} {fe : Nat → Value} {nc ns : Nat} (hH : FH M 12) (hO : ∀ i, i < 12 → OF M i) (h1 : M 1 = some (.inl (7, 0, fe))) (hfr : ∀ j, 114 ≤ j → M j = none) (hnc : nc ≤ 120) (hns : ns ≤ 300000) : RC M 120 v (g0 fe) CT0 M 114 nc ns := by
  have hp1 : potW CT0 = 0 := by decide
  have hp2 : potO CT0 = 0 := by decide
  refine ⟨FX_0 hH hO, ⟨fun j hj => ⟨h1, fun _ => rfl, fun h => absurd rfl h⟩, ⟨Nat.le_refl _, Nat.zero_le _⟩, fun o ho => ⟨Nat.le_refl _, Nat.zero_le _⟩, fun o ho => ⟨Nat.le_refl _, Nat.zero_le _⟩, fun i j _ _ h _ => absurd rfl h, fun i x hx => (by cases hx), fun o i x _ hx => (by cases hx), fun o i x _ hx => (by cases hx), fun w h0 hw => ?_, fun p _ ht => (by cases ht), fun p _ ht => (by cases ht), fun p q _ _ ht _ _ => (by cases ht), hfr, Nat.le_refl _, fun k _ => rfl, ⟨fe, h1⟩⟩, ⟨by rw [hp1, hp2]; omega, by rw [hp1, hp2]; omega⟩⟩
  have : w ≤ 0 := hw
  omega
theorem law_start {l : Launch} {D : gzD} {K : gzK} {M : gzM} {len : Nat} {sc : Nat → Int32} {fe : Nat → Value} (hD : RM D) (hls : l.stackTraces = false) (hl : len ≤ 2560) (kend : ∀ M n nc ns, K (.inl (some (.int 1))) M n nc ns) (h1 : M 1 = some (.inl (7, 0, fe))) (h2 : M 2 = some (.inl (0, len, fun j => .int (sc j)))) (hfr : ∀ j, 3 ≤ j → M j = none) : GZ l P1 D F_L_law K 0 [some (.ref 2), none, none, none, none, none, none, none] [] M 3 0 0 := by
  have hD1 := hD.1
  have hD2 := hD.2
  refine gy_newS (sz := 10) gd_L_law_0 gn_L_law_0 rfl (by omega) (by omega) (fun M1 hA1 hN1 => ?_)
  refine gz_dup gd_L_law_3 rfl ?_
  refine gz_special0 gd_L_law_4 gs_L_law_4 (Nat.le_of_ble_eq_true rfl) (Nat.le_of_ble_eq_true rfl) ?_
  refine h_init hA1 (fun j hj => (hN1 j (by omega)).trans (hfr j (by omega))) (by omega) (by omega) (fun M2 hH hOF hlo hhi => ?_)
  refine gz_astore_n gd_L_law_7 rfl (Nat.le_of_ble_eq_true rfl) rfl (gz_isr.r _) ?_
  refine gy_newS (sz := 34) gd_L_law_8 gn_L_law_8 rfl (by omega) (by omega) (fun M3 hA3 hN3 => ?_)
  refine gz_dup gd_L_law_11 rfl ?_
  refine gz_special0 gd_L_law_12 gs_L_law_12 (Nat.le_of_ble_eq_true rfl) (Nat.le_of_ble_eq_true rfl) ?_
  refine m_init hA3 (fun j hj => (hN3 j (by omega)).trans (hhi j (by omega))) (by omega) (by omega) (fun S L M4 hR hT => ?_)
  refine gz_astore_n gd_L_law_15 rfl (Nat.le_of_ble_eq_true rfl) rfl (gz_isr.r _) ?_
  refine gz_iconst (v := 1) gd_L_law_16 (by decide) ?_
  refine gy_newarray (kd := 2) (N := 1) gd_L_law_17 rfl rfl gw_115 rfl (by decide) (by decide) (by omega) (by omega) (fun M5 hA5 hN5 => ?_)
  refine gz_astore_n gd_L_law_19 rfl (Nat.le_of_ble_eq_true rfl) rfl (gz_isr.r _) ?_
  refine gz_iconst (v := 0) gd_L_law_20 (by decide) ?_
  refine gz_istore gd_L_law_21 (Nat.le_of_ble_eq_true rfl) rfl ?_
  have hlow : ∀ j, j < 83 → M5 j = M2 j := fun j hj => (hN5 j (by omega)).trans ((hR.2.2.2 j (by omega)).trans (hN3 j (by omega)))
  have h1' : M5 1 = some (.inl (7, 0, fe)) := (hlow 1 (by omega)).trans ((hlo 1 (by omega)).trans ((hN1 1 (by omega)).trans h1))
  have h2' : M5 2 = some (.inl (0, len, fun j => .int (sc j))) := (hlow 2 (by omega)).trans ((hlo 2 (by omega)).trans ((hN1 2 (by omega)).trans h2))
  have hR5 : RF M5 S L M5 := hR.self.mv (fun j h _ => hN5 j (by omega))
  have hC5 : RC M5 120 (fun _ => 0, fun _ => 0, fun _ => 0) (g0 fe) CT0 M5 114 (0 + 1 + 79 + 1 + 29 + 1) (0 + 10 + 1711 + 34 + 270609 + 1) := RC_0 (hH.keep hlow) (fun i hi => (hOF i hi).keep (fun j _ hj => hlow j (by omega))) h1' (fun j hj => (hN5 j (by omega)).trans ((hR.2.2.2 j (by omega)).trans ((hN3 j (by omega)).trans (hhi j (by omega))))) (by omega) (by omega)
  exact law_loop hD hls hl kend 512 0 120 (by omega) (by omega) S L _ _ CT0 _ M5 _ _ _ none none none hR5 hC5 hT IV_0 h2' hA5
