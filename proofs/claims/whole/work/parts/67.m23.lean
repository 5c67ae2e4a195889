/-! The reference: its constructor. Printed by wip/whole/m23.py -/
def SP (j : Nat) : Option gzE := if j = 110 ∨ j = 111 then some (.inl (2, 6, fun _ => .long 0)) else some (.inl (md_kd j, md_len j, fun _ => .int 0))
def Q1 (S : gS) (i : Nat) : Prop := (∀ o, o < i → S 92 o = 1 ∧ S 93 o = -1) ∧ ∀ a b, a ≠ 92 → a ≠ 93 → S a b = 0
def Q2 (S : gS) (i : Nat) : Prop := (∀ o, o < 12 → S 92 o = 1 ∧ S 93 o = -1) ∧ (∀ k, k < i → S 96 k = -1) ∧ ∀ a b, a ≠ 92 → a ≠ 93 → a ≠ 96 → S a b = 0
theorem Rel_0 {S : gS} (h : Q2 S 480) : Rel 12 true S CT0 := by
  obtain ⟨h1, h2, h3⟩ := h
  have z : ∀ a b, a ≠ 92 → a ≠ 93 → a ≠ 96 → S a b = 0 := h3
  refine ⟨fun p _ => z _ _ (by decide) (by decide) (by decide), fun p _ => z _ _ (by decide) (by decide) (by decide), fun p _ => z _ _ (by decide) (by decide) (by decide), fun p _ => z _ _ (by decide) (by decide) (by decide), z _ _ (by decide) (by decide) (by decide), fun i _ => z _ _ (by decide) (by decide) (by decide), fun i k _ _ => z _ _ (by decide) (by decide) (by decide), fun i _ => z _ _ (by decide) (by decide) (by decide), fun k _ => z _ _ (by decide) (by decide) (by decide), fun o ho => (h1 o ho).1, fun o ho => (h1 o ho).2, fun o _ => z _ _ (by decide) (by decide) (by decide), fun o p _ _ => z _ _ (by decide) (by decide) (by decide), fun o p ho hp => h2 _ (by omega), fun o p _ _ => z _ _ (by decide) (by decide) (by decide), fun o _ => z _ _ (by decide) (by decide) (by decide), fun o i x _ _ hx => (by cases hx), fun o _ => z _ _ (by decide) (by decide) (by decide), fun o _ _ => z _ _ (by decide) (by decide) (by decide), fun o i x _ _ _ hx => (by cases hx), fun _ => z _ _ (by decide) (by decide) (by decide), fun _ i x _ hx => (by cases hx), z _ _ (by decide) (by decide) (by decide), z _ _ (by decide) (by decide) (by decide), z _ _ (by decide) (by decide) (by decide)⟩
theorem m_init249 {l : Launch} {D : gzD} {K : gzK} {M Mz : gzM} {n nc ns : Nat} {L : gL} (hR : RF Mz (fun _ _ => 0) L M) (k : ∀ S L M, RF Mz S L M → Rel 12 true S CT0 → K (.inl none) M n nc ns) : GZ l P1 D F_M_init K 249 [some (.ref 83), none] [] M n nc ns := by
  refine gz_iconst (v := 0) gd_M_init_249 (by decide) ?_
  refine gz_istore_n gd_M_init_250 rfl (Nat.le_of_ble_eq_true rfl) rfl ?_
  have loop : ∀ (j i : Nat), i + j = 12 → ∀ S M, RF Mz S L M → Q1 S i → GZ l P1 D F_M_init K 251 [some (.ref 83), some (.int (nI i))] [] M n nc ns := by
    intro j
    induction j with
    | zero =>
      intro i hi S M hR hQ
      refine gz_iload_n gd_M_init_251 rfl rfl ?_
      refine gz_bipush (v := 12) gd_M_init_252 (by decide) ?_
      refine gz_icmp_ge (tgt := 277) gd_M_init_254 (by decide) (fun h254 => ?_) (fun h254 => ?_)
      ·
        replace h254 := (nI_leI (a := 12) (b := i) (by omega) (by omega)).1 h254
        refine gz_iconst (v := 0) gd_M_init_277 (by decide) ?_
        refine gz_istore_n gd_M_init_278 rfl (Nat.le_of_ble_eq_true rfl) rfl ?_
        have e12 : i = 12 := by omega
        subst e12
        have loop2 : ∀ (j i : Nat), i + j = 480 → ∀ S M, RF Mz S L M → Q2 S i → GZ l P1 D F_M_init K 279 [some (.ref 83), some (.int (nI i))] [] M n nc ns := by
          intro j
          induction j with
          | zero =>
            intro i hi S M hR hQ
            refine gz_iload_n gd_M_init_279 rfl rfl ?_
            refine gz_sipush (v := 480) gd_M_init_280 (by decide) ?_
            refine gz_icmp_ge (tgt := 299) gd_M_init_283 (by decide) (fun h283 => ?_) (fun h283 => ?_)
            ·
              replace h283 := (nI_leI (a := 480) (b := i) (by omega) (by omega)).1 h283
              refine gz_return gd_M_init_299 rfl ?_
              have e480 : i = 480 := by omega
              subst e480
              exact k _ _ _ hR (Rel_0 hQ)
            ·
              replace h283 := mt (nI_leI (a := 480) (b := i) (by omega) (by omega)).2 h283
              omega
          | succ j ih2 =>
            intro i hi S M hR hQ
            refine gz_iload_n gd_M_init_279 rfl rfl ?_
            refine gz_sipush (v := 480) gd_M_init_280 (by decide) ?_
            refine gz_icmp_ge (tgt := 299) gd_M_init_283 (by decide) (fun h283 => ?_) (fun h283 => ?_)
            ·
              replace h283 := (nI_leI (a := 480) (b := i) (by omega) (by omega)).1 h283
              omega
            ·
              replace h283 := mt (nI_leI (a := 480) (b := i) (by omega) (by omega)).2 h283
              refine gz_aload_n gd_M_init_286 rfl rfl (gz_isr.r _) ?_
              refine md_getf gd_M_init_287 gf_M_47 hR rfl ?_
              refine gz_iload_n gd_M_init_290 rfl rfl ?_
              refine gz_iconst (v := -1) gd_M_init_291 (by decide) ?_
              refine md_iastore (a := 96) (i := i) gd_M_init_292 hR rfl rfl rfl (show _ < 480 from (by omega)) (fun M hR => ?_)
              refine gz_iinc (v := nI (i + 1)) gd_M_init_293 rfl (nI_1 i) (Nat.le_of_ble_eq_true rfl) rfl ?_
              refine gz_goto (tgt := 279) gd_M_init_296 (by decide) ?_
              refine ih2 (i + 1) (by omega) _ _ hR ⟨fun o ho => ?_, fun k hk => ?_, fun a b h1 h2 h3 => ?_⟩
              · rw [gs_ne (by omega), gs_ne (by omega)]
                exact hQ.1 o ho
              · by_cases c : k = i
                · rw [c, gs_same]
                · rw [gs_ne (by omega)]
                  exact hQ.2.1 k (by omega)
              · rw [gs_ne (by omega)]
                exact hQ.2.2 a b h1 h2 h3
        exact loop2 480 0 (by omega) _ _ hR ⟨hQ.1, fun k hk => absurd hk (Nat.not_lt_zero _), fun a b h1 h2 _ => hQ.2 a b h1 h2⟩
      ·
        replace h254 := mt (nI_leI (a := 12) (b := i) (by omega) (by omega)).2 h254
        omega
    | succ j ih =>
      intro i hi S M hR hQ
      refine gz_iload_n gd_M_init_251 rfl rfl ?_
      refine gz_bipush (v := 12) gd_M_init_252 (by decide) ?_
      refine gz_icmp_ge (tgt := 277) gd_M_init_254 (by decide) (fun h254 => ?_) (fun h254 => ?_)
      ·
        replace h254 := (nI_leI (a := 12) (b := i) (by omega) (by omega)).1 h254
        omega
      ·
        replace h254 := mt (nI_leI (a := 12) (b := i) (by omega) (by omega)).2 h254
        refine gz_aload_n gd_M_init_257 rfl rfl (gz_isr.r _) ?_
        refine md_getf gd_M_init_258 gf_M_35 hR rfl ?_
        refine gz_iload_n gd_M_init_261 rfl rfl ?_
        refine gz_iconst (v := 1) gd_M_init_262 (by decide) ?_
        refine md_zastore (a := 92) (i := i) gd_M_init_263 hR rfl rfl rfl (show _ < 12 from (by omega)) rfl (fun M hR => ?_)
        refine gz_aload_n gd_M_init_264 rfl rfl (gz_isr.r _) ?_
        refine md_getf gd_M_init_265 gf_M_38 hR rfl ?_
        refine gz_iload_n gd_M_init_268 rfl rfl ?_
        refine gz_iconst (v := -1) gd_M_init_269 (by decide) ?_
        refine md_iastore (a := 93) (i := i) gd_M_init_270 hR rfl rfl rfl (show _ < 12 from (by omega)) (fun M hR => ?_)
        refine gz_iinc (v := nI (i + 1)) gd_M_init_271 rfl (nI_1 i) (Nat.le_of_ble_eq_true rfl) rfl ?_
        refine gz_goto (tgt := 251) gd_M_init_274 (by decide) ?_
        refine ih (i + 1) (by omega) _ _ hR ⟨fun o ho => ?_, fun a b h1 h2 => ?_⟩
        · by_cases c : o = i
          · rw [c, gs_same, gs_ne (by omega), gs_same]
            exact ⟨rfl, rfl⟩
          · rw [gs_ne (by omega), gs_ne (by omega), gs_ne (by omega), gs_ne (by omega)]
            exact hQ.1 o (by omega)
        · rw [gs_ne (by omega), gs_ne (by omega)]
          exact hQ.2 a b h1 h2
  exact loop 12 0 (by omega) _ _ hR ⟨fun o ho => absurd ho (Nat.not_lt_zero _), fun _ _ _ _ => rfl⟩

theorem m_init {l : Launch} {D : gzD} {K : gzK} {M : gzM} {nc ns : Nat} (hA : M 83 = some (.inr (6, [.int 0, .null, .null, .null, .null, .int 0, .null, .null, .null, .null, .null, .null, .null, .null, .null, .null, .null, .null, .null, .null, .null, .null, .null, .int 0, .null, .null, .null, .null, .null, .int 0, .int 0, .null, .null, .null]))) (hfr : ∀ j, 84 ≤ j → M j = none) (hnc : nc + 100 ≤ D.2.2.2.1) (hns : ns + 300000 ≤ D.2.2.2.2.1) (k : ∀ S L M', RF M S L M' → Rel 12 true S CT0 → K (.inl none) M' 113 (nc + 29) (ns + 270609)) : GZ l P1 D F_M_init K 0 [some (.ref 83), none] [] M 84 nc ns := by
  obtain ⟨Mz, hMz⟩ : ∃ Mz, Mz = M := ⟨_, rfl⟩
  rw [← hMz] at k
  have hF : ∀ j, j ≠ 83 → j < 84 → M j = Mz j := fun j _ _ => by rw [hMz]
  have hfr0 := hfr
  have hG := hfr
  have hS : ∀ j, 84 ≤ j → j < 84 → M j = SP j := fun j h1 h2 => by omega
  refine gz_aload_n gd_M_init_0 rfl rfl (gz_isr.r _) ?_
  refine gz_objInit gd_M_init_1 gw_757 gw_30 gw_31 (by decide) (Nat.le_of_ble_eq_true rfl) ?_
  refine gz_aload_n gd_M_init_4 rfl rfl (gz_isr.r _) ?_
  refine gz_bipush (v := 40) gd_M_init_5 (by decide) ?_
  refine gy_newarray (kd := 3) (N := 40) gd_M_init_7 rfl rfl gw_116 rfl (by decide) (by decide) (by omega) (by omega) (fun M hX hN => ?_)
  replace hA := (hN 83 (by decide)).trans hA
  replace hS : ∀ j, 84 ≤ j → j < 85 → M j = SP j := fun j h1 h2 => by
    by_cases e : j = 84
    · rw [e]; exact hX
    · exact (hN j (by omega)).trans (hS j h1 (by omega))
  replace hF : ∀ j, j ≠ 83 → j < 84 → M j = Mz j := fun j h1 h2 => (hN j (by omega)).trans (hF j h1 h2)
  replace hG : ∀ j, 85 ≤ j → M j = none := fun j h1 => (hN j (by omega)).trans (hG j (by omega))
  refine gy_putf gd_M_init_9 gf_M_7 gc_6 gr_M_init_6_1 hA (gz_fits.a (gz_isr.r _)) (fun M hA hN => ?_)
  replace hA : M 83 = some (.inr (6, [.int 0, .ref 84, .null, .null, .null, .int 0, .null, .null, .null, .null, .null, .null, .null, .null, .null, .null, .null, .null, .null, .null, .null, .null, .null, .int 0, .null, .null, .null, .null, .null, .int 0, .int 0, .null, .null, .null])) := hA
  replace hS : ∀ j, 84 ≤ j → j < 85 → M j = SP j := fun j h1 h2 => (hN j (by omega)).trans (hS j h1 h2)
  replace hF : ∀ j, j ≠ 83 → j < 84 → M j = Mz j := fun j h1 h2 => (hN j h1).trans (hF j h1 h2)
  replace hG : ∀ j, 85 ≤ j → M j = none := fun j h1 => (hN j (by omega)).trans (hG j h1)
  refine gz_aload_n gd_M_init_12 rfl rfl (gz_isr.r _) ?_
  refine gz_bipush (v := 40) gd_M_init_13 (by decide) ?_
  refine gy_newarray (kd := 1) (N := 40) gd_M_init_15 rfl rfl gw_114 rfl (by decide) (by decide) (by omega) (by omega) (fun M hX hN => ?_)
  replace hA := (hN 83 (by decide)).trans hA
  replace hS : ∀ j, 84 ≤ j → j < 86 → M j = SP j := fun j h1 h2 => by
    by_cases e : j = 85
    · rw [e]; exact hX
    · exact (hN j (by omega)).trans (hS j h1 (by omega))
  replace hF : ∀ j, j ≠ 83 → j < 84 → M j = Mz j := fun j h1 h2 => (hN j (by omega)).trans (hF j h1 h2)
  replace hG : ∀ j, 86 ≤ j → M j = none := fun j h1 => (hN j (by omega)).trans (hG j (by omega))
  refine gy_putf gd_M_init_17 gf_M_13 gc_6 gr_M_init_6_2 hA (gz_fits.a (gz_isr.r _)) (fun M hA hN => ?_)
  replace hA : M 83 = some (.inr (6, [.int 0, .ref 84, .ref 85, .null, .null, .int 0, .null, .null, .null, .null, .null, .null, .null, .null, .null, .null, .null, .null, .null, .null, .null, .null, .null, .int 0, .null, .null, .null, .null, .null, .int 0, .int 0, .null, .null, .null])) := hA
  replace hS : ∀ j, 84 ≤ j → j < 86 → M j = SP j := fun j h1 h2 => (hN j (by omega)).trans (hS j h1 h2)
  replace hF : ∀ j, j ≠ 83 → j < 84 → M j = Mz j := fun j h1 h2 => (hN j h1).trans (hF j h1 h2)
  replace hG : ∀ j, 86 ≤ j → M j = none := fun j h1 => (hN j (by omega)).trans (hG j h1)
  refine gz_aload_n gd_M_init_20 rfl rfl (gz_isr.r _) ?_
  refine gz_bipush (v := 40) gd_M_init_21 (by decide) ?_
  refine gy_newarray (kd := 1) (N := 40) gd_M_init_23 rfl rfl gw_114 rfl (by decide) (by decide) (by omega) (by omega) (fun M hX hN => ?_)
  replace hA := (hN 83 (by decide)).trans hA
  replace hS : ∀ j, 84 ≤ j → j < 87 → M j = SP j := fun j h1 h2 => by
    by_cases e : j = 86
    · rw [e]; exact hX
    · exact (hN j (by omega)).trans (hS j h1 (by omega))
  replace hF : ∀ j, j ≠ 83 → j < 84 → M j = Mz j := fun j h1 h2 => (hN j (by omega)).trans (hF j h1 h2)
  replace hG : ∀ j, 87 ≤ j → M j = none := fun j h1 => (hN j (by omega)).trans (hG j (by omega))
  refine gy_putf gd_M_init_25 gf_M_17 gc_6 gr_M_init_6_3 hA (gz_fits.a (gz_isr.r _)) (fun M hA hN => ?_)
  replace hA : M 83 = some (.inr (6, [.int 0, .ref 84, .ref 85, .ref 86, .null, .int 0, .null, .null, .null, .null, .null, .null, .null, .null, .null, .null, .null, .null, .null, .null, .null, .null, .null, .int 0, .null, .null, .null, .null, .null, .int 0, .int 0, .null, .null, .null])) := hA
  replace hS : ∀ j, 84 ≤ j → j < 87 → M j = SP j := fun j h1 h2 => (hN j (by omega)).trans (hS j h1 h2)
  replace hF : ∀ j, j ≠ 83 → j < 84 → M j = Mz j := fun j h1 h2 => (hN j h1).trans (hF j h1 h2)
  replace hG : ∀ j, 87 ≤ j → M j = none := fun j h1 => (hN j (by omega)).trans (hG j h1)
  refine gz_aload_n gd_M_init_28 rfl rfl (gz_isr.r _) ?_
  refine gz_bipush (v := 40) gd_M_init_29 (by decide) ?_
  refine gy_newarray (kd := 1) (N := 40) gd_M_init_31 rfl rfl gw_114 rfl (by decide) (by decide) (by omega) (by omega) (fun M hX hN => ?_)
  replace hA := (hN 83 (by decide)).trans hA
  replace hS : ∀ j, 84 ≤ j → j < 88 → M j = SP j := fun j h1 h2 => by
    by_cases e : j = 87
    · rw [e]; exact hX
    · exact (hN j (by omega)).trans (hS j h1 (by omega))
  replace hF : ∀ j, j ≠ 83 → j < 84 → M j = Mz j := fun j h1 h2 => (hN j (by omega)).trans (hF j h1 h2)
  replace hG : ∀ j, 88 ≤ j → M j = none := fun j h1 => (hN j (by omega)).trans (hG j (by omega))
  refine gy_putf gd_M_init_33 gf_M_20 gc_6 gr_M_init_6_4 hA (gz_fits.a (gz_isr.r _)) (fun M hA hN => ?_)
  replace hA : M 83 = some (.inr (6, [.int 0, .ref 84, .ref 85, .ref 86, .ref 87, .int 0, .null, .null, .null, .null, .null, .null, .null, .null, .null, .null, .null, .null, .null, .null, .null, .null, .null, .int 0, .null, .null, .null, .null, .null, .int 0, .int 0, .null, .null, .null])) := hA
  replace hS : ∀ j, 84 ≤ j → j < 88 → M j = SP j := fun j h1 h2 => (hN j (by omega)).trans (hS j h1 h2)
  replace hF : ∀ j, j ≠ 83 → j < 84 → M j = Mz j := fun j h1 h2 => (hN j h1).trans (hF j h1 h2)
  replace hG : ∀ j, 88 ≤ j → M j = none := fun j h1 => (hN j (by omega)).trans (hG j h1)
  refine gz_aload_n gd_M_init_36 rfl rfl (gz_isr.r _) ?_
  refine gz_sipush (v := 301) gd_M_init_37 (by decide) ?_
  refine gy_newarray (kd := 1) (N := 301) gd_M_init_40 rfl rfl gw_114 rfl (by decide) (by decide) (by omega) (by omega) (fun M hX hN => ?_)
  replace hA := (hN 83 (by decide)).trans hA
  replace hS : ∀ j, 84 ≤ j → j < 89 → M j = SP j := fun j h1 h2 => by
    by_cases e : j = 88
    · rw [e]; exact hX
    · exact (hN j (by omega)).trans (hS j h1 (by omega))
  replace hF : ∀ j, j ≠ 83 → j < 84 → M j = Mz j := fun j h1 h2 => (hN j (by omega)).trans (hF j h1 h2)
  replace hG : ∀ j, 89 ≤ j → M j = none := fun j h1 => (hN j (by omega)).trans (hG j (by omega))
  refine gy_putf gd_M_init_42 gf_M_23 gc_6 gr_M_init_6_6 hA (gz_fits.a (gz_isr.r _)) (fun M hA hN => ?_)
  replace hA : M 83 = some (.inr (6, [.int 0, .ref 84, .ref 85, .ref 86, .ref 87, .int 0, .ref 88, .null, .null, .null, .null, .null, .null, .null, .null, .null, .null, .null, .null, .null, .null, .null, .null, .int 0, .null, .null, .null, .null, .null, .int 0, .int 0, .null, .null, .null])) := hA
  replace hS : ∀ j, 84 ≤ j → j < 89 → M j = SP j := fun j h1 h2 => (hN j (by omega)).trans (hS j h1 h2)
  replace hF : ∀ j, j ≠ 83 → j < 84 → M j = Mz j := fun j h1 h2 => (hN j h1).trans (hF j h1 h2)
  replace hG : ∀ j, 89 ≤ j → M j = none := fun j h1 => (hN j (by omega)).trans (hG j h1)
  refine gz_aload_n gd_M_init_45 rfl rfl (gz_isr.r _) ?_
  refine gz_sipush (v := 1806) gd_M_init_46 (by decide) ?_
  refine gy_newarray (kd := 1) (N := 1806) gd_M_init_49 rfl rfl gw_114 rfl (by decide) (by decide) (by omega) (by omega) (fun M hX hN => ?_)
  replace hA := (hN 83 (by decide)).trans hA
  replace hS : ∀ j, 84 ≤ j → j < 90 → M j = SP j := fun j h1 h2 => by
    by_cases e : j = 89
    · rw [e]; exact hX
    · exact (hN j (by omega)).trans (hS j h1 (by omega))
  replace hF : ∀ j, j ≠ 83 → j < 84 → M j = Mz j := fun j h1 h2 => (hN j (by omega)).trans (hF j h1 h2)
  replace hG : ∀ j, 90 ≤ j → M j = none := fun j h1 => (hN j (by omega)).trans (hG j (by omega))
  refine gy_putf gd_M_init_51 gf_M_26 gc_6 gr_M_init_6_7 hA (gz_fits.a (gz_isr.r _)) (fun M hA hN => ?_)
  replace hA : M 83 = some (.inr (6, [.int 0, .ref 84, .ref 85, .ref 86, .ref 87, .int 0, .ref 88, .ref 89, .null, .null, .null, .null, .null, .null, .null, .null, .null, .null, .null, .null, .null, .null, .null, .int 0, .null, .null, .null, .null, .null, .int 0, .int 0, .null, .null, .null])) := hA
  replace hS : ∀ j, 84 ≤ j → j < 90 → M j = SP j := fun j h1 h2 => (hN j (by omega)).trans (hS j h1 h2)
  replace hF : ∀ j, j ≠ 83 → j < 84 → M j = Mz j := fun j h1 h2 => (hN j h1).trans (hF j h1 h2)
  replace hG : ∀ j, 90 ≤ j → M j = none := fun j h1 => (hN j (by omega)).trans (hG j h1)
  refine gz_aload_n gd_M_init_54 rfl rfl (gz_isr.r _) ?_
  refine gz_sipush (v := 301) gd_M_init_55 (by decide) ?_
  refine gy_newarray (kd := 1) (N := 301) gd_M_init_58 rfl rfl gw_114 rfl (by decide) (by decide) (by omega) (by omega) (fun M hX hN => ?_)
  replace hA := (hN 83 (by decide)).trans hA
  replace hS : ∀ j, 84 ≤ j → j < 91 → M j = SP j := fun j h1 h2 => by
    by_cases e : j = 90
    · rw [e]; exact hX
    · exact (hN j (by omega)).trans (hS j h1 (by omega))
  replace hF : ∀ j, j ≠ 83 → j < 84 → M j = Mz j := fun j h1 h2 => (hN j (by omega)).trans (hF j h1 h2)
  replace hG : ∀ j, 91 ≤ j → M j = none := fun j h1 => (hN j (by omega)).trans (hG j (by omega))
  refine gy_putf gd_M_init_60 gf_M_29 gc_6 gr_M_init_6_8 hA (gz_fits.a (gz_isr.r _)) (fun M hA hN => ?_)
  replace hA : M 83 = some (.inr (6, [.int 0, .ref 84, .ref 85, .ref 86, .ref 87, .int 0, .ref 88, .ref 89, .ref 90, .null, .null, .null, .null, .null, .null, .null, .null, .null, .null, .null, .null, .null, .null, .int 0, .null, .null, .null, .null, .null, .int 0, .int 0, .null, .null, .null])) := hA
  replace hS : ∀ j, 84 ≤ j → j < 91 → M j = SP j := fun j h1 h2 => (hN j (by omega)).trans (hS j h1 h2)
  replace hF : ∀ j, j ≠ 83 → j < 84 → M j = Mz j := fun j h1 h2 => (hN j h1).trans (hF j h1 h2)
  replace hG : ∀ j, 91 ≤ j → M j = none := fun j h1 => (hN j (by omega)).trans (hG j h1)
  refine gz_aload_n gd_M_init_63 rfl rfl (gz_isr.r _) ?_
  refine gz_bipush (v := 6) gd_M_init_64 (by decide) ?_
  refine gy_newarray (kd := 1) (N := 6) gd_M_init_66 rfl rfl gw_114 rfl (by decide) (by decide) (by omega) (by omega) (fun M hX hN => ?_)
  replace hA := (hN 83 (by decide)).trans hA
  replace hS : ∀ j, 84 ≤ j → j < 92 → M j = SP j := fun j h1 h2 => by
    by_cases e : j = 91
    · rw [e]; exact hX
    · exact (hN j (by omega)).trans (hS j h1 (by omega))
  replace hF : ∀ j, j ≠ 83 → j < 84 → M j = Mz j := fun j h1 h2 => (hN j (by omega)).trans (hF j h1 h2)
  replace hG : ∀ j, 92 ≤ j → M j = none := fun j h1 => (hN j (by omega)).trans (hG j (by omega))
  refine gy_putf gd_M_init_68 gf_M_32 gc_6 gr_M_init_6_9 hA (gz_fits.a (gz_isr.r _)) (fun M hA hN => ?_)
  replace hA : M 83 = some (.inr (6, [.int 0, .ref 84, .ref 85, .ref 86, .ref 87, .int 0, .ref 88, .ref 89, .ref 90, .ref 91, .null, .null, .null, .null, .null, .null, .null, .null, .null, .null, .null, .null, .null, .int 0, .null, .null, .null, .null, .null, .int 0, .int 0, .null, .null, .null])) := hA
  replace hS : ∀ j, 84 ≤ j → j < 92 → M j = SP j := fun j h1 h2 => (hN j (by omega)).trans (hS j h1 h2)
  replace hF : ∀ j, j ≠ 83 → j < 84 → M j = Mz j := fun j h1 h2 => (hN j h1).trans (hF j h1 h2)
  replace hG : ∀ j, 92 ≤ j → M j = none := fun j h1 => (hN j (by omega)).trans (hG j h1)
  refine gz_aload_n gd_M_init_71 rfl rfl (gz_isr.r _) ?_
  refine gz_bipush (v := 12) gd_M_init_72 (by decide) ?_
  refine gy_newarray (kd := 3) (N := 12) gd_M_init_74 rfl rfl gw_116 rfl (by decide) (by decide) (by omega) (by omega) (fun M hX hN => ?_)
  replace hA := (hN 83 (by decide)).trans hA
  replace hS : ∀ j, 84 ≤ j → j < 93 → M j = SP j := fun j h1 h2 => by
    by_cases e : j = 92
    · rw [e]; exact hX
    · exact (hN j (by omega)).trans (hS j h1 (by omega))
  replace hF : ∀ j, j ≠ 83 → j < 84 → M j = Mz j := fun j h1 h2 => (hN j (by omega)).trans (hF j h1 h2)
  replace hG : ∀ j, 93 ≤ j → M j = none := fun j h1 => (hN j (by omega)).trans (hG j (by omega))
  refine gy_putf gd_M_init_76 gf_M_35 gc_6 gr_M_init_6_10 hA (gz_fits.a (gz_isr.r _)) (fun M hA hN => ?_)
  replace hA : M 83 = some (.inr (6, [.int 0, .ref 84, .ref 85, .ref 86, .ref 87, .int 0, .ref 88, .ref 89, .ref 90, .ref 91, .ref 92, .null, .null, .null, .null, .null, .null, .null, .null, .null, .null, .null, .null, .int 0, .null, .null, .null, .null, .null, .int 0, .int 0, .null, .null, .null])) := hA
  replace hS : ∀ j, 84 ≤ j → j < 93 → M j = SP j := fun j h1 h2 => (hN j (by omega)).trans (hS j h1 h2)
  replace hF : ∀ j, j ≠ 83 → j < 84 → M j = Mz j := fun j h1 h2 => (hN j h1).trans (hF j h1 h2)
  replace hG : ∀ j, 93 ≤ j → M j = none := fun j h1 => (hN j (by omega)).trans (hG j h1)
  refine gz_aload_n gd_M_init_79 rfl rfl (gz_isr.r _) ?_
  refine gz_bipush (v := 12) gd_M_init_80 (by decide) ?_
  refine gy_newarray (kd := 1) (N := 12) gd_M_init_82 rfl rfl gw_114 rfl (by decide) (by decide) (by omega) (by omega) (fun M hX hN => ?_)
  replace hA := (hN 83 (by decide)).trans hA
  replace hS : ∀ j, 84 ≤ j → j < 94 → M j = SP j := fun j h1 h2 => by
    by_cases e : j = 93
    · rw [e]; exact hX
    · exact (hN j (by omega)).trans (hS j h1 (by omega))
  replace hF : ∀ j, j ≠ 83 → j < 84 → M j = Mz j := fun j h1 h2 => (hN j (by omega)).trans (hF j h1 h2)
  replace hG : ∀ j, 94 ≤ j → M j = none := fun j h1 => (hN j (by omega)).trans (hG j (by omega))
  refine gy_putf gd_M_init_84 gf_M_38 gc_6 gr_M_init_6_11 hA (gz_fits.a (gz_isr.r _)) (fun M hA hN => ?_)
  replace hA : M 83 = some (.inr (6, [.int 0, .ref 84, .ref 85, .ref 86, .ref 87, .int 0, .ref 88, .ref 89, .ref 90, .ref 91, .ref 92, .ref 93, .null, .null, .null, .null, .null, .null, .null, .null, .null, .null, .null, .int 0, .null, .null, .null, .null, .null, .int 0, .int 0, .null, .null, .null])) := hA
  replace hS : ∀ j, 84 ≤ j → j < 94 → M j = SP j := fun j h1 h2 => (hN j (by omega)).trans (hS j h1 h2)
  replace hF : ∀ j, j ≠ 83 → j < 84 → M j = Mz j := fun j h1 h2 => (hN j h1).trans (hF j h1 h2)
  replace hG : ∀ j, 94 ≤ j → M j = none := fun j h1 => (hN j (by omega)).trans (hG j h1)
  refine gz_aload_n gd_M_init_87 rfl rfl (gz_isr.r _) ?_
  refine gz_bipush (v := 12) gd_M_init_88 (by decide) ?_
  refine gy_newarray (kd := 1) (N := 12) gd_M_init_90 rfl rfl gw_114 rfl (by decide) (by decide) (by omega) (by omega) (fun M hX hN => ?_)
  replace hA := (hN 83 (by decide)).trans hA
  replace hS : ∀ j, 84 ≤ j → j < 95 → M j = SP j := fun j h1 h2 => by
    by_cases e : j = 94
    · rw [e]; exact hX
    · exact (hN j (by omega)).trans (hS j h1 (by omega))
  replace hF : ∀ j, j ≠ 83 → j < 84 → M j = Mz j := fun j h1 h2 => (hN j (by omega)).trans (hF j h1 h2)
  replace hG : ∀ j, 95 ≤ j → M j = none := fun j h1 => (hN j (by omega)).trans (hG j (by omega))
  refine gy_putf gd_M_init_92 gf_M_41 gc_6 gr_M_init_6_12 hA (gz_fits.a (gz_isr.r _)) (fun M hA hN => ?_)
  replace hA : M 83 = some (.inr (6, [.int 0, .ref 84, .ref 85, .ref 86, .ref 87, .int 0, .ref 88, .ref 89, .ref 90, .ref 91, .ref 92, .ref 93, .ref 94, .null, .null, .null, .null, .null, .null, .null, .null, .null, .null, .int 0, .null, .null, .null, .null, .null, .int 0, .int 0, .null, .null, .null])) := hA
  replace hS : ∀ j, 84 ≤ j → j < 95 → M j = SP j := fun j h1 h2 => (hN j (by omega)).trans (hS j h1 h2)
  replace hF : ∀ j, j ≠ 83 → j < 84 → M j = Mz j := fun j h1 h2 => (hN j h1).trans (hF j h1 h2)
  replace hG : ∀ j, 95 ≤ j → M j = none := fun j h1 => (hN j (by omega)).trans (hG j h1)
  refine gz_aload_n gd_M_init_95 rfl rfl (gz_isr.r _) ?_
  refine gz_sipush (v := 480) gd_M_init_96 (by decide) ?_
  refine gy_newarray (kd := 1) (N := 480) gd_M_init_99 rfl rfl gw_114 rfl (by decide) (by decide) (by omega) (by omega) (fun M hX hN => ?_)
  replace hA := (hN 83 (by decide)).trans hA
  replace hS : ∀ j, 84 ≤ j → j < 96 → M j = SP j := fun j h1 h2 => by
    by_cases e : j = 95
    · rw [e]; exact hX
    · exact (hN j (by omega)).trans (hS j h1 (by omega))
  replace hF : ∀ j, j ≠ 83 → j < 84 → M j = Mz j := fun j h1 h2 => (hN j (by omega)).trans (hF j h1 h2)
  replace hG : ∀ j, 96 ≤ j → M j = none := fun j h1 => (hN j (by omega)).trans (hG j (by omega))
  refine gy_putf gd_M_init_101 gf_M_44 gc_6 gr_M_init_6_13 hA (gz_fits.a (gz_isr.r _)) (fun M hA hN => ?_)
  replace hA : M 83 = some (.inr (6, [.int 0, .ref 84, .ref 85, .ref 86, .ref 87, .int 0, .ref 88, .ref 89, .ref 90, .ref 91, .ref 92, .ref 93, .ref 94, .ref 95, .null, .null, .null, .null, .null, .null, .null, .null, .null, .int 0, .null, .null, .null, .null, .null, .int 0, .int 0, .null, .null, .null])) := hA
  replace hS : ∀ j, 84 ≤ j → j < 96 → M j = SP j := fun j h1 h2 => (hN j (by omega)).trans (hS j h1 h2)
  replace hF : ∀ j, j ≠ 83 → j < 84 → M j = Mz j := fun j h1 h2 => (hN j h1).trans (hF j h1 h2)
  replace hG : ∀ j, 96 ≤ j → M j = none := fun j h1 => (hN j (by omega)).trans (hG j h1)
  refine gz_aload_n gd_M_init_104 rfl rfl (gz_isr.r _) ?_
  refine gz_sipush (v := 480) gd_M_init_105 (by decide) ?_
  refine gy_newarray (kd := 1) (N := 480) gd_M_init_108 rfl rfl gw_114 rfl (by decide) (by decide) (by omega) (by omega) (fun M hX hN => ?_)
  replace hA := (hN 83 (by decide)).trans hA
  replace hS : ∀ j, 84 ≤ j → j < 97 → M j = SP j := fun j h1 h2 => by
    by_cases e : j = 96
    · rw [e]; exact hX
    · exact (hN j (by omega)).trans (hS j h1 (by omega))
  replace hF : ∀ j, j ≠ 83 → j < 84 → M j = Mz j := fun j h1 h2 => (hN j (by omega)).trans (hF j h1 h2)
  replace hG : ∀ j, 97 ≤ j → M j = none := fun j h1 => (hN j (by omega)).trans (hG j (by omega))
  refine gy_putf gd_M_init_110 gf_M_47 gc_6 gr_M_init_6_14 hA (gz_fits.a (gz_isr.r _)) (fun M hA hN => ?_)
  replace hA : M 83 = some (.inr (6, [.int 0, .ref 84, .ref 85, .ref 86, .ref 87, .int 0, .ref 88, .ref 89, .ref 90, .ref 91, .ref 92, .ref 93, .ref 94, .ref 95, .ref 96, .null, .null, .null, .null, .null, .null, .null, .null, .int 0, .null, .null, .null, .null, .null, .int 0, .int 0, .null, .null, .null])) := hA
  replace hS : ∀ j, 84 ≤ j → j < 97 → M j = SP j := fun j h1 h2 => (hN j (by omega)).trans (hS j h1 h2)
  replace hF : ∀ j, j ≠ 83 → j < 84 → M j = Mz j := fun j h1 h2 => (hN j h1).trans (hF j h1 h2)
  replace hG : ∀ j, 97 ≤ j → M j = none := fun j h1 => (hN j (by omega)).trans (hG j h1)
  refine gz_aload_n gd_M_init_113 rfl rfl (gz_isr.r _) ?_
  refine gz_sipush (v := 480) gd_M_init_114 (by decide) ?_
  refine gy_newarray (kd := 3) (N := 480) gd_M_init_117 rfl rfl gw_116 rfl (by decide) (by decide) (by omega) (by omega) (fun M hX hN => ?_)
  replace hA := (hN 83 (by decide)).trans hA
  replace hS : ∀ j, 84 ≤ j → j < 98 → M j = SP j := fun j h1 h2 => by
    by_cases e : j = 97
    · rw [e]; exact hX
    · exact (hN j (by omega)).trans (hS j h1 (by omega))
  replace hF : ∀ j, j ≠ 83 → j < 84 → M j = Mz j := fun j h1 h2 => (hN j (by omega)).trans (hF j h1 h2)
  replace hG : ∀ j, 98 ≤ j → M j = none := fun j h1 => (hN j (by omega)).trans (hG j (by omega))
  refine gy_putf gd_M_init_119 gf_M_50 gc_6 gr_M_init_6_15 hA (gz_fits.a (gz_isr.r _)) (fun M hA hN => ?_)
  replace hA : M 83 = some (.inr (6, [.int 0, .ref 84, .ref 85, .ref 86, .ref 87, .int 0, .ref 88, .ref 89, .ref 90, .ref 91, .ref 92, .ref 93, .ref 94, .ref 95, .ref 96, .ref 97, .null, .null, .null, .null, .null, .null, .null, .int 0, .null, .null, .null, .null, .null, .int 0, .int 0, .null, .null, .null])) := hA
  replace hS : ∀ j, 84 ≤ j → j < 98 → M j = SP j := fun j h1 h2 => (hN j (by omega)).trans (hS j h1 h2)
  replace hF : ∀ j, j ≠ 83 → j < 84 → M j = Mz j := fun j h1 h2 => (hN j h1).trans (hF j h1 h2)
  replace hG : ∀ j, 98 ≤ j → M j = none := fun j h1 => (hN j (by omega)).trans (hG j h1)
  refine gz_aload_n gd_M_init_122 rfl rfl (gz_isr.r _) ?_
  refine gz_bipush (v := 12) gd_M_init_123 (by decide) ?_
  refine gy_newarray (kd := 1) (N := 12) gd_M_init_125 rfl rfl gw_114 rfl (by decide) (by decide) (by omega) (by omega) (fun M hX hN => ?_)
  replace hA := (hN 83 (by decide)).trans hA
  replace hS : ∀ j, 84 ≤ j → j < 99 → M j = SP j := fun j h1 h2 => by
    by_cases e : j = 98
    · rw [e]; exact hX
    · exact (hN j (by omega)).trans (hS j h1 (by omega))
  replace hF : ∀ j, j ≠ 83 → j < 84 → M j = Mz j := fun j h1 h2 => (hN j (by omega)).trans (hF j h1 h2)
  replace hG : ∀ j, 99 ≤ j → M j = none := fun j h1 => (hN j (by omega)).trans (hG j (by omega))
  refine gy_putf gd_M_init_127 gf_M_53 gc_6 gr_M_init_6_16 hA (gz_fits.a (gz_isr.r _)) (fun M hA hN => ?_)
  replace hA : M 83 = some (.inr (6, [.int 0, .ref 84, .ref 85, .ref 86, .ref 87, .int 0, .ref 88, .ref 89, .ref 90, .ref 91, .ref 92, .ref 93, .ref 94, .ref 95, .ref 96, .ref 97, .ref 98, .null, .null, .null, .null, .null, .null, .int 0, .null, .null, .null, .null, .null, .int 0, .int 0, .null, .null, .null])) := hA
  replace hS : ∀ j, 84 ≤ j → j < 99 → M j = SP j := fun j h1 h2 => (hN j (by omega)).trans (hS j h1 h2)
  replace hF : ∀ j, j ≠ 83 → j < 84 → M j = Mz j := fun j h1 h2 => (hN j h1).trans (hF j h1 h2)
  replace hG : ∀ j, 99 ≤ j → M j = none := fun j h1 => (hN j (by omega)).trans (hG j h1)
  refine gz_aload_n gd_M_init_130 rfl rfl (gz_isr.r _) ?_
  refine gz_ldc (v := 108000) gd_M_init_131 gw_758 ?_
  refine gy_newarray (kd := 1) (N := 108000) gd_M_init_133 rfl rfl gw_114 rfl (by decide) (by decide) (by omega) (by omega) (fun M hX hN => ?_)
  replace hA := (hN 83 (by decide)).trans hA
  replace hS : ∀ j, 84 ≤ j → j < 100 → M j = SP j := fun j h1 h2 => by
    by_cases e : j = 99
    · rw [e]; exact hX
    · exact (hN j (by omega)).trans (hS j h1 (by omega))
  replace hF : ∀ j, j ≠ 83 → j < 84 → M j = Mz j := fun j h1 h2 => (hN j (by omega)).trans (hF j h1 h2)
  replace hG : ∀ j, 100 ≤ j → M j = none := fun j h1 => (hN j (by omega)).trans (hG j (by omega))
  refine gy_putf gd_M_init_135 gf_M_57 gc_6 gr_M_init_6_17 hA (gz_fits.a (gz_isr.r _)) (fun M hA hN => ?_)
  replace hA : M 83 = some (.inr (6, [.int 0, .ref 84, .ref 85, .ref 86, .ref 87, .int 0, .ref 88, .ref 89, .ref 90, .ref 91, .ref 92, .ref 93, .ref 94, .ref 95, .ref 96, .ref 97, .ref 98, .ref 99, .null, .null, .null, .null, .null, .int 0, .null, .null, .null, .null, .null, .int 0, .int 0, .null, .null, .null])) := hA
  replace hS : ∀ j, 84 ≤ j → j < 100 → M j = SP j := fun j h1 h2 => (hN j (by omega)).trans (hS j h1 h2)
  replace hF : ∀ j, j ≠ 83 → j < 84 → M j = Mz j := fun j h1 h2 => (hN j h1).trans (hF j h1 h2)
  replace hG : ∀ j, 100 ≤ j → M j = none := fun j h1 => (hN j (by omega)).trans (hG j h1)
  refine gz_aload_n gd_M_init_138 rfl rfl (gz_isr.r _) ?_
  refine gz_ldc (v := 108000) gd_M_init_139 gw_758 ?_
  refine gy_newarray (kd := 1) (N := 108000) gd_M_init_141 rfl rfl gw_114 rfl (by decide) (by decide) (by omega) (by omega) (fun M hX hN => ?_)
  replace hA := (hN 83 (by decide)).trans hA
  replace hS : ∀ j, 84 ≤ j → j < 101 → M j = SP j := fun j h1 h2 => by
    by_cases e : j = 100
    · rw [e]; exact hX
    · exact (hN j (by omega)).trans (hS j h1 (by omega))
  replace hF : ∀ j, j ≠ 83 → j < 84 → M j = Mz j := fun j h1 h2 => (hN j (by omega)).trans (hF j h1 h2)
  replace hG : ∀ j, 101 ≤ j → M j = none := fun j h1 => (hN j (by omega)).trans (hG j (by omega))
  refine gy_putf gd_M_init_143 gf_M_60 gc_6 gr_M_init_6_18 hA (gz_fits.a (gz_isr.r _)) (fun M hA hN => ?_)
  replace hA : M 83 = some (.inr (6, [.int 0, .ref 84, .ref 85, .ref 86, .ref 87, .int 0, .ref 88, .ref 89, .ref 90, .ref 91, .ref 92, .ref 93, .ref 94, .ref 95, .ref 96, .ref 97, .ref 98, .ref 99, .ref 100, .null, .null, .null, .null, .int 0, .null, .null, .null, .null, .null, .int 0, .int 0, .null, .null, .null])) := hA
  replace hS : ∀ j, 84 ≤ j → j < 101 → M j = SP j := fun j h1 h2 => (hN j (by omega)).trans (hS j h1 h2)
  replace hF : ∀ j, j ≠ 83 → j < 84 → M j = Mz j := fun j h1 h2 => (hN j h1).trans (hF j h1 h2)
  replace hG : ∀ j, 101 ≤ j → M j = none := fun j h1 => (hN j (by omega)).trans (hG j h1)
  refine gz_aload_n gd_M_init_146 rfl rfl (gz_isr.r _) ?_
  refine gz_bipush (v := 12) gd_M_init_147 (by decide) ?_
  refine gy_newarray (kd := 1) (N := 12) gd_M_init_149 rfl rfl gw_114 rfl (by decide) (by decide) (by omega) (by omega) (fun M hX hN => ?_)
  replace hA := (hN 83 (by decide)).trans hA
  replace hS : ∀ j, 84 ≤ j → j < 102 → M j = SP j := fun j h1 h2 => by
    by_cases e : j = 101
    · rw [e]; exact hX
    · exact (hN j (by omega)).trans (hS j h1 (by omega))
  replace hF : ∀ j, j ≠ 83 → j < 84 → M j = Mz j := fun j h1 h2 => (hN j (by omega)).trans (hF j h1 h2)
  replace hG : ∀ j, 102 ≤ j → M j = none := fun j h1 => (hN j (by omega)).trans (hG j (by omega))
  refine gy_putf gd_M_init_151 gf_M_63 gc_6 gr_M_init_6_19 hA (gz_fits.a (gz_isr.r _)) (fun M hA hN => ?_)
  replace hA : M 83 = some (.inr (6, [.int 0, .ref 84, .ref 85, .ref 86, .ref 87, .int 0, .ref 88, .ref 89, .ref 90, .ref 91, .ref 92, .ref 93, .ref 94, .ref 95, .ref 96, .ref 97, .ref 98, .ref 99, .ref 100, .ref 101, .null, .null, .null, .int 0, .null, .null, .null, .null, .null, .int 0, .int 0, .null, .null, .null])) := hA
  replace hS : ∀ j, 84 ≤ j → j < 102 → M j = SP j := fun j h1 h2 => (hN j (by omega)).trans (hS j h1 h2)
  replace hF : ∀ j, j ≠ 83 → j < 84 → M j = Mz j := fun j h1 h2 => (hN j h1).trans (hF j h1 h2)
  replace hG : ∀ j, 102 ≤ j → M j = none := fun j h1 => (hN j (by omega)).trans (hG j h1)
  refine gz_aload_n gd_M_init_154 rfl rfl (gz_isr.r _) ?_
  refine gz_bipush (v := 12) gd_M_init_155 (by decide) ?_
  refine gy_newarray (kd := 1) (N := 12) gd_M_init_157 rfl rfl gw_114 rfl (by decide) (by decide) (by omega) (by omega) (fun M hX hN => ?_)
  replace hA := (hN 83 (by decide)).trans hA
  replace hS : ∀ j, 84 ≤ j → j < 103 → M j = SP j := fun j h1 h2 => by
    by_cases e : j = 102
    · rw [e]; exact hX
    · exact (hN j (by omega)).trans (hS j h1 (by omega))
  replace hF : ∀ j, j ≠ 83 → j < 84 → M j = Mz j := fun j h1 h2 => (hN j (by omega)).trans (hF j h1 h2)
  replace hG : ∀ j, 103 ≤ j → M j = none := fun j h1 => (hN j (by omega)).trans (hG j (by omega))
  refine gy_putf gd_M_init_159 gf_M_66 gc_6 gr_M_init_6_20 hA (gz_fits.a (gz_isr.r _)) (fun M hA hN => ?_)
  replace hA : M 83 = some (.inr (6, [.int 0, .ref 84, .ref 85, .ref 86, .ref 87, .int 0, .ref 88, .ref 89, .ref 90, .ref 91, .ref 92, .ref 93, .ref 94, .ref 95, .ref 96, .ref 97, .ref 98, .ref 99, .ref 100, .ref 101, .ref 102, .null, .null, .int 0, .null, .null, .null, .null, .null, .int 0, .int 0, .null, .null, .null])) := hA
  replace hS : ∀ j, 84 ≤ j → j < 103 → M j = SP j := fun j h1 h2 => (hN j (by omega)).trans (hS j h1 h2)
  replace hF : ∀ j, j ≠ 83 → j < 84 → M j = Mz j := fun j h1 h2 => (hN j h1).trans (hF j h1 h2)
  replace hG : ∀ j, 103 ≤ j → M j = none := fun j h1 => (hN j (by omega)).trans (hG j h1)
  refine gz_aload_n gd_M_init_162 rfl rfl (gz_isr.r _) ?_
  refine gz_sipush (v := 24000) gd_M_init_163 (by decide) ?_
  refine gy_newarray (kd := 1) (N := 24000) gd_M_init_166 rfl rfl gw_114 rfl (by decide) (by decide) (by omega) (by omega) (fun M hX hN => ?_)
  replace hA := (hN 83 (by decide)).trans hA
  replace hS : ∀ j, 84 ≤ j → j < 104 → M j = SP j := fun j h1 h2 => by
    by_cases e : j = 103
    · rw [e]; exact hX
    · exact (hN j (by omega)).trans (hS j h1 (by omega))
  replace hF : ∀ j, j ≠ 83 → j < 84 → M j = Mz j := fun j h1 h2 => (hN j (by omega)).trans (hF j h1 h2)
  replace hG : ∀ j, 104 ≤ j → M j = none := fun j h1 => (hN j (by omega)).trans (hG j (by omega))
  refine gy_putf gd_M_init_168 gf_M_69 gc_6 gr_M_init_6_21 hA (gz_fits.a (gz_isr.r _)) (fun M hA hN => ?_)
  replace hA : M 83 = some (.inr (6, [.int 0, .ref 84, .ref 85, .ref 86, .ref 87, .int 0, .ref 88, .ref 89, .ref 90, .ref 91, .ref 92, .ref 93, .ref 94, .ref 95, .ref 96, .ref 97, .ref 98, .ref 99, .ref 100, .ref 101, .ref 102, .ref 103, .null, .int 0, .null, .null, .null, .null, .null, .int 0, .int 0, .null, .null, .null])) := hA
  replace hS : ∀ j, 84 ≤ j → j < 104 → M j = SP j := fun j h1 h2 => (hN j (by omega)).trans (hS j h1 h2)
  replace hF : ∀ j, j ≠ 83 → j < 84 → M j = Mz j := fun j h1 h2 => (hN j h1).trans (hF j h1 h2)
  replace hG : ∀ j, 104 ≤ j → M j = none := fun j h1 => (hN j (by omega)).trans (hG j h1)
  refine gz_aload_n gd_M_init_171 rfl rfl (gz_isr.r _) ?_
  refine gz_sipush (v := 24000) gd_M_init_172 (by decide) ?_
  refine gy_newarray (kd := 1) (N := 24000) gd_M_init_175 rfl rfl gw_114 rfl (by decide) (by decide) (by omega) (by omega) (fun M hX hN => ?_)
  replace hA := (hN 83 (by decide)).trans hA
  replace hS : ∀ j, 84 ≤ j → j < 105 → M j = SP j := fun j h1 h2 => by
    by_cases e : j = 104
    · rw [e]; exact hX
    · exact (hN j (by omega)).trans (hS j h1 (by omega))
  replace hF : ∀ j, j ≠ 83 → j < 84 → M j = Mz j := fun j h1 h2 => (hN j (by omega)).trans (hF j h1 h2)
  replace hG : ∀ j, 105 ≤ j → M j = none := fun j h1 => (hN j (by omega)).trans (hG j (by omega))
  refine gy_putf gd_M_init_177 gf_M_72 gc_6 gr_M_init_6_22 hA (gz_fits.a (gz_isr.r _)) (fun M hA hN => ?_)
  replace hA : M 83 = some (.inr (6, [.int 0, .ref 84, .ref 85, .ref 86, .ref 87, .int 0, .ref 88, .ref 89, .ref 90, .ref 91, .ref 92, .ref 93, .ref 94, .ref 95, .ref 96, .ref 97, .ref 98, .ref 99, .ref 100, .ref 101, .ref 102, .ref 103, .ref 104, .int 0, .null, .null, .null, .null, .null, .int 0, .int 0, .null, .null, .null])) := hA
  replace hS : ∀ j, 84 ≤ j → j < 105 → M j = SP j := fun j h1 h2 => (hN j (by omega)).trans (hS j h1 h2)
  replace hF : ∀ j, j ≠ 83 → j < 84 → M j = Mz j := fun j h1 h2 => (hN j h1).trans (hF j h1 h2)
  replace hG : ∀ j, 105 ≤ j → M j = none := fun j h1 => (hN j (by omega)).trans (hG j h1)
  refine gz_aload_n gd_M_init_180 rfl rfl (gz_isr.r _) ?_
  refine gz_sipush (v := 501) gd_M_init_181 (by decide) ?_
  refine gy_newarray (kd := 1) (N := 501) gd_M_init_184 rfl rfl gw_114 rfl (by decide) (by decide) (by omega) (by omega) (fun M hX hN => ?_)
  replace hA := (hN 83 (by decide)).trans hA
  replace hS : ∀ j, 84 ≤ j → j < 106 → M j = SP j := fun j h1 h2 => by
    by_cases e : j = 105
    · rw [e]; exact hX
    · exact (hN j (by omega)).trans (hS j h1 (by omega))
  replace hF : ∀ j, j ≠ 83 → j < 84 → M j = Mz j := fun j h1 h2 => (hN j (by omega)).trans (hF j h1 h2)
  replace hG : ∀ j, 106 ≤ j → M j = none := fun j h1 => (hN j (by omega)).trans (hG j (by omega))
  refine gy_putf gd_M_init_186 gf_M_75 gc_6 gr_M_init_6_24 hA (gz_fits.a (gz_isr.r _)) (fun M hA hN => ?_)
  replace hA : M 83 = some (.inr (6, [.int 0, .ref 84, .ref 85, .ref 86, .ref 87, .int 0, .ref 88, .ref 89, .ref 90, .ref 91, .ref 92, .ref 93, .ref 94, .ref 95, .ref 96, .ref 97, .ref 98, .ref 99, .ref 100, .ref 101, .ref 102, .ref 103, .ref 104, .int 0, .ref 105, .null, .null, .null, .null, .int 0, .int 0, .null, .null, .null])) := hA
  replace hS : ∀ j, 84 ≤ j → j < 106 → M j = SP j := fun j h1 h2 => (hN j (by omega)).trans (hS j h1 h2)
  replace hF : ∀ j, j ≠ 83 → j < 84 → M j = Mz j := fun j h1 h2 => (hN j h1).trans (hF j h1 h2)
  replace hG : ∀ j, 106 ≤ j → M j = none := fun j h1 => (hN j (by omega)).trans (hG j h1)
  refine gz_aload_n gd_M_init_189 rfl rfl (gz_isr.r _) ?_
  refine gz_sipush (v := 501) gd_M_init_190 (by decide) ?_
  refine gy_newarray (kd := 1) (N := 501) gd_M_init_193 rfl rfl gw_114 rfl (by decide) (by decide) (by omega) (by omega) (fun M hX hN => ?_)
  replace hA := (hN 83 (by decide)).trans hA
  replace hS : ∀ j, 84 ≤ j → j < 107 → M j = SP j := fun j h1 h2 => by
    by_cases e : j = 106
    · rw [e]; exact hX
    · exact (hN j (by omega)).trans (hS j h1 (by omega))
  replace hF : ∀ j, j ≠ 83 → j < 84 → M j = Mz j := fun j h1 h2 => (hN j (by omega)).trans (hF j h1 h2)
  replace hG : ∀ j, 107 ≤ j → M j = none := fun j h1 => (hN j (by omega)).trans (hG j (by omega))
  refine gy_putf gd_M_init_195 gf_M_78 gc_6 gr_M_init_6_25 hA (gz_fits.a (gz_isr.r _)) (fun M hA hN => ?_)
  replace hA : M 83 = some (.inr (6, [.int 0, .ref 84, .ref 85, .ref 86, .ref 87, .int 0, .ref 88, .ref 89, .ref 90, .ref 91, .ref 92, .ref 93, .ref 94, .ref 95, .ref 96, .ref 97, .ref 98, .ref 99, .ref 100, .ref 101, .ref 102, .ref 103, .ref 104, .int 0, .ref 105, .ref 106, .null, .null, .null, .int 0, .int 0, .null, .null, .null])) := hA
  replace hS : ∀ j, 84 ≤ j → j < 107 → M j = SP j := fun j h1 h2 => (hN j (by omega)).trans (hS j h1 h2)
  replace hF : ∀ j, j ≠ 83 → j < 84 → M j = Mz j := fun j h1 h2 => (hN j h1).trans (hF j h1 h2)
  replace hG : ∀ j, 107 ≤ j → M j = none := fun j h1 => (hN j (by omega)).trans (hG j h1)
  refine gz_aload_n gd_M_init_198 rfl rfl (gz_isr.r _) ?_
  refine gz_sipush (v := 501) gd_M_init_199 (by decide) ?_
  refine gy_newarray (kd := 1) (N := 501) gd_M_init_202 rfl rfl gw_114 rfl (by decide) (by decide) (by omega) (by omega) (fun M hX hN => ?_)
  replace hA := (hN 83 (by decide)).trans hA
  replace hS : ∀ j, 84 ≤ j → j < 108 → M j = SP j := fun j h1 h2 => by
    by_cases e : j = 107
    · rw [e]; exact hX
    · exact (hN j (by omega)).trans (hS j h1 (by omega))
  replace hF : ∀ j, j ≠ 83 → j < 84 → M j = Mz j := fun j h1 h2 => (hN j (by omega)).trans (hF j h1 h2)
  replace hG : ∀ j, 108 ≤ j → M j = none := fun j h1 => (hN j (by omega)).trans (hG j (by omega))
  refine gy_putf gd_M_init_204 gf_M_81 gc_6 gr_M_init_6_26 hA (gz_fits.a (gz_isr.r _)) (fun M hA hN => ?_)
  replace hA : M 83 = some (.inr (6, [.int 0, .ref 84, .ref 85, .ref 86, .ref 87, .int 0, .ref 88, .ref 89, .ref 90, .ref 91, .ref 92, .ref 93, .ref 94, .ref 95, .ref 96, .ref 97, .ref 98, .ref 99, .ref 100, .ref 101, .ref 102, .ref 103, .ref 104, .int 0, .ref 105, .ref 106, .ref 107, .null, .null, .int 0, .int 0, .null, .null, .null])) := hA
  replace hS : ∀ j, 84 ≤ j → j < 108 → M j = SP j := fun j h1 h2 => (hN j (by omega)).trans (hS j h1 h2)
  replace hF : ∀ j, j ≠ 83 → j < 84 → M j = Mz j := fun j h1 h2 => (hN j h1).trans (hF j h1 h2)
  replace hG : ∀ j, 108 ≤ j → M j = none := fun j h1 => (hN j (by omega)).trans (hG j h1)
  refine gz_aload_n gd_M_init_207 rfl rfl (gz_isr.r _) ?_
  refine gz_sipush (v := 501) gd_M_init_208 (by decide) ?_
  refine gy_newarray (kd := 1) (N := 501) gd_M_init_211 rfl rfl gw_114 rfl (by decide) (by decide) (by omega) (by omega) (fun M hX hN => ?_)
  replace hA := (hN 83 (by decide)).trans hA
  replace hS : ∀ j, 84 ≤ j → j < 109 → M j = SP j := fun j h1 h2 => by
    by_cases e : j = 108
    · rw [e]; exact hX
    · exact (hN j (by omega)).trans (hS j h1 (by omega))
  replace hF : ∀ j, j ≠ 83 → j < 84 → M j = Mz j := fun j h1 h2 => (hN j (by omega)).trans (hF j h1 h2)
  replace hG : ∀ j, 109 ≤ j → M j = none := fun j h1 => (hN j (by omega)).trans (hG j (by omega))
  refine gy_putf gd_M_init_213 gf_M_84 gc_6 gr_M_init_6_27 hA (gz_fits.a (gz_isr.r _)) (fun M hA hN => ?_)
  replace hA : M 83 = some (.inr (6, [.int 0, .ref 84, .ref 85, .ref 86, .ref 87, .int 0, .ref 88, .ref 89, .ref 90, .ref 91, .ref 92, .ref 93, .ref 94, .ref 95, .ref 96, .ref 97, .ref 98, .ref 99, .ref 100, .ref 101, .ref 102, .ref 103, .ref 104, .int 0, .ref 105, .ref 106, .ref 107, .ref 108, .null, .int 0, .int 0, .null, .null, .null])) := hA
  replace hS : ∀ j, 84 ≤ j → j < 109 → M j = SP j := fun j h1 h2 => (hN j (by omega)).trans (hS j h1 h2)
  replace hF : ∀ j, j ≠ 83 → j < 84 → M j = Mz j := fun j h1 h2 => (hN j h1).trans (hF j h1 h2)
  replace hG : ∀ j, 109 ≤ j → M j = none := fun j h1 => (hN j (by omega)).trans (hG j h1)
  refine gz_aload_n gd_M_init_216 rfl rfl (gz_isr.r _) ?_
  refine gz_sipush (v := 501) gd_M_init_217 (by decide) ?_
  refine gy_newarray (kd := 1) (N := 501) gd_M_init_220 rfl rfl gw_114 rfl (by decide) (by decide) (by omega) (by omega) (fun M hX hN => ?_)
  replace hA := (hN 83 (by decide)).trans hA
  replace hS : ∀ j, 84 ≤ j → j < 110 → M j = SP j := fun j h1 h2 => by
    by_cases e : j = 109
    · rw [e]; exact hX
    · exact (hN j (by omega)).trans (hS j h1 (by omega))
  replace hF : ∀ j, j ≠ 83 → j < 84 → M j = Mz j := fun j h1 h2 => (hN j (by omega)).trans (hF j h1 h2)
  replace hG : ∀ j, 110 ≤ j → M j = none := fun j h1 => (hN j (by omega)).trans (hG j (by omega))
  refine gy_putf gd_M_init_222 gf_M_87 gc_6 gr_M_init_6_28 hA (gz_fits.a (gz_isr.r _)) (fun M hA hN => ?_)
  replace hA : M 83 = some (.inr (6, [.int 0, .ref 84, .ref 85, .ref 86, .ref 87, .int 0, .ref 88, .ref 89, .ref 90, .ref 91, .ref 92, .ref 93, .ref 94, .ref 95, .ref 96, .ref 97, .ref 98, .ref 99, .ref 100, .ref 101, .ref 102, .ref 103, .ref 104, .int 0, .ref 105, .ref 106, .ref 107, .ref 108, .ref 109, .int 0, .int 0, .null, .null, .null])) := hA
  replace hS : ∀ j, 84 ≤ j → j < 110 → M j = SP j := fun j h1 h2 => (hN j (by omega)).trans (hS j h1 h2)
  replace hF : ∀ j, j ≠ 83 → j < 84 → M j = Mz j := fun j h1 h2 => (hN j h1).trans (hF j h1 h2)
  replace hG : ∀ j, 110 ≤ j → M j = none := fun j h1 => (hN j (by omega)).trans (hG j h1)
  refine gz_aload_n gd_M_init_225 rfl rfl (gz_isr.r _) ?_
  refine gz_bipush (v := 6) gd_M_init_226 (by decide) ?_
  refine gy_newarray (kd := 2) (N := 6) gd_M_init_228 rfl rfl gw_115 rfl (by decide) (by decide) (by omega) (by omega) (fun M hX hN => ?_)
  replace hA := (hN 83 (by decide)).trans hA
  replace hS : ∀ j, 84 ≤ j → j < 111 → M j = SP j := fun j h1 h2 => by
    by_cases e : j = 110
    · rw [e]; exact hX
    · exact (hN j (by omega)).trans (hS j h1 (by omega))
  replace hF : ∀ j, j ≠ 83 → j < 84 → M j = Mz j := fun j h1 h2 => (hN j (by omega)).trans (hF j h1 h2)
  replace hG : ∀ j, 111 ≤ j → M j = none := fun j h1 => (hN j (by omega)).trans (hG j (by omega))
  refine gy_putf gd_M_init_230 gf_M_90 gc_6 gr_M_init_6_31 hA (gz_fits.a (gz_isr.r _)) (fun M hA hN => ?_)
  replace hA : M 83 = some (.inr (6, [.int 0, .ref 84, .ref 85, .ref 86, .ref 87, .int 0, .ref 88, .ref 89, .ref 90, .ref 91, .ref 92, .ref 93, .ref 94, .ref 95, .ref 96, .ref 97, .ref 98, .ref 99, .ref 100, .ref 101, .ref 102, .ref 103, .ref 104, .int 0, .ref 105, .ref 106, .ref 107, .ref 108, .ref 109, .int 0, .int 0, .ref 110, .null, .null])) := hA
  replace hS : ∀ j, 84 ≤ j → j < 111 → M j = SP j := fun j h1 h2 => (hN j (by omega)).trans (hS j h1 h2)
  replace hF : ∀ j, j ≠ 83 → j < 84 → M j = Mz j := fun j h1 h2 => (hN j h1).trans (hF j h1 h2)
  replace hG : ∀ j, 111 ≤ j → M j = none := fun j h1 => (hN j (by omega)).trans (hG j h1)
  refine gz_aload_n gd_M_init_233 rfl rfl (gz_isr.r _) ?_
  refine gz_bipush (v := 6) gd_M_init_234 (by decide) ?_
  refine gy_newarray (kd := 2) (N := 6) gd_M_init_236 rfl rfl gw_115 rfl (by decide) (by decide) (by omega) (by omega) (fun M hX hN => ?_)
  replace hA := (hN 83 (by decide)).trans hA
  replace hS : ∀ j, 84 ≤ j → j < 112 → M j = SP j := fun j h1 h2 => by
    by_cases e : j = 111
    · rw [e]; exact hX
    · exact (hN j (by omega)).trans (hS j h1 (by omega))
  replace hF : ∀ j, j ≠ 83 → j < 84 → M j = Mz j := fun j h1 h2 => (hN j (by omega)).trans (hF j h1 h2)
  replace hG : ∀ j, 112 ≤ j → M j = none := fun j h1 => (hN j (by omega)).trans (hG j (by omega))
  refine gy_putf gd_M_init_238 gf_M_94 gc_6 gr_M_init_6_32 hA (gz_fits.a (gz_isr.r _)) (fun M hA hN => ?_)
  replace hA : M 83 = some (.inr (6, [.int 0, .ref 84, .ref 85, .ref 86, .ref 87, .int 0, .ref 88, .ref 89, .ref 90, .ref 91, .ref 92, .ref 93, .ref 94, .ref 95, .ref 96, .ref 97, .ref 98, .ref 99, .ref 100, .ref 101, .ref 102, .ref 103, .ref 104, .int 0, .ref 105, .ref 106, .ref 107, .ref 108, .ref 109, .int 0, .int 0, .ref 110, .ref 111, .null])) := hA
  replace hS : ∀ j, 84 ≤ j → j < 112 → M j = SP j := fun j h1 h2 => (hN j (by omega)).trans (hS j h1 h2)
  replace hF : ∀ j, j ≠ 83 → j < 84 → M j = Mz j := fun j h1 h2 => (hN j h1).trans (hF j h1 h2)
  replace hG : ∀ j, 112 ≤ j → M j = none := fun j h1 => (hN j (by omega)).trans (hG j h1)
  refine gz_aload_n gd_M_init_241 rfl rfl (gz_isr.r _) ?_
  refine gz_bipush (v := 6) gd_M_init_242 (by decide) ?_
  refine gy_newarray (kd := 1) (N := 6) gd_M_init_244 rfl rfl gw_114 rfl (by decide) (by decide) (by omega) (by omega) (fun M hX hN => ?_)
  replace hA := (hN 83 (by decide)).trans hA
  replace hS : ∀ j, 84 ≤ j → j < 113 → M j = SP j := fun j h1 h2 => by
    by_cases e : j = 112
    · rw [e]; exact hX
    · exact (hN j (by omega)).trans (hS j h1 (by omega))
  replace hF : ∀ j, j ≠ 83 → j < 84 → M j = Mz j := fun j h1 h2 => (hN j (by omega)).trans (hF j h1 h2)
  replace hG : ∀ j, 113 ≤ j → M j = none := fun j h1 => (hN j (by omega)).trans (hG j (by omega))
  refine gy_putf gd_M_init_246 gf_M_97 gc_6 gr_M_init_6_33 hA (gz_fits.a (gz_isr.r _)) (fun M hA hN => ?_)
  replace hA : M 83 = some (.inr (6, [.int 0, .ref 84, .ref 85, .ref 86, .ref 87, .int 0, .ref 88, .ref 89, .ref 90, .ref 91, .ref 92, .ref 93, .ref 94, .ref 95, .ref 96, .ref 97, .ref 98, .ref 99, .ref 100, .ref 101, .ref 102, .ref 103, .ref 104, .int 0, .ref 105, .ref 106, .ref 107, .ref 108, .ref 109, .int 0, .int 0, .ref 110, .ref 111, .ref 112])) := hA
  replace hS : ∀ j, 84 ≤ j → j < 113 → M j = SP j := fun j h1 h2 => (hN j (by omega)).trans (hS j h1 h2)
  replace hF : ∀ j, j ≠ 83 → j < 84 → M j = Mz j := fun j h1 h2 => (hN j h1).trans (hF j h1 h2)
  replace hG : ∀ j, 113 ≤ j → M j = none := fun j h1 => (hN j (by omega)).trans (hG j h1)
  rw [show ns + 40 + 40 + 40 + 40 + 301 + 1806 + 301 + 6 + 12 + 12 + 12 + 480 + 480 + 480 + 12 + 108000 + 108000 + 12 + 12 + 24000 + 24000 + 501 + 501 + 501 + 501 + 501 + 6 + 6 + 6 = ns + 270609 by omega, show nc + 1 + 1 + 1 + 1 + 1 + 1 + 1 + 1 + 1 + 1 + 1 + 1 + 1 + 1 + 1 + 1 + 1 + 1 + 1 + 1 + 1 + 1 + 1 + 1 + 1 + 1 + 1 + 1 + 1 = nc + 29 by omega, show 84 + 1 + 1 + 1 + 1 + 1 + 1 + 1 + 1 + 1 + 1 + 1 + 1 + 1 + 1 + 1 + 1 + 1 + 1 + 1 + 1 + 1 + 1 + 1 + 1 + 1 + 1 + 1 + 1 + 1 = 113 by omega]
  refine m_init249 (Mz := Mz) (L := fun _ _ => 0) ⟨hA, fun k hk => ?_, fun k hk => ?_, fun k hk => ?_⟩ k
  · simp only [md_in, Bool.and_eq_true, decide_eq_true_eq] at hk
    exact (hS k (by omega) (by omega)).trans (if_neg (by omega))
  · exact (hS k (by omega) (by omega)).trans (if_pos hk)
  · rcases hk with hk | hk
    · exact hF k (by omega) (by omega)
    · exact (hG k (by omega)).trans (by rw [hMz]; exact (hfr k (by omega)).symm)

