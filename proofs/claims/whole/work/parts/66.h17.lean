/-! The class: its own constructor. Printed by wip/whole/h17.py -/
def OF (M : gzM) (i : Nat) : Prop := M (11 + 6 * i) = some (.inr (3, [.int (nI i), .ref (12 + 6 * i), .ref (13 + 6 * i), .ref (14 + 6 * i), .ref (15 + 6 * i), .ref (16 + 6 * i), .int (-1), .int 0, .int 0, .int 1])) ∧ M (12 + 6 * i) = some (.inl (4, 40, fun _ => .null)) ∧ (∃ f, M (13 + 6 * i) = some (.inl (1, 40, f)) ∧ ∀ q, q < 40 → f q = .int (-1)) ∧ M (14 + 6 * i) = some (.inl (3, 40, fun _ => .int 0)) ∧ M (15 + 6 * i) = some (.inr (7, [.ref 1, .int 0, .int 0])) ∧ M (16 + 6 * i) = some (.inr (7, [.ref 1, .int 0, .int 0]))
theorem OF.keep {M M' : gzM} {i : Nat} (h : OF M i) (hM : ∀ j, 11 + 6 * i ≤ j → j < 17 + 6 * i → M' j = M j) : OF M' i := by
  obtain ⟨a1, a2, ⟨f, a3, a4⟩, a5, a6, a7⟩ := h
  exact ⟨(hM _ (by omega) (by omega)).trans a1, (hM _ (by omega) (by omega)).trans a2, ⟨f, (hM _ (by omega) (by omega)).trans a3, a4⟩, (hM _ (by omega) (by omega)).trans a5, (hM _ (by omega) (by omega)).trans a6, (hM _ (by omega) (by omega)).trans a7⟩
/-- the fixed cells but for the offices -/
def FH (M : gzM) (o : Nat) : Prop := M 3 = some (.inr (0, [.ref 4, .ref 5, .ref 6, .ref 7, .ref 8, .ref 9, .ref 10, .int 0, .int 0, .int 0])) ∧ M 4 = some (.inl (5, 40, fun _ => .null)) ∧ (∃ f, M 5 = some (.inl (6, 12, f)) ∧ ∀ i, i < o → f i = .ref (11 + 6 * i)) ∧ M 6 = some (.inr (7, [.ref 1, .int 0, .int 0])) ∧ M 7 = some (.inl (1, 6, fun _ => .int 0)) ∧ M 8 = some (.inl (2, 6, fun _ => .long 0)) ∧ M 9 = some (.inl (2, 6, fun _ => .long 0)) ∧ M 10 = some (.inl (1, 6, fun _ => .int 0))
theorem h_init {l : Launch} {D : gzD} {K : gzK} {M : gzM} {nc ns : Nat} (hA : M 3 = some (.inr (0, [.null, .null, .null, .null, .null, .null, .null, .int 0, .int 0, .int 0]))) (hfr : ∀ j, 4 ≤ j → M j = none) (hnc : nc + 200 ≤ D.2.2.2.1) (hns : ns + 2000 ≤ D.2.2.2.2.1) (k : ∀ M', FH M' 12 → (∀ i, i < 12 → OF M' i) → (∀ j, j < 3 → M' j = M j) → (∀ j, 83 ≤ j → M' j = none) → K (.inl none) M' 83 (nc + 79) (ns + 1711)) : GZ l P1 D F_H_init K 0 [some (.ref 3), none] [] M 4 nc ns := by
  obtain ⟨Mz, hMz⟩ : ∃ Mz, Mz = M := ⟨_, rfl⟩
  rw [← hMz] at k
  have hF : ∀ j, j ≠ 3 → j < 4 → M j = Mz j := fun j _ _ => by rw [hMz]
  have hG := hfr
  refine gz_aload_n gd_H_init_0 rfl rfl (gz_isr.r _) ?_
  refine gz_objInit gd_H_init_1 gw_29 gw_30 gw_31 (by decide) (Nat.le_of_ble_eq_true rfl) ?_
  refine gz_aload_n gd_H_init_4 rfl rfl (gz_isr.r _) ?_
  refine gz_bipush (v := 40) gd_H_init_5 (by decide) ?_
  refine gy_anewarray (kd := 5) (N := 40) gd_H_init_7 rfl gw_32 gw_33 rfl (by decide) (by omega) (by omega) (fun M hc0 hN => ?_)
  replace hA := (hN _ (by omega)).trans hA
  replace hF := fun j (h1 : j ≠ 3) (h2 : j < 4) => (hN j (by omega)).trans (hF j h1 h2)
  replace hG := fun j (h1 : 4 + 1 ≤ j) => (hN j (by omega)).trans (hG j (by omega))
  refine gy_putf gd_H_init_10 gf_H_11 gc_0 gr_H_init_0_0 hA (gz_fits.a (gz_isr.r _)) (fun M hA hN => ?_)
  replace hc0 := (hN _ (by omega)).trans hc0
  replace hF := fun j (h1 : j ≠ 3) (h2 : j < 4) => (hN j h1).trans (hF j h1 h2)
  replace hG := fun j (h1 : 4 + 1 ≤ j) => (hN j (by omega)).trans (hG j h1)
  refine gz_aload_n gd_H_init_13 rfl rfl (gz_isr.r _) ?_
  refine gz_bipush (v := 12) gd_H_init_14 (by decide) ?_
  refine gy_anewarray (kd := 6) (N := 12) gd_H_init_16 rfl gw_34 gw_35 rfl (by decide) (by omega) (by omega) (fun M hc1 hN => ?_)
  replace hA := (hN _ (by omega)).trans hA
  replace hc0 := (hN _ (by omega)).trans hc0
  replace hF := fun j (h1 : j ≠ 3) (h2 : j < 4) => (hN j (by omega)).trans (hF j h1 h2)
  replace hG := fun j (h1 : 4 + 1 + 1 ≤ j) => (hN j (by omega)).trans (hG j (by omega))
  refine gy_putf gd_H_init_19 gf_H_17 gc_0 gr_H_init_0_1 hA (gz_fits.a (gz_isr.r _)) (fun M hA hN => ?_)
  replace hc0 := (hN _ (by omega)).trans hc0
  replace hc1 := (hN _ (by omega)).trans hc1
  replace hF := fun j (h1 : j ≠ 3) (h2 : j < 4) => (hN j h1).trans (hF j h1 h2)
  replace hG := fun j (h1 : 4 + 1 + 1 ≤ j) => (hN j (by omega)).trans (hG j h1)
  refine gz_aload_n gd_H_init_22 rfl rfl (gz_isr.r _) ?_
  refine gy_newS (sz := 3) gd_H_init_23 gn_H_init_23 rfl (by omega) (by omega) (fun M hc2 hN => ?_)
  replace hA := (hN _ (by omega)).trans hA
  replace hc0 := (hN _ (by omega)).trans hc0
  replace hc1 := (hN _ (by omega)).trans hc1
  replace hF := fun j (h1 : j ≠ 3) (h2 : j < 4) => (hN j (by omega)).trans (hF j h1 h2)
  replace hG := fun j (h1 : 4 + 1 + 1 + 1 ≤ j) => (hN j (by omega)).trans (hG j (by omega))
  refine gz_dup gd_H_init_26 rfl ?_
  refine gz_special0 gd_H_init_27 gs_H_init_27 (Nat.le_of_ble_eq_true rfl) (Nat.le_of_ble_eq_true rfl) ?_
  refine j_init hc2 (fun M hc2 hN => ?_)
  replace hA := (hN _ (by omega)).trans hA
  replace hc0 := (hN _ (by omega)).trans hc0
  replace hc1 := (hN _ (by omega)).trans hc1
  replace hF := fun j (h1 : j ≠ 3) (h2 : j < 4) => (hN j (by omega)).trans (hF j h1 h2)
  replace hG := fun j (h1 : 4 + 1 + 1 + 1 ≤ j) => (hN j (by omega)).trans (hG j h1)
  skip
  refine gy_putf gd_H_init_30 gf_H_24 gc_0 gr_H_init_0_2 hA (gz_fits.o (gz_isr.r _)) (fun M hA hN => ?_)
  replace hc0 := (hN _ (by omega)).trans hc0
  replace hc1 := (hN _ (by omega)).trans hc1
  replace hc2 := (hN _ (by omega)).trans hc2
  replace hF := fun j (h1 : j ≠ 3) (h2 : j < 4) => (hN j h1).trans (hF j h1 h2)
  replace hG := fun j (h1 : 4 + 1 + 1 + 1 ≤ j) => (hN j (by omega)).trans (hG j h1)
  refine gz_aload_n gd_H_init_33 rfl rfl (gz_isr.r _) ?_
  refine gz_bipush (v := 6) gd_H_init_34 (by decide) ?_
  refine gy_newarray (kd := 1) (N := 6) gd_H_init_36 rfl rfl gw_114 rfl (by decide) (by decide) (by omega) (by omega) (fun M hc3 hN => ?_)
  replace hA := (hN _ (by omega)).trans hA
  replace hc0 := (hN _ (by omega)).trans hc0
  replace hc1 := (hN _ (by omega)).trans hc1
  replace hc2 := (hN _ (by omega)).trans hc2
  replace hF := fun j (h1 : j ≠ 3) (h2 : j < 4) => (hN j (by omega)).trans (hF j h1 h2)
  replace hG := fun j (h1 : 4 + 1 + 1 + 1 + 1 ≤ j) => (hN j (by omega)).trans (hG j (by omega))
  refine gy_putf gd_H_init_38 gf_H_28 gc_0 gr_H_init_0_3 hA (gz_fits.a (gz_isr.r _)) (fun M hA hN => ?_)
  replace hc0 := (hN _ (by omega)).trans hc0
  replace hc1 := (hN _ (by omega)).trans hc1
  replace hc2 := (hN _ (by omega)).trans hc2
  replace hc3 := (hN _ (by omega)).trans hc3
  replace hF := fun j (h1 : j ≠ 3) (h2 : j < 4) => (hN j h1).trans (hF j h1 h2)
  replace hG := fun j (h1 : 4 + 1 + 1 + 1 + 1 ≤ j) => (hN j (by omega)).trans (hG j h1)
  refine gz_aload_n gd_H_init_41 rfl rfl (gz_isr.r _) ?_
  refine gz_bipush (v := 6) gd_H_init_42 (by decide) ?_
  refine gy_newarray (kd := 2) (N := 6) gd_H_init_44 rfl rfl gw_115 rfl (by decide) (by decide) (by omega) (by omega) (fun M hc4 hN => ?_)
  replace hA := (hN _ (by omega)).trans hA
  replace hc0 := (hN _ (by omega)).trans hc0
  replace hc1 := (hN _ (by omega)).trans hc1
  replace hc2 := (hN _ (by omega)).trans hc2
  replace hc3 := (hN _ (by omega)).trans hc3
  replace hF := fun j (h1 : j ≠ 3) (h2 : j < 4) => (hN j (by omega)).trans (hF j h1 h2)
  replace hG := fun j (h1 : 4 + 1 + 1 + 1 + 1 + 1 ≤ j) => (hN j (by omega)).trans (hG j (by omega))
  refine gy_putf gd_H_init_46 gf_H_32 gc_0 gr_H_init_0_4 hA (gz_fits.a (gz_isr.r _)) (fun M hA hN => ?_)
  replace hc0 := (hN _ (by omega)).trans hc0
  replace hc1 := (hN _ (by omega)).trans hc1
  replace hc2 := (hN _ (by omega)).trans hc2
  replace hc3 := (hN _ (by omega)).trans hc3
  replace hc4 := (hN _ (by omega)).trans hc4
  replace hF := fun j (h1 : j ≠ 3) (h2 : j < 4) => (hN j h1).trans (hF j h1 h2)
  replace hG := fun j (h1 : 4 + 1 + 1 + 1 + 1 + 1 ≤ j) => (hN j (by omega)).trans (hG j h1)
  refine gz_aload_n gd_H_init_49 rfl rfl (gz_isr.r _) ?_
  refine gz_bipush (v := 6) gd_H_init_50 (by decide) ?_
  refine gy_newarray (kd := 2) (N := 6) gd_H_init_52 rfl rfl gw_115 rfl (by decide) (by decide) (by omega) (by omega) (fun M hc5 hN => ?_)
  replace hA := (hN _ (by omega)).trans hA
  replace hc0 := (hN _ (by omega)).trans hc0
  replace hc1 := (hN _ (by omega)).trans hc1
  replace hc2 := (hN _ (by omega)).trans hc2
  replace hc3 := (hN _ (by omega)).trans hc3
  replace hc4 := (hN _ (by omega)).trans hc4
  replace hF := fun j (h1 : j ≠ 3) (h2 : j < 4) => (hN j (by omega)).trans (hF j h1 h2)
  replace hG := fun j (h1 : 4 + 1 + 1 + 1 + 1 + 1 + 1 ≤ j) => (hN j (by omega)).trans (hG j (by omega))
  refine gy_putf gd_H_init_54 gf_H_36 gc_0 gr_H_init_0_5 hA (gz_fits.a (gz_isr.r _)) (fun M hA hN => ?_)
  replace hc0 := (hN _ (by omega)).trans hc0
  replace hc1 := (hN _ (by omega)).trans hc1
  replace hc2 := (hN _ (by omega)).trans hc2
  replace hc3 := (hN _ (by omega)).trans hc3
  replace hc4 := (hN _ (by omega)).trans hc4
  replace hc5 := (hN _ (by omega)).trans hc5
  replace hF := fun j (h1 : j ≠ 3) (h2 : j < 4) => (hN j h1).trans (hF j h1 h2)
  replace hG := fun j (h1 : 4 + 1 + 1 + 1 + 1 + 1 + 1 ≤ j) => (hN j (by omega)).trans (hG j h1)
  refine gz_aload_n gd_H_init_57 rfl rfl (gz_isr.r _) ?_
  refine gz_bipush (v := 6) gd_H_init_58 (by decide) ?_
  refine gy_newarray (kd := 1) (N := 6) gd_H_init_60 rfl rfl gw_114 rfl (by decide) (by decide) (by omega) (by omega) (fun M hc6 hN => ?_)
  replace hA := (hN _ (by omega)).trans hA
  replace hc0 := (hN _ (by omega)).trans hc0
  replace hc1 := (hN _ (by omega)).trans hc1
  replace hc2 := (hN _ (by omega)).trans hc2
  replace hc3 := (hN _ (by omega)).trans hc3
  replace hc4 := (hN _ (by omega)).trans hc4
  replace hc5 := (hN _ (by omega)).trans hc5
  replace hF := fun j (h1 : j ≠ 3) (h2 : j < 4) => (hN j (by omega)).trans (hF j h1 h2)
  replace hG := fun j (h1 : 4 + 1 + 1 + 1 + 1 + 1 + 1 + 1 ≤ j) => (hN j (by omega)).trans (hG j (by omega))
  refine gy_putf gd_H_init_62 gf_H_39 gc_0 gr_H_init_0_6 hA (gz_fits.a (gz_isr.r _)) (fun M hA hN => ?_)
  replace hc0 := (hN _ (by omega)).trans hc0
  replace hc1 := (hN _ (by omega)).trans hc1
  replace hc2 := (hN _ (by omega)).trans hc2
  replace hc3 := (hN _ (by omega)).trans hc3
  replace hc4 := (hN _ (by omega)).trans hc4
  replace hc5 := (hN _ (by omega)).trans hc5
  replace hc6 := (hN _ (by omega)).trans hc6
  replace hF := fun j (h1 : j ≠ 3) (h2 : j < 4) => (hN j h1).trans (hF j h1 h2)
  replace hG := fun j (h1 : 4 + 1 + 1 + 1 + 1 + 1 + 1 + 1 ≤ j) => (hN j (by omega)).trans (hG j h1)
  refine gz_iconst (v := 0) gd_H_init_65 (by decide) ?_
  refine gz_istore_n gd_H_init_66 rfl (Nat.le_of_ble_eq_true rfl) rfl ?_
  have loop : ∀ (j o : Nat), o + j = 12 → ∀ M, FH M o → (∀ i, i < o → OF M i) → (∀ j, j < 3 → M j = Mz j) → (∀ j, 11 + 6 * o ≤ j → M j = none) → GZ l P1 D F_H_init K 67 [some (.ref 3), some (.int (nI o))] [] M (11 + 6 * o) (nc + 7 + 6 * o) (ns + 79 + 136 * o) := by
    intro j
    induction j with
    | zero =>
      intro o ho M hH hO hF hG
      obtain ⟨h3, h4, ⟨f5, h5, hf5⟩, h6, h7, h8, h9, h10⟩ := hH
      refine gz_iload_n gd_H_init_67 rfl rfl ?_
      refine gz_bipush (v := 12) gd_H_init_68 (by decide) ?_
      refine gz_icmp_ge (tgt := 93) gd_H_init_70 (by decide) (fun h70 => ?_) (fun h70 => ?_)
      ·
        replace h70 := (nI_leI (a := 12) (b := o) (by omega) (by omega)).1 h70
        refine gz_return gd_H_init_93 rfl ?_
        have e12 : o = 12 := by omega
        subst e12
        exact k _ ⟨h3, h4, ⟨f5, h5, hf5⟩, h6, h7, h8, h9, h10⟩ hO hF hG
      ·
        replace h70 := mt (nI_leI (a := 12) (b := o) (by omega) (by omega)).2 h70
        omega
    | succ j ih =>
      intro o ho M hH hO hF hG
      obtain ⟨h3, h4, ⟨f5, h5, hf5⟩, h6, h7, h8, h9, h10⟩ := hH
      refine gz_iload_n gd_H_init_67 rfl rfl ?_
      refine gz_bipush (v := 12) gd_H_init_68 (by decide) ?_
      refine gz_icmp_ge (tgt := 93) gd_H_init_70 (by decide) (fun h70 => ?_) (fun h70 => ?_)
      ·
        replace h70 := (nI_leI (a := 12) (b := o) (by omega) (by omega)).1 h70
        omega
      ·
        replace h70 := mt (nI_leI (a := 12) (b := o) (by omega) (by omega)).2 h70
        refine gz_aload_n gd_H_init_73 rfl rfl (gz_isr.r _) ?_
        refine gq_getf (y := .ref (5)) gd_H_init_74 gf_H_17 h3 rfl rfl ?_
        refine gz_iload_n gd_H_init_77 rfl rfl ?_
        refine gy_newS (sz := 10) gd_H_init_78 gn_H_init_78 rfl (by omega) (by omega) (fun M1 hX hN1 => ?_)
        refine gz_dup gd_H_init_81 rfl ?_
        refine gz_iload_n gd_H_init_82 rfl rfl ?_
        refine gz_special1 gd_H_init_83 gs_H_init_83 (Nat.le_of_ble_eq_true rfl) (Nat.le_of_ble_eq_true rfl) ?_
        refine o_init (a := 11 + 6 * o) (x := nI o) hX (by omega) (fun j hj => (hN1 j (by omega)).trans (hG j (by omega))) (by omega) (by omega) (fun M2 fz q0 q1 q3 hfz q4 q5 q6 hN2 hG2 => ?_)
        replace h5 := (hN2 5 (by omega) (by omega)).trans ((hN1 5 (by omega)).trans h5)
        refine gz_aastore (kd := 6) (ci := 3) gd_H_init_86 rfl rfl h5 q0 rfl (by omega) (by decide) (by decide) ?_
        refine gz_iinc (v := nI (o + 1)) gd_H_init_87 rfl (nI_1 o) (Nat.le_of_ble_eq_true rfl) rfl ?_
        refine gz_goto (tgt := 67) gd_H_init_90 (by decide) ?_
        rw [show nc + 7 + 6 * o + 1 + 5 = nc + 7 + 6 * (o + 1) by omega, show ns + 79 + 136 * o + 10 + 126 = ns + 79 + 136 * (o + 1) by omega, show 11 + 6 * o + 1 + 5 = 11 + 6 * (o + 1) by omega]
        have hall : ∀ j, j ≠ 11 + 6 * o → j < 11 + 6 * o + 1 → j ≠ 5 → gz_up M2 5 (.inl (6, 12, updV f5 o (.ref (11 + 6 * o)))) j = M j := fun j a1 a2 a3 => (gz_up_n a3).trans ((hN2 j a1 a2).trans (hN1 j a1))
        refine ih (o + 1) (by omega) _ ⟨(hall 3 (by omega) (by omega) (by omega)).trans h3, (hall 4 (by omega) (by omega) (by omega)).trans h4, ⟨_, gz_up_s, fun i hi => ?_⟩, (hall 6 (by omega) (by omega) (by omega)).trans h6, (hall 7 (by omega) (by omega) (by omega)).trans h7, (hall 8 (by omega) (by omega) (by omega)).trans h8, (hall 9 (by omega) (by omega) (by omega)).trans h9, (hall 10 (by omega) (by omega) (by omega)).trans h10⟩ (fun i hi => ?_) (fun j hj => (hall j (by omega) (by omega) (by omega)).trans (hF j hj)) (fun j hj => (gz_up_n (by omega)).trans (hG2 j (by omega)))
        · by_cases c : i = o
          · rw [c]; simp [updV]
          · simp only [updV, if_neg c]
            exact hf5 i (by omega)
        · by_cases c : i = o
          · subst c
            have e1 : 11 + 6 * i + 1 = 12 + 6 * i := by omega
            rw [e1] at q0 q1 q3 q4 q5 q6
            rw [show 12 + 6 * i + 1 = 13 + 6 * i by omega, show 12 + 6 * i + 2 = 14 + 6 * i by omega, show 12 + 6 * i + 3 = 15 + 6 * i by omega, show 12 + 6 * i + 4 = 16 + 6 * i by omega] at q0
            rw [show 12 + 6 * i + 1 = 13 + 6 * i by omega] at q3
            rw [show 12 + 6 * i + 2 = 14 + 6 * i by omega] at q4
            rw [show 12 + 6 * i + 3 = 15 + 6 * i by omega] at q5
            rw [show 12 + 6 * i + 4 = 16 + 6 * i by omega] at q6
            exact ⟨(gz_up_n (by omega)).trans q0, (gz_up_n (by omega)).trans q1, ⟨fz, (gz_up_n (by omega)).trans q3, hfz⟩, (gz_up_n (by omega)).trans q4, (gz_up_n (by omega)).trans q5, (gz_up_n (by omega)).trans q6⟩
          · exact (hO i (by omega)).keep (fun j a1 a2 => hall j (by omega) (by omega) (by omega))
  exact loop 12 0 (by omega) M ⟨hA, hc0, ⟨_, hc1, fun i hi => absurd hi (Nat.not_lt_zero _)⟩, hc2, hc3, hc4, hc5, hc6⟩ (fun i hi => absurd hi (Nat.not_lt_zero _)) (fun j hj => (hF j (by omega) (by omega)).trans rfl) (fun j hj => hG j (by omega))

def CT0 : CT := CT.w_up none (fun _ => true)
def g0 (f : Nat → Value) : gG := (fun _ => 1, fun _ => 0, fun _ => f, fun _ => 0, fun _ => 0, fun _ => 0)
theorem FX_0 {v : gV} {f : Nat → Value} {M : gzM} (hH : FH M 12) (hO : ∀ i, i < 12 → OF M i) : FX v (g0 f) CT0 M := by
  obtain ⟨h3, h4, ⟨f5, h5, hf5⟩, h6, h7, h8, h9, h10⟩ := hH
  refine ⟨h3, ⟨_, h4, fun p _ => rfl⟩, ⟨f5, h5, hf5⟩, ⟨_, h7, fun i _ => rfl⟩, ⟨_, h8, fun i _ => rfl⟩, ⟨_, h9, fun i _ => rfl⟩, ⟨_, h10, fun i _ => rfl⟩, fun o ho => (hO o ho).1, fun o ho => ⟨_, (hO o ho).2.1, fun p _ => rfl⟩, fun o ho => ?_, fun o ho => ⟨_, (hO o ho).2.2.2.1, fun p _ => rfl⟩, ⟨0, h6⟩, fun o ho => ⟨0, (hO o ho).2.2.2.2.1⟩, fun o ho => ⟨0, (hO o ho).2.2.2.2.2⟩⟩
  obtain ⟨f, a1, a2⟩ := (hO o ho).2.2.1
  exact ⟨f, a1, fun p hp => (a2 p hp).trans rfl⟩
