/-! The class: letters, telling, including. Printed by wip/whole/h1.py -/
theorem c_init {l : Launch} {D : gzD} {K : gzK} {M : gzM} {n nc ns : Nat} {a : Nat} {x0 x1 : Value} (hA : M a = some (.inr (1, [x0, x1]))) {y0 : Int32} {z1 : Value} (hz1 : gz_isr z1) (hq1 : z1.category = 1) (k : ∀ M', M' a = some (.inr (1, [.int y0, z1])) → (∀ j, j ≠ a → M' j = M j) → K (.inl none) M' n nc ns) : GZ l P1 D F_C_init K 0 [some (.ref a), some (.int y0), some (z1)] [] M n nc ns := by
  have hF : ∀ j, j ≠ a → M j = M j := fun j _ => rfl
  refine gz_aload_n gd_C_init_0 rfl rfl (gz_isr.r _) ?_
  refine gz_objInit gd_C_init_1 gw_431 gw_30 gw_31 (by decide) (Nat.le_of_ble_eq_true rfl) ?_
  refine gz_aload_n gd_C_init_4 rfl rfl (gz_isr.r _) ?_
  refine gz_iload_n gd_C_init_5 rfl rfl ?_
  refine gy_putf gd_C_init_6 gf_C_7 gc_1 gr_C_init_1_0 hA (gz_fits.i) (fun M hA hN => ?_)
  replace hF := fun j (hj : j ≠ a) => (hN j hj).trans (hF j hj)
  refine gz_aload_n gd_C_init_9 rfl rfl (gz_isr.r _) ?_
  refine gz_aload_n gd_C_init_10 rfl rfl hz1 ?_
  refine gy_putf gd_C_init_11 gf_C_13 gc_1 gr_C_init_1_1 hA (gz_fits.o hz1) (fun M hA hN => ?_)
  replace hF := fun j (hj : j ≠ a) => (hN j hj).trans (hF j hj)
  refine gz_return gd_C_init_14 rfl ?_
  exact k _ hA hF

theorem t_init {l : Launch} {D : gzD} {K : gzK} {M : gzM} {n nc ns : Nat} {a : Nat} {x0 x1 x2 x3 : Value} (hA : M a = some (.inr (2, [x0, x1, x2, x3]))) {y0 : Int32} {y1 : Int32} {y2 : Int32} {z3 : Value} (hz3 : gz_isr z3) (hq3 : z3.category = 1) (k : ∀ M', M' a = some (.inr (2, [.int y0, .int y1, .int y2, z3])) → (∀ j, j ≠ a → M' j = M j) → K (.inl none) M' n nc ns) : GZ l P1 D F_T_init K 0 [some (.ref a), some (.int y0), some (.int y1), some (.int y2), some (z3)] [] M n nc ns := by
  have hF : ∀ j, j ≠ a → M j = M j := fun j _ => rfl
  refine gz_aload_n gd_T_init_0 rfl rfl (gz_isr.r _) ?_
  refine gz_objInit gd_T_init_1 gw_509 gw_30 gw_31 (by decide) (Nat.le_of_ble_eq_true rfl) ?_
  refine gz_aload_n gd_T_init_4 rfl rfl (gz_isr.r _) ?_
  refine gz_iload_n gd_T_init_5 rfl rfl ?_
  refine gy_putf gd_T_init_6 gf_T_7 gc_2 gr_T_init_2_0 hA (gz_fits.i) (fun M hA hN => ?_)
  replace hF := fun j (hj : j ≠ a) => (hN j hj).trans (hF j hj)
  refine gz_aload_n gd_T_init_9 rfl rfl (gz_isr.r _) ?_
  refine gz_iload_n gd_T_init_10 rfl rfl ?_
  refine gy_putf gd_T_init_11 gf_T_13 gc_2 gr_T_init_2_1 hA (gz_fits.i) (fun M hA hN => ?_)
  replace hF := fun j (hj : j ≠ a) => (hN j hj).trans (hF j hj)
  refine gz_aload_n gd_T_init_14 rfl rfl (gz_isr.r _) ?_
  refine gz_iload_n gd_T_init_15 rfl rfl ?_
  refine gy_putf gd_T_init_16 gf_T_16 gc_2 gr_T_init_2_2 hA (gz_fits.i) (fun M hA hN => ?_)
  replace hF := fun j (hj : j ≠ a) => (hN j hj).trans (hF j hj)
  refine gz_aload_n gd_T_init_19 rfl rfl (gz_isr.r _) ?_
  refine gz_aload gd_T_init_20 rfl hz3 ?_
  refine gy_putf gd_T_init_22 gf_T_19 gc_2 gr_T_init_2_3 hA (gz_fits.o hz3) (fun M hA hN => ?_)
  replace hF := fun j (hj : j ≠ a) => (hN j hj).trans (hF j hj)
  refine gz_return gd_T_init_25 rfl ?_
  exact k _ hA hF

theorem v_init {l : Launch} {D : gzD} {K : gzK} {M : gzM} {n nc ns : Nat} {a : Nat} {x0 x1 x2 : Value} (hA : M a = some (.inr (5, [x0, x1, x2]))) {y0 : Int32} {z1 : Value} (hz1 : gz_isr z1) (hq1 : z1.category = 1) {y2 : Int32} (k : ∀ M', M' a = some (.inr (5, [.int y0, z1, .int y2])) → (∀ j, j ≠ a → M' j = M j) → K (.inl none) M' n nc ns) : GZ l P1 D F_V_init K 0 [some (.ref a), some (.int y0), some (z1), some (.int y2)] [] M n nc ns := by
  have hF : ∀ j, j ≠ a → M j = M j := fun j _ => rfl
  refine gz_aload_n gd_V_init_0 rfl rfl (gz_isr.r _) ?_
  refine gz_objInit gd_V_init_1 gw_394 gw_30 gw_31 (by decide) (Nat.le_of_ble_eq_true rfl) ?_
  refine gz_aload_n gd_V_init_4 rfl rfl (gz_isr.r _) ?_
  refine gz_iload_n gd_V_init_5 rfl rfl ?_
  refine gy_putf gd_V_init_6 gf_V_7 gc_5 gr_V_init_5_0 hA (gz_fits.i) (fun M hA hN => ?_)
  replace hF := fun j (hj : j ≠ a) => (hN j hj).trans (hF j hj)
  refine gz_aload_n gd_V_init_9 rfl rfl (gz_isr.r _) ?_
  refine gz_aload_n gd_V_init_10 rfl rfl hz1 ?_
  refine gy_putf gd_V_init_11 gf_V_13 gc_5 gr_V_init_5_1 hA (gz_fits.a hz1) (fun M hA hN => ?_)
  replace hF := fun j (hj : j ≠ a) => (hN j hj).trans (hF j hj)
  refine gz_aload_n gd_V_init_14 rfl rfl (gz_isr.r _) ?_
  refine gz_iload_n gd_V_init_15 rfl rfl ?_
  refine gy_putf gd_V_init_16 gf_V_17 gc_5 gr_V_init_5_2 hA (gz_fits.i) (fun M hA hN => ?_)
  replace hF := fun j (hj : j ≠ a) => (hN j hj).trans (hF j hj)
  refine gz_return gd_V_init_19 rfl ?_
  exact k _ hA hF

theorem r_init {l : Launch} {D : gzD} {K : gzK} {M : gzM} {n nc ns : Nat} {a : Nat} {x0 x1 x2 : Value} (hA : M a = some (.inr (4, [x0, x1, x2]))) {y0 : Int32} {y1 : Int32} (k : ∀ M', M' a = some (.inr (4, [.int y1, .int y0, x2])) → (∀ j, j ≠ a → M' j = M j) → K (.inl none) M' n nc ns) : GZ l P1 D F_R_init K 0 [some (.ref a), some (.int y0), some (.int y1)] [] M n nc ns := by
  have hF : ∀ j, j ≠ a → M j = M j := fun j _ => rfl
  refine gz_aload_n gd_R_init_0 rfl rfl (gz_isr.r _) ?_
  refine gz_objInit gd_R_init_1 gw_318 gw_30 gw_31 (by decide) (Nat.le_of_ble_eq_true rfl) ?_
  refine gz_aload_n gd_R_init_4 rfl rfl (gz_isr.r _) ?_
  refine gz_iload_n gd_R_init_5 rfl rfl ?_
  refine gy_putf gd_R_init_6 gf_R_7 gc_4 gr_R_init_4_1 hA (gz_fits.i) (fun M hA hN => ?_)
  replace hF := fun j (hj : j ≠ a) => (hN j hj).trans (hF j hj)
  refine gz_aload_n gd_R_init_9 rfl rfl (gz_isr.r _) ?_
  refine gz_iload_n gd_R_init_10 rfl rfl ?_
  refine gy_putf gd_R_init_11 gf_R_13 gc_4 gr_R_init_4_0 hA (gz_fits.i) (fun M hA hN => ?_)
  replace hF := fun j (hj : j ≠ a) => (hN j hj).trans (hF j hj)
  refine gz_return gd_R_init_14 rfl ?_
  exact k _ hA hF

theorem h_admits {l : Launch} {D : gzD} {K : gzK} {M : gzM} {n nc ns : Nat} {M0 : gzM} {b : Nat} {v : gV} {g : gG} {T : CT} (hC : RC M0 b v g T M n nc ns) {o p j : Nat} (ho : o < 12) (hp : p < 40) (hj : j < 12) (hB : Bd T) (k : K (.inl (some (.int (bI (y_may T o p j))))) M n nc ns) : GZ l P1 D F_O_admits K 0 [some (.ref (11 + 6 * o)), some (.int (nI p)), some (.int (nI j))] [] M n nc ns := by
  refine gz_aload_n gd_O_admits_0 rfl rfl (gz_isr.r _) ?_
  refine gq_getf (y := .ref (13 + 6 * o)) gd_O_admits_1 gf_O_17 (hC.1.off o (by omega)) rfl rfl ?_
  refine gz_iload_n gd_O_admits_4 rfl rfl ?_
  refine rc_src (o := o) (p := p) gd_O_admits_5 hC (by omega) (by omega) ?_
  refine gz_iconst (v := -1) gd_O_admits_6 (by decide) ?_
  refine gz_icmp_eq (tgt := 20) gd_O_admits_7 (by decide) (fun h7 => ?_) (fun h7 => ?_)
  ·
    replace h7 := (oI_n1 (fun j hj => hB.src o p j ho hp hj)).1 h7
    refine gz_iconst (v := 1) gd_O_admits_20 (by decide) ?_
    refine gz_goto (tgt := 25) gd_O_admits_21 (by decide) ?_
    refine gz_ireturn gd_O_admits_25 rfl rfl ?_
    rw [show y_may T o p j = true by unfold y_may; rw [(hB.srcN o p ho hp).2 h7]; rfl] at k
    exact k
  ·
    replace h7 := mt (oI_n1 (fun j hj => hB.src o p j ho hp hj)).2 h7
    refine gz_aload_n gd_O_admits_10 rfl rfl (gz_isr.r _) ?_
    refine gq_getf (y := .ref (13 + 6 * o)) gd_O_admits_11 gf_O_17 (hC.1.off o (by omega)) rfl rfl ?_
    refine gz_iload_n gd_O_admits_14 rfl rfl ?_
    refine rc_src (o := o) (p := p) gd_O_admits_15 hC (by omega) (by omega) ?_
    refine gz_iload_n gd_O_admits_16 rfl rfl ?_
    refine gz_icmp_ne (tgt := 24) gd_O_admits_17 (by decide) (fun h17 => ?_) (fun h17 => ?_)
    ·
      replace h17 := mt (oI_eq (o := j) (fun j hj => hB.src o p j ho hp hj) (by omega)).2 h17
      refine gz_iconst (v := 0) gd_O_admits_24 (by decide) ?_
      refine gz_ireturn gd_O_admits_25 rfl rfl ?_
      rw [show y_may T o p j = false by unfold y_may; simp [mt (hB.srcN o p ho hp).1 h7, h17]] at k
      exact k
    ·
      replace h17 := (oI_eq (o := j) (fun j hj => hB.src o p j ho hp hj) (by omega)).1 h17
      refine gz_iconst (v := 1) gd_O_admits_20 (by decide) ?_
      refine gz_goto (tgt := 25) gd_O_admits_21 (by decide) ?_
      refine gz_ireturn gd_O_admits_25 rfl rfl ?_
      rw [show y_may T o p j = true by unfold y_may; rw [h17]; simp] at k
      exact k

theorem h_send {l : Launch} {D : gzD} {K : gzK} {M : gzM} {n nc ns : Nat} {M0 : gzM} {b : Nat} {v : gV} {g : gG} {T : CT} (hC : RC M0 b v g T M n nc ns)(hD : RM D) (hb : b + 3 ≤ 300000)  {o q : Nat} (ho : o < 12) {x p w : Nat} (hx : M x = some (.inr (1, [.int (nI p), vref v w]))) (k : ∀ g M n nc ns, RC M0 (b + bN (decide (T.post.length < 500))) v g (y_send T o q (p, w)) M n nc ns → K (.inl none) M n nc ns) : GZ l P1 D F_H_sendLetter K 0 [some (.ref 3), some (.ref (11 + 6 * o)), some (.int (nI q)), some (.ref x)] [] M n nc ns := by
  have hpl := hC.2.1.capP
  refine gz_aload_n gd_H_sendLetter_0 rfl rfl (gz_isr.r _) ?_
  refine gq_getf (y := .ref (6)) gd_H_sendLetter_1 gf_H_24 hC.1.house rfl rfl ?_
  obtain ⟨mcx, hLO⟩ := hC.1.loP
  refine gz_virtual0 gd_H_sendLetter_4 hLO rfl rfl gs_H_sendLetter_4 (Nat.le_of_ble_eq_true rfl) (Nat.le_of_ble_eq_true rfl) ?_
  refine rl_sizeP hC ?_
  refine gz_sipush (v := 500) gd_H_sendLetter_7 (by decide) ?_
  refine gz_icmp_ge (tgt := 38) gd_H_sendLetter_10 (by decide) (fun h10 => ?_) (fun h10 => ?_)
  ·
    replace h10 := (nI_leI (a := 500) (b := T.post.length) (by omega) (by omega)).1 h10
    refine gz_return gd_H_sendLetter_38 rfl ?_
    rw [show y_send T o q (p, w) = T from if_neg (by omega), show bN (decide (T.post.length < 500)) = 0 by rw [decide_eq_false (by omega)]; rfl] at k
    exact k _ _ _ _ _ hC
  ·
    replace h10 := mt (nI_leI (a := 500) (b := T.post.length) (by omega) (by omega)).2 h10
    refine gz_aload_n gd_H_sendLetter_13 rfl rfl (gz_isr.r _) ?_
    refine gq_getf (y := .ref (6)) gd_H_sendLetter_14 gf_H_24 hC.1.house rfl rfl ?_
    have hr := hC.room hD (by omega)
    have hC0 := hC
    refine gy_new gd_H_sendLetter_17 gn_H_sendLetter_17 (by omega) (by show ns + 4 ≤ _; omega) (fun M1 hX hN1 => ?_)
    replace hC := (hC0.alloc (sz := 4) hN1 (by decide)).1
    refine gz_dup gd_H_sendLetter_20 rfl ?_
    refine gz_aload_n gd_H_sendLetter_21 rfl rfl (gz_isr.r _) ?_
    refine gq_getf (y := .int (nI o)) gd_H_sendLetter_22 gf_H_318 (hC.1.off o (by omega)) rfl rfl ?_
    refine gz_aload_n gd_H_sendLetter_25 rfl rfl (gz_isr.r _) ?_
    refine gq_getf (y := .int (T.ep o)) gd_H_sendLetter_26 gf_H_141 (hC.1.off o (by omega)) rfl rfl ?_
    refine gz_iload_n gd_H_sendLetter_29 rfl rfl ?_
    refine gz_aload_n gd_H_sendLetter_30 rfl rfl (gz_isr.r _) ?_
    refine gz_special4 gd_H_sendLetter_31 gs_H_sendLetter_31 (Nat.le_of_ble_eq_true rfl) (Nat.le_of_ble_eq_true rfl) ?_
    refine t_init hX (gz_isr.r _) rfl (fun M2 hX hN2 => ?_)
    obtain ⟨hC, hK⟩ := hC0.alloc (sz := 4) (fun j hj => (hN2 j hj).trans (hN1 j hj)) (by decide)
    replace hx := hK _ 1 _ (Or.inl rfl) hx
    obtain ⟨mcx, hLO⟩ := hC.1.loP
    refine gz_virtual1 gd_H_sendLetter_34 hLO rfl rfl gs_H_sendLetter_34 (Nat.le_of_ble_eq_true rfl) (Nat.le_of_ble_eq_true rfl) ?_
    refine rl_addP (y := (o, T.ep o, q, p, w)) hC hD (by omega) hX hx (by omega) (fun g1 M3 n1 nc1 ns1 hC hK => ?_)
    refine gz_pop gd_H_sendLetter_37 rfl ?_
    refine gz_return gd_H_sendLetter_38 rfl ?_
    rw [show y_send T o q (p, w) = T.w_post (T.post ++ [(o, T.ep o, q, p, w)]) from if_pos (by omega), show bN (decide (T.post.length < 500)) = 1 by rw [decide_eq_true (by omega)]; rfl] at k
    exact k _ _ _ _ _ hC

def y_tl1 (T : CT) (o p : Nat) : CT := if (T.par o).isSome then y_tell T o p (T.shown o p) else T
theorem tl1_n {T : CT} {o p : Nat} (h : T.par o = none) : y_tl1 T o p = T := by
  unfold y_tl1
  rw [h]
  rfl
theorem tl1_s {T : CT} {o p u : Nat} (h : T.par o = some u) : y_tl1 T o p = y_tell T o p (T.shown o p) := by
  unfold y_tl1
  rw [h]
  rfl
theorem tl_len {T : CT} {o : Nat} {x : Nat × Nat} : ((T.w_line (ct1 T.line o (T.line o ++ [x]))).line o).length = (T.line o).length + 1 := by
  show (ct1 T.line o (T.line o ++ [x]) o).length = _
  rw [show ct1 T.line o (T.line o ++ [x]) o = T.line o ++ [x] from if_pos rfl]
  simp
theorem h_tell {l : Launch} {D : gzD} {K : gzK} {M : gzM} {n nc ns : Nat} {M0 : gzM} {b : Nat} {v : gV} {g : gG} {T : CT} (hC : RC M0 b v g T M n nc ns)(hD : RM D) (hb : b + 5 ≤ 300000)  {o p : Nat} (ho : o < 12) (hp : p < 40) (hpar : ∀ j, T.par o = some j → j < 12) (hl : (T.line o).length < 9000) (k : ∀ g M n nc ns, RC M0 (b + 2) v g (y_tl1 T o p) M n nc ns → K (.inl none) M n nc ns) : GZ l P1 D F_H_tellParent K 0 [some (.ref 3), some (.ref (11 + 6 * o)), some (.int (nI p)), none] [] M n nc ns := by
  refine gz_aload_n gd_H_tellParent_0 rfl rfl (gz_isr.r _) ?_
  refine gq_getf (y := .int (oI (T.par o))) gd_H_tellParent_1 gf_H_138 (hC.1.off o (by omega)) rfl rfl ?_
  refine gz_iconst (v := -1) gd_H_tellParent_4 (by decide) ?_
  refine gz_icmp_eq (tgt := 45) gd_H_tellParent_5 (by decide) (fun h5 => ?_) (fun h5 => ?_)
  ·
    replace h5 := (oI_n1 hpar).1 h5
    refine gz_return gd_H_tellParent_45 rfl ?_
    rw [tl1_n h5] at k
    exact k _ _ _ _ _ (hC.le (by omega))
  ·
    replace h5 := mt (oI_n1 hpar).2 h5
    obtain ⟨u, hu⟩ := Option.ne_none_iff_exists'.mp h5
    rw [tl1_s hu] at k
    have hr := hC.room hD (by omega)
    have hC0 := hC
    refine gy_new gd_H_tellParent_8 gn_H_tellParent_8 (by omega) (by show ns + 2 ≤ _; omega) (fun M1 hX hN1 => ?_)
    replace hC := (hC0.alloc (sz := 2) hN1 (by decide)).1
    refine gz_dup gd_H_tellParent_11 rfl ?_
    refine gz_iload_n gd_H_tellParent_12 rfl rfl ?_
    refine gz_aload_n gd_H_tellParent_13 rfl rfl (gz_isr.r _) ?_
    refine gq_getf (y := .ref (12 + 6 * o)) gd_H_tellParent_14 gf_H_144 (hC.1.off o (by omega)) rfl rfl ?_
    refine gz_iload_n gd_H_tellParent_17 rfl rfl ?_
    refine rc_shown (o := o) (p := p) gd_H_tellParent_18 hC (by omega) (by omega) ?_
    refine gz_special2 gd_H_tellParent_19 gs_H_tellParent_19 (gz_slen3 rfl rfl (vref_cat _ _) (Nat.le_of_ble_eq_true rfl)) (Nat.le_of_ble_eq_true rfl) ?_
    rw [gz_ent3 rfl rfl (vref_cat _ _)]
    refine c_init hX (vref_isr _ _) (vref_cat _ _) (fun M2 hX hN2 => ?_)
    obtain ⟨hC, hK⟩ := hC0.alloc (sz := 2) (fun j hj => (hN2 j hj).trans (hN1 j hj)) (by decide)
    refine gz_astore_n gd_H_tellParent_22 rfl (Nat.le_of_ble_eq_true rfl) rfl (gz_isr.r _) ?_
    refine gz_aload_n gd_H_tellParent_23 rfl rfl (gz_isr.r _) ?_
    refine gq_getf (y := .ref (15 + 6 * o)) gd_H_tellParent_24 gf_H_236 (hC.1.off o (by omega)) rfl rfl ?_
    refine gz_aload_n gd_H_tellParent_27 rfl rfl (gz_isr.r _) ?_
    obtain ⟨mcx, hLO⟩ := hC.1.loL o (by omega)
    refine gz_virtual1 gd_H_tellParent_28 hLO rfl rfl gs_H_tellParent_28 (Nat.le_of_ble_eq_true rfl) (Nat.le_of_ble_eq_true rfl) ?_
    refine rl_addL hC hD (by omega) (by omega) hX hl (fun g1 M3 n1 nc1 ns1 hC hK => ?_)
    replace hX := hK _ 1 _ (Or.inl rfl) hX
    refine gz_pop gd_H_tellParent_31 rfl ?_
    refine gz_aload_n gd_H_tellParent_32 rfl rfl (gz_isr.r _) ?_
    refine gz_aload_n gd_H_tellParent_33 rfl rfl (gz_isr.r _) ?_
    refine gz_aload_n gd_H_tellParent_34 rfl rfl (gz_isr.r _) ?_
    refine gq_getf (y := .ref (15 + 6 * o)) gd_H_tellParent_35 gf_H_236 (hC.1.off o (by omega)) rfl rfl ?_
    obtain ⟨mcx, hLO⟩ := hC.1.loL o (by omega)
    refine gz_virtual0 gd_H_tellParent_38 hLO rfl rfl gs_H_tellParent_38 (Nat.le_of_ble_eq_true rfl) (Nat.le_of_ble_eq_true rfl) ?_
    refine rl_sizeL hC (by omega) ?_
    rw [tl_len]
    refine gz_aload_n gd_H_tellParent_41 rfl rfl (gz_isr.r _) ?_
    refine gz_virtual3 gd_H_tellParent_42 hC.1.house rfl rfl gs_H_tellParent_42 (Nat.le_of_ble_eq_true rfl) (Nat.le_of_ble_eq_true rfl) ?_
    refine h_send hC hD (by omega) (by omega) hX (fun g1 M4 n2 nc2 ns2 hC => ?_)
    refine gz_return gd_H_tellParent_45 rfl ?_
    have hbn : ∀ t : Bool, bN t ≤ 1 := fun t => by cases t <;> decide
    have hbn2 := hbn (decide ((T.w_line (ct1 T.line o (T.line o ++ [(p, T.shown o p)]))).post.length < 500))
    exact k _ _ _ _ _ (hC.le (by omega))

theorem set_tl1 {T : CT} {o p w : Nat} {s : Option Nat} : y_tl1 ((T.p_shown o p w).p_src o p s) o p = y_set T o p w s := by
  have e : ((T.p_shown o p w).p_src o p s).shown o p = w := by
    show ct2 T.shown o p w o p = w
    exact if_pos ⟨rfl, rfl⟩
  unfold y_tl1 y_set
  rw [e]
  rfl
theorem h_include {l : Launch} {D : gzD} {K : gzK} {M : gzM} {n nc ns : Nat} {M0 : gzM} {b : Nat} {v : gV} {g : gG} {T : CT} (hC : RC M0 b v g T M n nc ns)(hD : RM D) (hb : b + 6 ≤ 300000)  {o p w j : Nat} (ho : o < 12) (hp : p < 40) (hw : w ≤ T.vs) (hpar : ∀ j, T.par o = some j → j < 12) (hl : (T.line o).length < 9000) (k : ∀ g M n nc ns, RC M0 (b + 2) v g (y_set T o p w (some j)) M n nc ns → K (.inl none) M n nc ns) : GZ l P1 D F_H_include K 0 [some (.ref 3), some (.ref (11 + 6 * o)), some (.int (nI p)), some (vref v w), some (.int (nI j))] [] M n nc ns := by
  refine gz_aload_n gd_H_include_0 rfl rfl (gz_isr.r _) ?_
  refine gq_getf (y := .ref (12 + 6 * o)) gd_H_include_1 gf_H_144 (hC.1.off o (by omega)) rfl rfl ?_
  refine gz_iload_n gd_H_include_4 rfl rfl ?_
  refine gz_aload_n gd_H_include_5 rfl rfl (vref_isr _ _) ?_
  refine rs_shown (o := o) (p := p) (w := w) gd_H_include_6 hC (by omega) (by omega) hw (fun M hC => ?_)
  refine gz_aload_n gd_H_include_7 rfl rfl (gz_isr.r _) ?_
  refine gq_getf (y := .ref (13 + 6 * o)) gd_H_include_8 gf_H_179 (hC.1.off o (by omega)) rfl rfl ?_
  refine gz_iload_n gd_H_include_11 rfl rfl ?_
  refine gz_iload gd_H_include_12 rfl ?_
  refine rs_src (o := o) (p := p) (x := some j) gd_H_include_14 hC (by omega) (by omega) (fun M hC => ?_)
  refine gz_aload_n gd_H_include_15 rfl rfl (gz_isr.r _) ?_
  refine gz_aload_n gd_H_include_16 rfl rfl (gz_isr.r _) ?_
  refine gz_iload_n gd_H_include_17 rfl rfl ?_
  refine gz_virtual2 gd_H_include_18 hC.1.house rfl rfl gs_H_include_18 (Nat.le_of_ble_eq_true rfl) (Nat.le_of_ble_eq_true rfl) ?_
  refine h_tell (T := (T.p_shown o p w).p_src o p (some j)) hC hD (by omega) (by omega) (by omega) hpar hl (fun g1 M3 n1 nc1 ns1 hC => ?_)
  rw [set_tl1] at hC
  refine gz_return gd_H_include_21 rfl ?_
  exact k _ _ _ _ _ hC

theorem h_exclude {l : Launch} {D : gzD} {K : gzK} {M : gzM} {n nc ns : Nat} {M0 : gzM} {b : Nat} {v : gV} {g : gG} {T : CT} (hC : RC M0 b v g T M n nc ns)(hD : RM D) (hb : b + 6 ≤ 300000)  {o p : Nat} (ho : o < 12) (hp : p < 40) (hpar : ∀ j, T.par o = some j → j < 12) (hl : (T.line o).length < 9000) (k : ∀ g M n nc ns, RC M0 (b + 2) v g (y_set T o p 0 none) M n nc ns → K (.inl none) M n nc ns) : GZ l P1 D F_H_exclude K 0 [some (.ref 3), some (.ref (11 + 6 * o)), some (.int (nI p))] [] M n nc ns := by
  refine gz_aload_n gd_H_exclude_0 rfl rfl (gz_isr.r _) ?_
  refine gq_getf (y := .ref (12 + 6 * o)) gd_H_exclude_1 gf_H_144 (hC.1.off o (by omega)) rfl rfl ?_
  refine gz_iload_n gd_H_exclude_4 rfl rfl ?_
  refine gz_null gd_H_exclude_5 ?_
  rw [show (Value.null) = vref v 0 from rfl]
  refine rs_shown (o := o) (p := p) (w := 0) gd_H_exclude_6 hC (by omega) (by omega) (Nat.zero_le _) (fun M hC => ?_)
  refine gz_aload_n gd_H_exclude_7 rfl rfl (gz_isr.r _) ?_
  refine gq_getf (y := .ref (13 + 6 * o)) gd_H_exclude_8 gf_H_179 (hC.1.off o (by omega)) rfl rfl ?_
  refine gz_iload_n gd_H_exclude_11 rfl rfl ?_
  refine gz_iconst (v := -1) gd_H_exclude_12 (by decide) ?_
  refine rs_src (o := o) (p := p) (x := none) gd_H_exclude_13 hC (by omega) (by omega) (fun M hC => ?_)
  refine gz_aload_n gd_H_exclude_14 rfl rfl (gz_isr.r _) ?_
  refine gz_aload_n gd_H_exclude_15 rfl rfl (gz_isr.r _) ?_
  refine gz_iload_n gd_H_exclude_16 rfl rfl ?_
  refine gz_virtual2 gd_H_exclude_17 hC.1.house rfl rfl gs_H_exclude_17 (Nat.le_of_ble_eq_true rfl) (Nat.le_of_ble_eq_true rfl) ?_
  refine h_tell (T := (T.p_shown o p 0).p_src o p none) hC hD (by omega) (by omega) (by omega) hpar hl (fun g1 M3 n1 nc1 ns1 hC => ?_)
  rw [set_tl1] at hC
  refine gz_return gd_H_exclude_20 rfl ?_
  exact k _ _ _ _ _ hC

