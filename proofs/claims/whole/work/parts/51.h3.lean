/-! The class: taking away, taking in and back, offering. Printed by wip/whole/h3.py -/
theorem h_leave {l : Launch} {D : gzD} {K : gzK} {M : gzM} {n nc ns : Nat} {M0 : gzM} {b : Nat} {v : gV} {g : gG} {T : CT} (hC : RC M0 b v g T M n nc ns) {o : Nat} (ho : o < 12) (k : ∀ g M n nc ns, RC M0 b v g (y_end T o) M n nc ns → K (.inl none) M n nc ns) : GZ l P1 D F_O_leaveParent K 0 [some (.ref (11 + 6 * o))] [] M n nc ns := by
  refine gz_aload_n gd_O_leaveParent_0 rfl rfl (gz_isr.r _) ?_
  refine gz_iconst (v := -1) gd_O_leaveParent_1 (by decide) ?_
  refine rp_par (x := none) gd_O_leaveParent_2 gf_O_35 gr_O_leaveParent_3_6 hC (by omega) (fun M hC => ?_)
  replace hC : RC M0 b v g (y_e1 T o) M n nc ns := hC
  refine gz_aload_n gd_O_leaveParent_5 rfl rfl (gz_isr.r _) ?_
  refine gq_getf (y := .ref (15 + 6 * o)) gd_O_leaveParent_6 gf_O_28 (hC.1.off o (by omega)) rfl rfl ?_
  obtain ⟨mcx, hLO⟩ := hC.1.loL o (by omega)
  refine gz_virtual0 gd_O_leaveParent_9 hLO rfl rfl gs_O_leaveParent_9 (Nat.le_of_ble_eq_true rfl) (Nat.le_of_ble_eq_true rfl) ?_
  refine rl_clrL (T := y_e1 T o) hC (by omega) (fun g1 M1 n1 nc1 ns1 hC hK => ?_)
  replace hC : RC M0 b v g1 (y_e3 (y_e1 T o) o) M1 n1 nc1 ns1 := hC
  refine gz_aload_n gd_O_leaveParent_12 rfl rfl (gz_isr.r _) ?_
  refine gz_iconst (v := 0) gd_O_leaveParent_13 (by decide) ?_
  refine rp_tk (x := 0) gd_O_leaveParent_14 gf_O_55 gr_O_leaveParent_3_8 hC (by omega) (fun M hC => ?_)
  replace hC : RC M0 b v g1 (y_e2 (y_e3 (y_e1 T o) o) o) M n1 nc1 ns1 := hC
  refine gz_aload_n gd_O_leaveParent_17 rfl rfl (gz_isr.r _) ?_
  refine gq_getf (y := .ref (16 + 6 * o)) gd_O_leaveParent_18 gf_O_32 (hC.1.off o (by omega)) rfl rfl ?_
  obtain ⟨mcx, hLO⟩ := hC.1.loW o (by omega)
  refine gz_virtual0 gd_O_leaveParent_21 hLO rfl rfl gs_O_leaveParent_21 (Nat.le_of_ble_eq_true rfl) (Nat.le_of_ble_eq_true rfl) ?_
  refine rl_clrW (T := y_e2 (y_e3 (y_e1 T o) o) o) hC (by omega) (fun g2 M2 n2 nc2 ns2 hC hK => ?_)
  replace hC : RC M0 b v g2 (y_end T o) M2 n2 nc2 ns2 := hC
  refine gz_return gd_O_leaveParent_24 rfl ?_
  exact k _ _ _ _ _ hC

def y_awc (T : CT) (o : Nat) : CT := match T.par o with
  | none => T
  | some a => y_try (y_end (y_un T a o 40) o) a
theorem un_fr {T : CT} {a o : Nat} : ∀ i, (y_un T a o i).there = T.there ∧ (y_un T a o i).last = T.last ∧ (y_un T a o i).par = T.par
  | 0 => ⟨rfl, rfl, rfl⟩
  | i + 1 => by
    have ih := un_fr (T := T) (a := a) (o := o) i
    exact ⟨y_unset_there.trans ih.1, y_unset_last.trans ih.2.1, y_unset_par.trans ih.2.2⟩
theorem JI.lroom {T : CT} {o : Nat} (hP : pot T < 9000) (ho : o < 12) : (T.line o).length < 9000 := by
  have := pot_line (T := T) ho
  unfold pot at hP
  omega
theorem TL.end {T : CT} {o : Nat} (h : TL T) : TL (y_end T o) := h.of rfl (by rw [y_end_last])
theorem h_awc {l : Launch} {D : gzD} {K : gzK} {M : gzM} {n nc ns : Nat} {M0 : gzM} {b : Nat} {v : gV} {g : gG} {T : CT} (hC : RC M0 (b + 2) v g T M n nc ns)(hD : RM D) (hb : b + 100 ≤ 300000) {o : Nat} (ho : o < 12) (hI : JI T) (hTL : TL T) (hP : pot T + 40 ≤ 9000) (k : ∀ g M n nc ns, RC M0 (b + 82) v g (y_awc T o) M n nc ns → K (.inl none) M n nc ns) : GZ l P1 D F_H_takeAway K 0 [some (.ref 3), some (.ref (11 + 6 * o)), none, none] [] M n nc ns := by
  refine gz_aload_n gd_H_takeAway_0 rfl rfl (gz_isr.r _) ?_
  refine gq_getf (y := .int (oI (T.par o))) gd_H_takeAway_1 gf_H_138 (hC.1.off o (by omega)) rfl rfl ?_
  refine gz_iconst (v := -1) gd_H_takeAway_4 (by decide) ?_
  refine gz_icmp_ne (tgt := 9) gd_H_takeAway_5 (by decide) (fun h5 => ?_) (fun h5 => ?_)
  ·
    replace h5 := mt (oI_n1 (fun j hj => hI.1.par o j ho hj)).2 h5
    obtain ⟨u, hu⟩ := Option.ne_none_iff_exists'.mp h5
    have hu2 := hI.1.par o u ho hu
    refine gz_aload_n gd_H_takeAway_9 rfl rfl (gz_isr.r _) ?_
    refine gq_getf (y := .ref (5)) gd_H_takeAway_10 gf_H_17 hC.1.house rfl rfl ?_
    refine gz_aload_n gd_H_takeAway_13 rfl rfl (gz_isr.r _) ?_
    refine gq_getf (y := .int (nI u)) gd_H_takeAway_14 gf_H_138 (hC.1.off o (by omega)) rfl (by show Value.int (oI (T.par o)) = Value.int (nI u); rw [hu]; rfl) ?_
    refine rc_offs (o := u) gd_H_takeAway_17 hC (by omega) ?_
    refine gz_astore_n gd_H_takeAway_18 rfl (Nat.le_of_ble_eq_true rfl) rfl (gz_isr.r _) ?_
    refine gz_iconst (v := 0) gd_H_takeAway_19 (by decide) ?_
    refine gz_istore_n gd_H_takeAway_20 rfl (Nat.le_of_ble_eq_true rfl) rfl ?_
    have loop : ∀ (j i : Nat), i + j = 40 → ∀ g M n nc ns, RC M0 (b + 2 * i + 2) v g (y_un T u o i) M n nc ns → GZ l P1 D F_H_takeAway K 21 [some (.ref 3), some (.ref (11 + 6 * o)), some (.ref (11 + 6 * u)), some (.int (nI i))] [] M n nc ns := by
      intro j
      induction j with
      | zero =>
        intro i hi g M n nc ns hC
        have hG := un_J hI (a := u) (o := o) hu2 hP i (by omega)
        have hfr := un_fr (T := T) (a := u) (o := o) i
        refine gz_iload_n gd_H_takeAway_21 rfl rfl ?_
        refine gz_bipush (v := 40) gd_H_takeAway_22 (by decide) ?_
        refine gz_icmp_ge (tgt := 52) gd_H_takeAway_24 (by decide) (fun h24 => ?_) (fun h24 => ?_)
        ·
          replace h24 := (nI_leI (a := 40) (b := i) (by omega) (by omega)).1 h24
          obtain rfl : i = 40 := by omega
          refine gz_aload_n gd_H_takeAway_52 rfl rfl (gz_isr.r _) ?_
          refine gz_virtual0 gd_H_takeAway_53 (hC.1.off o (by omega)) rfl rfl gs_H_takeAway_53 (Nat.le_of_ble_eq_true rfl) (Nat.le_of_ble_eq_true rfl) ?_
          refine h_leave hC (by omega) (fun g1 M1 n1 nc1 ns1 hC => ?_)
          refine gz_aload_n gd_H_takeAway_56 rfl rfl (gz_isr.r _) ?_
          refine gz_aload_n gd_H_takeAway_57 rfl rfl (gz_isr.r _) ?_
          refine gz_virtual1 gd_H_takeAway_58 hC.1.house rfl rfl gs_H_takeAway_58 (Nat.le_of_ble_eq_true rfl) (Nat.le_of_ble_eq_true rfl) ?_
          refine h_tryW (b := b + 80) hC hD (by omega) (by omega) ((hG.1.end ho)) ((hTL.of hfr.1 hfr.2.1).end) (fun g2 M4 n2 nc2 ns2 hC => ?_)
          refine gz_return gd_H_takeAway_61 rfl ?_
          rw [show y_awc T o = y_try (y_end (y_un T u o 40) o) u by unfold y_awc; rw [hu]] at k
          exact k _ _ _ _ _ (hC.le (by omega))
        ·
          replace h24 := mt (nI_leI (a := 40) (b := i) (by omega) (by omega)).2 h24
          omega
      | succ j ih =>
        intro i hi g M n nc ns hC
        have hG := un_J hI (a := u) (o := o) hu2 hP i (by omega)
        have hfr := un_fr (T := T) (a := u) (o := o) i
        refine gz_iload_n gd_H_takeAway_21 rfl rfl ?_
        refine gz_bipush (v := 40) gd_H_takeAway_22 (by decide) ?_
        refine gz_icmp_ge (tgt := 52) gd_H_takeAway_24 (by decide) (fun h24 => ?_) (fun h24 => ?_)
        ·
          replace h24 := (nI_leI (a := 40) (b := i) (by omega) (by omega)).1 h24
          omega
        ·
          replace h24 := mt (nI_leI (a := 40) (b := i) (by omega) (by omega)).2 h24
          refine gz_aload_n gd_H_takeAway_27 rfl rfl (gz_isr.r _) ?_
          refine gq_getf (y := .ref (13 + 6 * u)) gd_H_takeAway_28 gf_H_179 (hC.1.off u (by omega)) rfl rfl ?_
          refine gz_iload_n gd_H_takeAway_31 rfl rfl ?_
          refine rc_src (o := u) (p := i) gd_H_takeAway_32 hC (by omega) (by omega) ?_
          refine gz_aload_n gd_H_takeAway_33 rfl rfl (gz_isr.r _) ?_
          refine gq_getf (y := .int (nI o)) gd_H_takeAway_34 gf_H_318 (hC.1.off o (by omega)) rfl rfl ?_
          refine gz_icmp_ne (tgt := 46) gd_H_takeAway_37 (by decide) (fun h37 => ?_) (fun h37 => ?_)
          ·
            replace h37 := mt (oI_eq (o := o) (fun j hj => hG.1.1.src u i j hu2 (by omega) hj) (by omega)).2 h37
            refine gz_iinc (v := nI (i + 1)) gd_H_takeAway_46 rfl (nI_1 i) (Nat.le_of_ble_eq_true rfl) rfl ?_
            refine gz_goto (tgt := 21) gd_H_takeAway_49 (by decide) ?_
            have e : y_un T u o (i + 1) = (y_un T u o i) := if_neg h37
            rw [← e] at hC
            exact ih (i + 1) (by omega) _ _ _ _ _ (hC.le (by omega))
          ·
            replace h37 := (oI_eq (o := o) (fun j hj => hG.1.1.src u i j hu2 (by omega) hj) (by omega)).1 h37
            refine gz_aload_n gd_H_takeAway_40 rfl rfl (gz_isr.r _) ?_
            refine gz_aload_n gd_H_takeAway_41 rfl rfl (gz_isr.r _) ?_
            refine gz_iload_n gd_H_takeAway_42 rfl rfl ?_
            refine gz_virtual2 gd_H_takeAway_43 hC.1.house rfl rfl gs_H_takeAway_43 (Nat.le_of_ble_eq_true rfl) (Nat.le_of_ble_eq_true rfl) ?_
            refine h_exclude (T := y_un T u o i) hC hD (by omega) (by omega) (by omega) (fun j hj => hG.1.1.par u j hu2 hj) (JI.lroom (by omega) hu2) (fun g1 M3 n1 nc1 ns1 hC => ?_)
            refine gz_iinc (v := nI (i + 1)) gd_H_takeAway_46 rfl (nI_1 i) (Nat.le_of_ble_eq_true rfl) rfl ?_
            refine gz_goto (tgt := 21) gd_H_takeAway_49 (by decide) ?_
            have e : y_un T u o (i + 1) = y_set (y_un T u o i) u i 0 none := if_pos h37
            rw [← e] at hC
            exact ih (i + 1) (by omega) _ _ _ _ _ hC
    exact loop 40 0 (by omega) g M n nc ns hC
  ·
    replace h5 := (oI_n1 (fun j hj => hI.1.par o j ho hj)).1 h5
    refine gz_return gd_H_takeAway_8 rfl ?_
    rw [show y_awc T o = T by unfold y_awc; rw [h5]] at k
    exact k _ _ _ _ _ (hC.le (by omega))

theorem h_giveUp {l : Launch} {D : gzD} {K : gzK} {M : gzM} {n nc ns : Nat} {M0 : gzM} {b : Nat} {v : gV} {g : gG} {T : CT} (hC : RC M0 (b + 2) v g T M n nc ns)(hD : RM D) (hb : b + 20 ≤ 300000) {o p : Nat} (ho : o < 12) (hp : p < 40) (hI : JI T) (hTL : TL T) (hP : pot T < 9000) (k : ∀ g M n nc ns, RC M0 (b + 4) v g (y_try (y_unset (T.p_ow o p false) o p o) o) M n nc ns → K (.inl none) M n nc ns) : GZ l P1 D F_H_giveUpOwn K 0 [some (.ref 3), some (.ref (11 + 6 * o)), some (.int (nI p))] [] M n nc ns := by
  have hJ0 := hI.p_ow0 ho hp
  refine gz_aload_n gd_H_giveUpOwn_0 rfl rfl (gz_isr.r _) ?_
  refine gq_getf (y := .ref (14 + 6 * o)) gd_H_giveUpOwn_1 gf_H_322 (hC.1.off o (by omega)) rfl rfl ?_
  refine gz_iload_n gd_H_giveUpOwn_4 rfl rfl ?_
  refine gz_iconst (v := 0) gd_H_giveUpOwn_5 (by decide) ?_
  refine rs_ow0 (o := o) (p := p) gd_H_giveUpOwn_6 hC (by omega) (by omega) (fun M hC => ?_)
  refine gz_aload_n gd_H_giveUpOwn_7 rfl rfl (gz_isr.r _) ?_
  refine gq_getf (y := .ref (13 + 6 * o)) gd_H_giveUpOwn_8 gf_H_179 (hC.1.off o (by omega)) rfl rfl ?_
  refine gz_iload_n gd_H_giveUpOwn_11 rfl rfl ?_
  refine rc_src (o := o) (p := p) gd_H_giveUpOwn_12 hC (by omega) (by omega) ?_
  refine gz_aload_n gd_H_giveUpOwn_13 rfl rfl (gz_isr.r _) ?_
  refine gq_getf (y := .int (nI o)) gd_H_giveUpOwn_14 gf_H_318 (hC.1.off o (by omega)) rfl rfl ?_
  refine gz_icmp_ne (tgt := 26) gd_H_giveUpOwn_17 (by decide) (fun h17 => ?_) (fun h17 => ?_)
  ·
    replace h17 := mt (oI_eq (o := o) (fun j hj => hI.1.src o p j ho hp hj) (by omega)).2 h17
    have e : y_unset (T.p_ow o p false) o p o = T.p_ow o p false := if_neg h17
    rw [← e] at hC
    replace hC := hC.le (show _ ≤ b + 2 + 2 by omega)
    refine gz_aload_n gd_H_giveUpOwn_26 rfl rfl (gz_isr.r _) ?_
    refine gz_aload_n gd_H_giveUpOwn_27 rfl rfl (gz_isr.r _) ?_
    refine gz_virtual1 gd_H_giveUpOwn_28 hC.1.house rfl rfl gs_H_giveUpOwn_28 (Nat.le_of_ble_eq_true rfl) (Nat.le_of_ble_eq_true rfl) ?_
    refine h_tryW (b := b + 2) hC hD (by omega) (by omega) ((hJ0.1.unset ho hp (by omega))) ((hTL.of (y_unset_there.trans rfl) (y_unset_last.trans rfl))) (fun g2 M4 n2 nc2 ns2 hC => ?_)
    refine gz_return gd_H_giveUpOwn_31 rfl ?_
    exact k _ _ _ _ _ (hC.le (by omega))
  ·
    replace h17 := (oI_eq (o := o) (fun j hj => hI.1.src o p j ho hp hj) (by omega)).1 h17
    refine gz_aload_n gd_H_giveUpOwn_20 rfl rfl (gz_isr.r _) ?_
    refine gz_aload_n gd_H_giveUpOwn_21 rfl rfl (gz_isr.r _) ?_
    refine gz_iload_n gd_H_giveUpOwn_22 rfl rfl ?_
    refine gz_virtual2 gd_H_giveUpOwn_23 hC.1.house rfl rfl gs_H_giveUpOwn_23 (Nat.le_of_ble_eq_true rfl) (Nat.le_of_ble_eq_true rfl) ?_
    refine h_exclude (T := T.p_ow o p false) hC hD (by omega) (by omega) (by omega) (fun j hj => hI.1.par o j ho hj) (JI.lroom (T := T) hP ho) (fun g1 M3 n1 nc1 ns1 hC => ?_)
    have e : y_unset (T.p_ow o p false) o p o = y_set (T.p_ow o p false) o p 0 none := if_pos h17
    rw [← e] at hC
    replace hC := hC.le (show _ ≤ b + 2 + 2 by omega)
    refine gz_aload_n gd_H_giveUpOwn_26 rfl rfl (gz_isr.r _) ?_
    refine gz_aload_n gd_H_giveUpOwn_27 rfl rfl (gz_isr.r _) ?_
    refine gz_virtual1 gd_H_giveUpOwn_28 hC.1.house rfl rfl gs_H_giveUpOwn_28 (Nat.le_of_ble_eq_true rfl) (Nat.le_of_ble_eq_true rfl) ?_
    refine h_tryW (b := b + 2) hC hD (by omega) (by omega) ((hJ0.1.unset ho hp (by omega))) ((hTL.of (y_unset_there.trans rfl) (y_unset_last.trans rfl))) (fun g2 M4 n2 nc2 ns2 hC => ?_)
    refine gz_return gd_H_giveUpOwn_31 rfl ?_
    exact k _ _ _ _ _ (hC.le (by omega))

theorem h_takeIn {l : Launch} {D : gzD} {K : gzK} {M : gzM} {n nc ns : Nat} {M0 : gzM} {b : Nat} {v : gV} {g : gG} {T : CT} (hC : RC M0 b v g T M n nc ns)(hD : RM D) (hb : b + 10 ≤ 300000) {o c : Nat} (ho : o < 12) (hc : c < 12) {x p w : Nat} (hx : M x = some (.inr (1, [.int (nI p), vref v w]))) (hp : p < 40) (hw0 : ¬ w = 0) (hwv : w ≤ T.vs) (hB : Bd T) (hl : (T.line o).length < 9000) (hlw : (T.wt c).length < 2000) (k : ∀ g M n nc ns, RC M0 (b + 2) v g (y_take T o c p w) M n nc ns → K (.inl none) M n nc ns) : GZ l P1 D F_H_takeIn K 0 [some (.ref 3), some (.ref (11 + 6 * o)), some (.ref (11 + 6 * c)), some (.ref x)] [] M n nc ns := by
  refine gz_aload_n gd_H_takeIn_0 rfl rfl (gz_isr.r _) ?_
  refine gq_getf (y := .ref (16 + 6 * c)) gd_H_takeIn_1 gf_H_338 (hC.1.off c (by omega)) rfl rfl ?_
  obtain ⟨mcx, hLO⟩ := hC.1.loW c (by omega)
  refine gz_virtual0 gd_H_takeIn_4 hLO rfl rfl gs_H_takeIn_4 (Nat.le_of_ble_eq_true rfl) (Nat.le_of_ble_eq_true rfl) ?_
  refine rl_isEmptyW hC (by omega) ?_
  refine gz_if_eq (tgt := 45) gd_H_takeIn_7 (by decide) (fun h7 => ?_) (fun h7 => ?_)
  ·
    replace h7 := bI_0.1 h7
    refine gz_aload_n gd_H_takeIn_45 rfl rfl (gz_isr.r _) ?_
    refine gq_getf (y := .ref (16 + 6 * c)) gd_H_takeIn_46 gf_H_338 (hC.1.off c (by omega)) rfl rfl ?_
    refine gz_aload_n gd_H_takeIn_49 rfl rfl (gz_isr.r _) ?_
    obtain ⟨mcx, hLO⟩ := hC.1.loW c (by omega)
    refine gz_virtual1 gd_H_takeIn_50 hLO rfl rfl gs_H_takeIn_50 (Nat.le_of_ble_eq_true rfl) (Nat.le_of_ble_eq_true rfl) ?_
    refine rl_addW hC hD (by omega) hc hx hlw (fun g1 M3 n1 nc1 ns1 hC hK => ?_)
    refine gz_pop gd_H_takeIn_53 rfl ?_
    refine gz_return gd_H_takeIn_54 rfl ?_
    rw [show y_take T o c p w = T.w_wt (ct1 T.wt c (T.wt c ++ [(p, w)])) by unfold y_take; rw [if_neg hw0, if_neg (fun e => by rw [decide_eq_true e.1] at h7; cases h7)]] at k
    exact k _ _ _ _ _ hC
  ·
    replace h7 := bI_n.1 h7
    refine gz_aload_n gd_H_takeIn_10 rfl rfl (gz_isr.r _) ?_
    refine gz_aload_n gd_H_takeIn_11 rfl rfl (gz_isr.r _) ?_
    refine gq_getf (y := .int (nI p)) gd_H_takeIn_12 gf_H_213 hx rfl rfl ?_
    refine gz_aload_n gd_H_takeIn_15 rfl rfl (gz_isr.r _) ?_
    refine gq_getf (y := .int (nI c)) gd_H_takeIn_16 gf_H_318 (hC.1.off c (by omega)) rfl rfl ?_
    refine gz_virtual2 gd_H_takeIn_19 (hC.1.off o (by omega)) rfl rfl gs_H_takeIn_19 (Nat.le_of_ble_eq_true rfl) (Nat.le_of_ble_eq_true rfl) ?_
    refine h_admits hC (by omega) (by omega) (by omega) hB ?_
    refine gz_if_eq (tgt := 45) gd_H_takeIn_22 (by decide) (fun h22 => ?_) (fun h22 => ?_)
    ·
      replace h22 := bI_0.1 h22
      refine gz_aload_n gd_H_takeIn_45 rfl rfl (gz_isr.r _) ?_
      refine gq_getf (y := .ref (16 + 6 * c)) gd_H_takeIn_46 gf_H_338 (hC.1.off c (by omega)) rfl rfl ?_
      refine gz_aload_n gd_H_takeIn_49 rfl rfl (gz_isr.r _) ?_
      obtain ⟨mcx, hLO⟩ := hC.1.loW c (by omega)
      refine gz_virtual1 gd_H_takeIn_50 hLO rfl rfl gs_H_takeIn_50 (Nat.le_of_ble_eq_true rfl) (Nat.le_of_ble_eq_true rfl) ?_
      refine rl_addW hC hD (by omega) hc hx hlw (fun g1 M3 n1 nc1 ns1 hC hK => ?_)
      refine gz_pop gd_H_takeIn_53 rfl ?_
      refine gz_return gd_H_takeIn_54 rfl ?_
      rw [show y_take T o c p w = T.w_wt (ct1 T.wt c (T.wt c ++ [(p, w)])) by unfold y_take; rw [if_neg hw0, if_neg (fun e => by rw [e.2] at h22; cases h22)]] at k
      exact k _ _ _ _ _ hC
    ·
      replace h22 := bI_n.1 h22
      refine gz_aload_n gd_H_takeIn_25 rfl rfl (gz_isr.r _) ?_
      refine gz_aload_n gd_H_takeIn_26 rfl rfl (gz_isr.r _) ?_
      refine gz_aload_n gd_H_takeIn_27 rfl rfl (gz_isr.r _) ?_
      refine gq_getf (y := .int (nI p)) gd_H_takeIn_28 gf_H_213 hx rfl rfl ?_
      refine gz_aload_n gd_H_takeIn_31 rfl rfl (gz_isr.r _) ?_
      refine gq_getf (y := vref v w) gd_H_takeIn_32 gf_H_208 hx rfl rfl ?_
      refine gz_aload_n gd_H_takeIn_35 rfl rfl (gz_isr.r _) ?_
      refine gq_getf (y := .int (nI c)) gd_H_takeIn_36 gf_H_318 (hC.1.off c (by omega)) rfl rfl ?_
      refine gz_virtual4 gd_H_takeIn_39 hC.1.house rfl rfl gs_H_takeIn_39 (gz_slen5 rfl rfl rfl (vref_cat _ _) rfl (Nat.le_of_ble_eq_true rfl)) (Nat.le_of_ble_eq_true rfl) ?_
      rw [gz_ent5 rfl rfl rfl (vref_cat _ _) rfl]
      refine h_include hC hD (by omega) ho (by omega) hwv (fun j hj => hB.par o j ho hj) hl (fun g1 M3 n1 nc1 ns1 hC => ?_)
      refine gz_goto (tgt := 54) gd_H_takeIn_42 (by decide) ?_
      refine gz_return gd_H_takeIn_54 rfl ?_
      rw [show y_take T o c p w = y_set T o p w (some c) by unfold y_take; rw [if_neg hw0, if_pos ⟨of_decide_eq_true h7, h22⟩]] at k
      exact k _ _ _ _ _ hC

def dI : Nat → Int32
  | 0 => -1
  | i + 1 => nI i
theorem dI_s (i : Nat) : nI i - 1 = dI i := by
  cases i with
  | zero => rfl
  | succ i => exact nI_pred i
theorem dI_m (i : Nat) : nI i + Int32.ofInt (-1) = dI i := by
  cases i with
  | zero => rfl
  | succ i => exact pk_m1 i
def tbk (L : List (Nat × Nat)) (f : Nat × Nat → Bool) (i : Nat) : List (Nat × Nat) := L.take i ++ (L.drop i).filter f
theorem tbk_0 {L : List (Nat × Nat)} {f : Nat × Nat → Bool} : tbk L f 0 = L.filter f := by simp [tbk]
theorem tbk_all {L : List (Nat × Nat)} {f : Nat × Nat → Bool} : tbk L f L.length = L := by simp [tbk]
theorem tbk_get {L : List (Nat × Nat)} {f : Nat × Nat → Bool} {i : Nat} {x : Nat × Nat} (h : L[i]? = some x) : (tbk L f (i + 1))[i]? = some x := by
  have hi := (List.getElem?_eq_some_iff.mp h).1
  unfold tbk
  rw [List.getElem?_append_left (by rw [List.length_take]; omega), List.getElem?_take]
  rw [if_pos (Nat.lt_succ_self i), h]
theorem tbk_drop1 {L : List (Nat × Nat)} {i : Nat} {x : Nat × Nat} (h : L[i]? = some x) : L.drop i = x :: L.drop (i + 1) := by
  obtain ⟨hi, e⟩ := List.getElem?_eq_some_iff.mp h
  rw [List.drop_eq_getElem_cons hi, e]
theorem tbk_keep {L : List (Nat × Nat)} {f : Nat × Nat → Bool} {i : Nat} {x : Nat × Nat} (h : L[i]? = some x) (hf : f x = true) : tbk L f (i + 1) = tbk L f i := by
  unfold tbk
  rw [tbk_drop1 h, List.filter_cons_of_pos hf, List.take_succ, h]
  simp
theorem tbk_rem {L : List (Nat × Nat)} {f : Nat × Nat → Bool} {i : Nat} {x : Nat × Nat} (h : L[i]? = some x) (hf : ¬ f x = true) : (tbk L f (i + 1)).eraseIdx i = tbk L f i := by
  have hi := (List.getElem?_eq_some_iff.mp h).1
  unfold tbk
  rw [tbk_drop1 h, List.filter_cons_of_neg hf, List.eraseIdx_append_of_lt_length (by rw [List.length_take]; omega)]
  congr 1
  rw [List.take_succ, h, List.eraseIdx_append_of_length_le (by rw [List.length_take]; omega)]
  simp [List.length_take, Nat.min_eq_left (Nat.le_of_lt hi)]
theorem tbk_len {L : List (Nat × Nat)} {f : Nat × Nat → Bool} {i : Nat} (h : i ≤ L.length) : i ≤ (tbk L f i).length := by
  unfold tbk
  rw [List.length_append, List.length_take]
  omega
theorem RC.wt_same {M0 : gzM} {b : Nat} {v : gV} {g : gG} {T : CT} {M : gzM} {n nc ns : Nat} (h : RC M0 b v g T M n nc ns) {c : Nat} : RC M0 b v g (T.w_wt (ct1 T.wt c (T.wt c))) M n nc ns := by
  have e : (T.w_wt (ct1 T.wt c (T.wt c))).wt = T.wt := by
    show ct1 T.wt c (T.wt c) = T.wt
    funext x
    unfold ct1
    by_cases z : x = c
    · rw [if_pos z, z]
    · rw [if_neg z]
  exact ⟨h.1.ofT rfl rfl rfl rfl rfl rfl rfl rfl rfl rfl rfl rfl rfl rfl e, h.2.1.ofT rfl rfl rfl rfl rfl rfl rfl rfl rfl rfl e, h.2.2.ofT rfl e⟩
theorem ct1_2 {α : Type} {f : Nat → α} {o : Nat} {x y : α} : ct1 (ct1 f o x) o y = ct1 f o y := by
  funext a
  unfold ct1
  by_cases h : a = o
  · rw [if_pos h, if_pos h]
  · rw [if_neg h, if_neg h, if_neg h]
theorem h_takeBack {l : Launch} {D : gzD} {K : gzK} {M : gzM} {n nc ns : Nat} {M0 : gzM} {b : Nat} {v : gV} {g : gG} {T : CT} (hC : RC M0 (b + 2) v g T M n nc ns)(hD : RM D) (hb : b + 20 ≤ 300000) {o c p : Nat} (ho : o < 12) (hc : c < 12) (hp : p < 40) (hI : JI T) (hTL : TL T) (hP : pot T < 9000) (k : ∀ g M n nc ns, RC M0 (b + 4) v g (y_take T o c p 0) M n nc ns → K (.inl none) M n nc ns) : GZ l P1 D F_H_takeBack K 0 [some (.ref 3), some (.ref (11 + 6 * o)), some (.ref (11 + 6 * c)), some (.int (nI p)), none] [] M n nc ns := by
  have hB := hI.1
  have hwn := hB.wtN c hc
  refine gz_aload_n gd_H_takeBack_0 rfl rfl (gz_isr.r _) ?_
  refine gq_getf (y := .ref (16 + 6 * c)) gd_H_takeBack_1 gf_H_338 (hC.1.off c (by omega)) rfl rfl ?_
  obtain ⟨mcx, hLO⟩ := hC.1.loW c (by omega)
  refine gz_virtual0 gd_H_takeBack_4 hLO rfl rfl gs_H_takeBack_4 (Nat.le_of_ble_eq_true rfl) (Nat.le_of_ble_eq_true rfl) ?_
  refine rl_sizeW hC (by omega) ?_
  refine gz_iconst (v := 1) gd_H_takeBack_7 (by decide) ?_
  refine gq_isub (z := dI (T.wt c).length) gd_H_takeBack_8 (dI_s _) ?_
  refine gz_istore gd_H_takeBack_9 (Nat.le_of_ble_eq_true rfl) rfl ?_
  have loop : ∀ (i : Nat), i ≤ (T.wt c).length → ∀ g M n nc ns, RC M0 (b + 2) v g (T.w_wt (ct1 T.wt c (tbk (T.wt c) (fun x => x.1 != p) i))) M n nc ns → GZ l P1 D F_H_takeBack K 11 [some (.ref 3), some (.ref (11 + 6 * o)), some (.ref (11 + 6 * c)), some (.int (nI p)), some (.int (dI i))] [] M n nc ns := by
    intro i
    induction i with
    | zero =>
      intro hi g M n nc ns hC
      refine gz_iload gd_H_takeBack_11 rfl ?_
      refine gz_if_lt (tgt := 51) gd_H_takeBack_13 (by decide) (fun h13 => ?_) (fun h13 => ?_)
      ·
        rw [tbk_0] at hC
        obtain ⟨hJ1, hJ2⟩ := hI.filt (p := p) hc
        refine gz_aload_n gd_H_takeBack_51 rfl rfl (gz_isr.r _) ?_
        refine gq_getf (y := .ref (13 + 6 * o)) gd_H_takeBack_52 gf_H_179 (hC.1.off o (by omega)) rfl rfl ?_
        refine gz_iload_n gd_H_takeBack_55 rfl rfl ?_
        refine rc_src (o := o) (p := p) gd_H_takeBack_56 hC (by omega) (by omega) ?_
        refine gz_aload_n gd_H_takeBack_57 rfl rfl (gz_isr.r _) ?_
        refine gq_getf (y := .int (nI c)) gd_H_takeBack_58 gf_H_318 (hC.1.off c (by omega)) rfl rfl ?_
        refine gz_icmp_ne (tgt := 70) gd_H_takeBack_61 (by decide) (fun h61 => ?_) (fun h61 => ?_)
        ·
          replace h61 := mt (oI_eq (o := c) (fun j hj => hI.1.src o p j ho hp hj) (by omega)).2 h61
          have e : y_unset (T.w_wt (ct1 T.wt c ((T.wt c).filter (fun x => x.1 != p)))) o p c = T.w_wt (ct1 T.wt c ((T.wt c).filter (fun x => x.1 != p))) := if_neg h61
          rw [← e] at hC
          replace hC := hC.le (show _ ≤ b + 2 + 2 by omega)
          refine gz_aload_n gd_H_takeBack_70 rfl rfl (gz_isr.r _) ?_
          refine gz_aload_n gd_H_takeBack_71 rfl rfl (gz_isr.r _) ?_
          refine gz_virtual1 gd_H_takeBack_72 hC.1.house rfl rfl gs_H_takeBack_72 (Nat.le_of_ble_eq_true rfl) (Nat.le_of_ble_eq_true rfl) ?_
          refine h_tryW (b := b + 2) hC hD (by omega) (by omega) ((hJ1.unset ho hp (by omega))) ((hTL.of (y_unset_there.trans rfl) (y_unset_last.trans rfl))) (fun g2 M4 n2 nc2 ns2 hC => ?_)
          refine gz_return gd_H_takeBack_75 rfl ?_
          rw [show y_take T o c p 0 = y_try (y_unset (T.w_wt (ct1 T.wt c ((T.wt c).filter (fun x => x.1 != p)))) o p c) o from if_pos rfl] at k
          exact k _ _ _ _ _ (hC.le (by omega))
        ·
          replace h61 := (oI_eq (o := c) (fun j hj => hI.1.src o p j ho hp hj) (by omega)).1 h61
          refine gz_aload_n gd_H_takeBack_64 rfl rfl (gz_isr.r _) ?_
          refine gz_aload_n gd_H_takeBack_65 rfl rfl (gz_isr.r _) ?_
          refine gz_iload_n gd_H_takeBack_66 rfl rfl ?_
          refine gz_virtual2 gd_H_takeBack_67 hC.1.house rfl rfl gs_H_takeBack_67 (Nat.le_of_ble_eq_true rfl) (Nat.le_of_ble_eq_true rfl) ?_
          refine h_exclude (T := T.w_wt (ct1 T.wt c ((T.wt c).filter (fun x => x.1 != p)))) hC hD (by omega) (by omega) (by omega) (fun j hj => hI.1.par o j ho hj) (JI.lroom (T := T.w_wt (ct1 T.wt c ((T.wt c).filter (fun x => x.1 != p)))) (by omega) ho) (fun g1 M3 n1 nc1 ns1 hC => ?_)
          have e : y_unset (T.w_wt (ct1 T.wt c ((T.wt c).filter (fun x => x.1 != p)))) o p c = y_set (T.w_wt (ct1 T.wt c ((T.wt c).filter (fun x => x.1 != p)))) o p 0 none := if_pos h61
          rw [← e] at hC
          replace hC := hC.le (show _ ≤ b + 2 + 2 by omega)
          refine gz_aload_n gd_H_takeBack_70 rfl rfl (gz_isr.r _) ?_
          refine gz_aload_n gd_H_takeBack_71 rfl rfl (gz_isr.r _) ?_
          refine gz_virtual1 gd_H_takeBack_72 hC.1.house rfl rfl gs_H_takeBack_72 (Nat.le_of_ble_eq_true rfl) (Nat.le_of_ble_eq_true rfl) ?_
          refine h_tryW (b := b + 2) hC hD (by omega) (by omega) ((hJ1.unset ho hp (by omega))) ((hTL.of (y_unset_there.trans rfl) (y_unset_last.trans rfl))) (fun g2 M4 n2 nc2 ns2 hC => ?_)
          refine gz_return gd_H_takeBack_75 rfl ?_
          rw [show y_take T o c p 0 = y_try (y_unset (T.w_wt (ct1 T.wt c ((T.wt c).filter (fun x => x.1 != p)))) o p c) o from if_pos rfl] at k
          exact k _ _ _ _ _ (hC.le (by omega))
      ·
        exact absurd h13 (by decide)
    | succ i ih =>
      intro hi g M n nc ns hC
      obtain ⟨y, hy⟩ : ∃ y, (T.wt c)[i]? = some y := ⟨_, List.getElem?_eq_getElem (by omega)⟩
      have hyb := hB.wt c y hc (List.mem_of_getElem? hy)
      have hcur : (T.w_wt (ct1 T.wt c (tbk (T.wt c) (fun x => x.1 != p) (i + 1)))).wt c = tbk (T.wt c) (fun x => x.1 != p) (i + 1) := if_pos rfl
      refine gz_iload gd_H_takeBack_11 rfl ?_
      refine gz_if_lt (tgt := 51) gd_H_takeBack_13 (by decide) (fun h13 => ?_) (fun h13 => ?_)
      ·
        exact absurd h13 (nI_pos (by omega))
      ·
        refine gz_aload_n gd_H_takeBack_16 rfl rfl (gz_isr.r _) ?_
        refine gq_getf (y := .ref (16 + 6 * c)) gd_H_takeBack_17 gf_H_338 (hC.1.off c (by omega)) rfl rfl ?_
        refine gz_iload gd_H_takeBack_20 rfl ?_
        obtain ⟨mcx, hLO⟩ := hC.1.loW c (by omega)
        refine gz_virtual1 gd_H_takeBack_22 hLO rfl rfl gs_H_takeBack_22 (Nat.le_of_ble_eq_true rfl) (Nat.le_of_ble_eq_true rfl) ?_
        refine rl_getW (i := i) (y := y) hC hc (by rw [hcur]; exact tbk_get hy) (fun kk hkk => ?_)
        refine gz_cast gd_H_takeBack_25 (ci := 1) rfl gw_426 hkk ?_
        refine gq_getf (y := .int (nI y.1)) gd_H_takeBack_28 gf_H_213 hkk rfl rfl ?_
        refine gz_iload_n gd_H_takeBack_31 rfl rfl ?_
        refine gz_icmp_ne (tgt := 45) gd_H_takeBack_32 (by decide) (fun h32 => ?_) (fun h32 => ?_)
        ·
          replace h32 := mt (nI_eq (a := y.1) (b := p) (by omega) (by omega)).2 h32
          refine gz_iinc (v := dI i) gd_H_takeBack_45 rfl (dI_m i) (Nat.le_of_ble_eq_true rfl) rfl ?_
          refine gz_goto (tgt := 11) gd_H_takeBack_48 (by decide) ?_
          rw [tbk_keep hy (by simpa using h32)] at hC
          exact ih (by omega) _ _ _ _ _ hC
        ·
          replace h32 := (nI_eq (a := y.1) (b := p) (by omega) (by omega)).1 h32
          refine gz_aload_n gd_H_takeBack_35 rfl rfl (gz_isr.r _) ?_
          refine gq_getf (y := .ref (16 + 6 * c)) gd_H_takeBack_36 gf_H_338 (hC.1.off c (by omega)) rfl rfl ?_
          refine gz_iload gd_H_takeBack_39 rfl ?_
          obtain ⟨mcx, hLO⟩ := hC.1.loW c (by omega)
          refine gz_virtual1 gd_H_takeBack_41 hLO rfl rfl gs_H_takeBack_41 (Nat.le_of_ble_eq_true rfl) (Nat.le_of_ble_eq_true rfl) ?_
          refine rl_remW (i := i) hC hc (by rw [hcur]; have := tbk_len (f := (fun x => x.1 != p)) hi; omega) (fun g1 M1 n1 nc1 ns1 z hz hC hK => ?_)
          rw [hcur, tbk_rem hy (by simpa using h32)] at hC
          replace hC : RC M0 b v g1 (T.w_wt (ct1 T.wt c (tbk (T.wt c) (fun x => x.1 != p) i))) M1 n1 nc1 ns1 := by
            have e : (T.w_wt (ct1 T.wt c (tbk (T.wt c) (fun x => x.1 != p) (i + 1)))).w_wt (ct1 (T.w_wt (ct1 T.wt c (tbk (T.wt c) (fun x => x.1 != p) (i + 1)))).wt c (tbk (T.wt c) (fun x => x.1 != p) i)) = T.w_wt (ct1 T.wt c (tbk (T.wt c) (fun x => x.1 != p) i)) := by
              show T.w_wt (ct1 (ct1 T.wt c (tbk (T.wt c) (fun x => x.1 != p) (i + 1))) c (tbk (T.wt c) (fun x => x.1 != p) i)) = _
              rw [ct1_2]
            rw [e] at hC
            exact hC
          refine gz_pop gd_H_takeBack_44 (by rcases hz with e | ⟨r, e⟩ <;> rw [e] <;> rfl) ?_
          refine gz_iinc (v := dI i) gd_H_takeBack_45 rfl (dI_m i) (Nat.le_of_ble_eq_true rfl) rfl ?_
          refine gz_goto (tgt := 11) gd_H_takeBack_48 (by decide) ?_
          exact ih (by omega) _ _ _ _ _ (hC.le (by omega))
  exact loop _ (Nat.le_refl _) g M n nc ns (by rw [tbk_all]; exact hC.wt_same)

theorem RC.ow_sameF {M0 : gzM} {b : Nat} {v : gV} {g : gG} {T : CT} {M : gzM} {n nc ns : Nat} (h : RC M0 b v g T M n nc ns) {o p : Nat} (hw : T.ow o p = false) : RC M0 b v g (T.w_ow (ct2 T.ow o p false)) M n nc ns := by
  have e : (T.w_ow (ct2 T.ow o p false)).ow = T.ow := by
    show ct2 T.ow o p false = T.ow
    funext x y
    unfold ct2
    by_cases c : x = o ∧ y = p
    · rw [if_pos c, c.1, c.2, hw]
    · rw [if_neg c]
  exact ⟨h.1.ofT rfl rfl rfl rfl rfl rfl rfl rfl rfl rfl rfl e rfl rfl rfl, h.2.1.ofT rfl rfl rfl rfl rfl rfl rfl rfl rfl rfl rfl, h.2.2.ofT e rfl⟩
theorem h_offer {l : Launch} {D : gzD} {K : gzK} {M : gzM} {n nc ns : Nat} {M0 : gzM} {b : Nat} {v : gV} {g : gG} {T : CT} (hC : RC M0 b v g T M n nc ns)(hD : RM D) (hb : b + 10 ≤ 300000) {o p : Nat} (hp : p < 40) (ht : T.there p = true) (eo : T.home p = o) (hB : Bd T) (hl : (T.line o).length < 9000) (hinv : y_may T o p o = true → T.ow o p = false) (k : ∀ g M n nc ns, RC M0 (b + 2) v g (y_offer T p) M n nc ns → K (.inl none) M n nc ns) : GZ l P1 D F_H_offerOwn K 0 [some (.ref 3), some (.int (nI p)), some (.ref (v.pid p)), none] [] M n nc ns := by
  have ho : o < 12 := by rw [← eo]; exact hB.home p hp
  refine gz_aload_n gd_H_offerOwn_0 rfl rfl (gz_isr.r _) ?_
  refine gq_getf (y := .ref (5)) gd_H_offerOwn_1 gf_H_17 hC.1.house rfl rfl ?_
  refine gz_aload_n gd_H_offerOwn_4 rfl rfl (gz_isr.r _) ?_
  refine gq_getf (y := .int (nI o)) gd_H_offerOwn_5 gf_H_167 (hC.2.1.pobj p (by omega) ht) rfl (by show Value.int (nI (T.home p)) = Value.int (nI o); rw [eo]) ?_
  refine rc_offs (o := o) gd_H_offerOwn_8 hC (by omega) ?_
  refine gz_astore_n gd_H_offerOwn_9 rfl (Nat.le_of_ble_eq_true rfl) rfl (gz_isr.r _) ?_
  refine gz_aload_n gd_H_offerOwn_10 rfl rfl (gz_isr.r _) ?_
  refine gq_getf (y := .int (bI (T.up o))) gd_H_offerOwn_11 gf_H_119 (hC.1.off o (by omega)) rfl rfl ?_
  refine gz_if_ne (tgt := 18) gd_H_offerOwn_14 (by decide) (fun h14 => ?_) (fun h14 => ?_)
  ·
    replace h14 := bI_n.1 h14
    refine gz_aload_n gd_H_offerOwn_18 rfl rfl (gz_isr.r _) ?_
    refine gz_iload_n gd_H_offerOwn_19 rfl rfl ?_
    refine gz_aload_n gd_H_offerOwn_20 rfl rfl (gz_isr.r _) ?_
    refine gq_getf (y := .int (nI o)) gd_H_offerOwn_21 gf_H_318 (hC.1.off o (by omega)) rfl rfl ?_
    refine gz_virtual2 gd_H_offerOwn_24 (hC.1.off o (by omega)) rfl rfl gs_H_offerOwn_24 (Nat.le_of_ble_eq_true rfl) (Nat.le_of_ble_eq_true rfl) ?_
    refine h_admits hC (by omega) (by omega) (by omega) hB ?_
    refine gz_if_eq (tgt := 47) gd_H_offerOwn_27 (by decide) (fun h27 => ?_) (fun h27 => ?_)
    ·
      replace h27 := bI_0.1 h27
      refine gz_aload_n gd_H_offerOwn_47 rfl rfl (gz_isr.r _) ?_
      refine gq_getf (y := .ref (14 + 6 * o)) gd_H_offerOwn_48 gf_H_322 (hC.1.off o (by omega)) rfl rfl ?_
      refine gz_iload_n gd_H_offerOwn_51 rfl rfl ?_
      refine gz_iconst (v := 1) gd_H_offerOwn_52 (by decide) ?_
      refine rs_ow1 (o := o) (p := p) gd_H_offerOwn_53 hC (by omega) (by omega) (fun M hC => ?_)
      refine gz_return gd_H_offerOwn_54 rfl ?_
      rw [show y_offer T p = T.w_ow (ct2 T.ow o p true) by unfold y_offer; rw [eo, if_pos h14]; exact if_neg (by rw [h27]; exact Bool.false_ne_true)] at k
      exact k _ _ _ _ _ hC
    ·
      replace h27 := bI_n.1 h27
      refine gz_aload_n gd_H_offerOwn_30 rfl rfl (gz_isr.r _) ?_
      refine gz_aload_n gd_H_offerOwn_31 rfl rfl (gz_isr.r _) ?_
      refine gz_iload_n gd_H_offerOwn_32 rfl rfl ?_
      refine gz_aload_n gd_H_offerOwn_33 rfl rfl (gz_isr.r _) ?_
      refine gq_getf (y := vref v (T.last p)) gd_H_offerOwn_34 gf_H_103 (hC.2.1.pobj p (by omega) ht) rfl rfl ?_
      refine gz_aload_n gd_H_offerOwn_37 rfl rfl (gz_isr.r _) ?_
      refine gq_getf (y := .int (nI o)) gd_H_offerOwn_38 gf_H_318 (hC.1.off o (by omega)) rfl rfl ?_
      refine gz_virtual4 gd_H_offerOwn_41 hC.1.house rfl rfl gs_H_offerOwn_41 (gz_slen5 rfl rfl rfl (vref_cat _ _) rfl (Nat.le_of_ble_eq_true rfl)) (Nat.le_of_ble_eq_true rfl) ?_
      rw [gz_ent5 rfl rfl rfl (vref_cat _ _) rfl]
      replace hC := hC.ow_sameF (hinv h27)
      refine h_include (T := T.w_ow (ct2 T.ow o p false)) hC hD (by omega) ho (by omega) (hB.last p hp) (fun j hj => hB.par o j ho hj) hl (fun g1 M3 n1 nc1 ns1 hC => ?_)
      refine gz_goto (tgt := 54) gd_H_offerOwn_44 (by decide) ?_
      refine gz_return gd_H_offerOwn_54 rfl ?_
      rw [show y_offer T p = y_set (T.w_ow (ct2 T.ow o p false)) o p (T.last p) (some o) by unfold y_offer; rw [eo, if_pos h14]; exact if_pos h27] at k
      exact k _ _ _ _ _ hC
  ·
    replace h14 := bI_0.1 h14
    refine gz_return gd_H_offerOwn_17 rfl ?_
    rw [show y_offer T p = T by unfold y_offer; rw [eo, h14]; rfl] at k
    exact k _ _ _ _ _ (hC.le (by omega))

theorem h_forget {l : Launch} {D : gzD} {K : gzK} {M : gzM} {n nc ns : Nat} {M0 : gzM} {b : Nat} {v : gV} {g : gG} {T : CT} (hC : RC M0 b v g T M n nc ns) {o : Nat} (ho : o < 12) (k : ∀ M, RC M0 b v g (y_clr T o 40) M n nc ns → K (.inl none) M n nc ns) : GZ l P1 D F_O_forgetAll K 0 [some (.ref (11 + 6 * o)), none] [] M n nc ns := by
  refine gz_iconst (v := 0) gd_O_forgetAll_0 (by decide) ?_
  refine gz_istore_n gd_O_forgetAll_1 rfl (Nat.le_of_ble_eq_true rfl) rfl ?_
  have loop : ∀ (j i : Nat), i + j = 40 → ∀ M, RC M0 b v g (y_clr T o i) M n nc ns → GZ l P1 D F_O_forgetAll K 2 [some (.ref (11 + 6 * o)), some (.int (nI i))] [] M n nc ns := by
    intro j
    induction j with
    | zero =>
      intro i hi M hC
      refine gz_iload_n gd_O_forgetAll_2 rfl rfl ?_
      refine gz_bipush (v := 40) gd_O_forgetAll_3 (by decide) ?_
      refine gz_icmp_ge (tgt := 35) gd_O_forgetAll_5 (by decide) (fun h5 => ?_) (fun h5 => ?_)
      ·
        replace h5 := (nI_leI (a := 40) (b := i) (by omega) (by omega)).1 h5
        refine gz_return gd_O_forgetAll_35 rfl ?_
        obtain rfl : i = 40 := by omega
        exact k _ hC
      ·
        replace h5 := mt (nI_leI (a := 40) (b := i) (by omega) (by omega)).2 h5
        omega
    | succ j ih =>
      intro i hi M hC
      refine gz_iload_n gd_O_forgetAll_2 rfl rfl ?_
      refine gz_bipush (v := 40) gd_O_forgetAll_3 (by decide) ?_
      refine gz_icmp_ge (tgt := 35) gd_O_forgetAll_5 (by decide) (fun h5 => ?_) (fun h5 => ?_)
      ·
        replace h5 := (nI_leI (a := 40) (b := i) (by omega) (by omega)).1 h5
        omega
      ·
        replace h5 := mt (nI_leI (a := 40) (b := i) (by omega) (by omega)).2 h5
        refine gz_aload_n gd_O_forgetAll_8 rfl rfl (gz_isr.r _) ?_
        refine gq_getf (y := .ref (12 + 6 * o)) gd_O_forgetAll_9 gf_O_11 (hC.1.off o (by omega)) rfl rfl ?_
        refine gz_iload_n gd_O_forgetAll_12 rfl rfl ?_
        refine gz_null gd_O_forgetAll_13 ?_
        refine rs_shown (o := o) (p := i) (w := 0) gd_O_forgetAll_14 hC (by omega) (by omega) (Nat.zero_le _) (fun M hC => ?_)
        refine gz_aload_n gd_O_forgetAll_15 rfl rfl (gz_isr.r _) ?_
        refine gq_getf (y := .ref (13 + 6 * o)) gd_O_forgetAll_16 gf_O_17 (hC.1.off o (by omega)) rfl rfl ?_
        refine gz_iload_n gd_O_forgetAll_19 rfl rfl ?_
        refine gz_iconst (v := -1) gd_O_forgetAll_20 (by decide) ?_
        refine rs_src (o := o) (p := i) (x := none) gd_O_forgetAll_21 hC (by omega) (by omega) (fun M hC => ?_)
        refine gz_aload_n gd_O_forgetAll_22 rfl rfl (gz_isr.r _) ?_
        refine gq_getf (y := .ref (14 + 6 * o)) gd_O_forgetAll_23 gf_O_21 (hC.1.off o (by omega)) rfl rfl ?_
        refine gz_iload_n gd_O_forgetAll_26 rfl rfl ?_
        refine gz_iconst (v := 0) gd_O_forgetAll_27 (by decide) ?_
        refine rs_ow0 (o := o) (p := i) gd_O_forgetAll_28 hC (by omega) (by omega) (fun M hC => ?_)
        refine gz_iinc (v := nI (i + 1)) gd_O_forgetAll_29 rfl (nI_1 i) (Nat.le_of_ble_eq_true rfl) rfl ?_
        refine gz_goto (tgt := 2) gd_O_forgetAll_32 (by decide) ?_
        exact ih (i + 1) (by omega) _ hC
  exact loop 40 0 (by omega) M hC

def y_in (T : CT) (top : Nat) : Nat → Option Nat → Bool
  | 0, _ => false
  | _ + 1, none => false
  | k + 1, some a => if a = top then true else y_in T top k (T.par a)
theorem h_inTree {l : Launch} {D : gzD} {K : gzK} {M : gzM} {n nc ns : Nat} {M0 : gzM} {b : Nat} {v : gV} {g : gG} {T : CT} (hC : RC M0 b v g T M n nc ns) {top u : Nat} (ht : top < 12) (hu : u < 12) (hB : Bd T) (k : K (.inl (some (.int (bI (y_in T top 12 (some u)))))) M n nc ns) : GZ l P1 D F_H_isInTreeOf K 0 [some (.ref 3), some (.int (nI top)), some (.int (nI u)), none, none] [] M n nc ns := by
  refine gz_iload_n gd_H_isInTreeOf_0 rfl rfl ?_
  refine gz_istore_n gd_H_isInTreeOf_1 rfl (Nat.le_of_ble_eq_true rfl) rfl ?_
  refine gz_iconst (v := 0) gd_H_isInTreeOf_2 (by decide) ?_
  refine gz_istore gd_H_isInTreeOf_3 (Nat.le_of_ble_eq_true rfl) rfl ?_
  have loop : ∀ (j i : Nat), i + j = 12 → ∀ a, (∀ z, a = some z → z < 12) → K (.inl (some (.int (bI (y_in T top j a))))) M n nc ns → GZ l P1 D F_H_isInTreeOf K 5 [some (.ref 3), some (.int (nI top)), some (.int (nI u)), some (.int (oI a)), some (.int (nI i))] [] M n nc ns := by
    intro j
    induction j with
    | zero =>
      intro i hi a ha k
      refine gz_iload gd_H_isInTreeOf_5 rfl ?_
      refine gz_bipush (v := 12) gd_H_isInTreeOf_7 (by decide) ?_
      refine gz_icmp_ge (tgt := 40) gd_H_isInTreeOf_9 (by decide) (fun h9 => ?_) (fun h9 => ?_)
      ·
        replace h9 := (nI_leI (a := 12) (b := i) (by omega) (by omega)).1 h9
        refine gz_iconst (v := 0) gd_H_isInTreeOf_40 (by decide) ?_
        refine gz_ireturn gd_H_isInTreeOf_41 rfl rfl ?_
        exact k
      ·
        replace h9 := mt (nI_leI (a := 12) (b := i) (by omega) (by omega)).2 h9
        omega
    | succ j ih =>
      intro i hi a ha k
      refine gz_iload gd_H_isInTreeOf_5 rfl ?_
      refine gz_bipush (v := 12) gd_H_isInTreeOf_7 (by decide) ?_
      refine gz_icmp_ge (tgt := 40) gd_H_isInTreeOf_9 (by decide) (fun h9 => ?_) (fun h9 => ?_)
      ·
        replace h9 := (nI_leI (a := 12) (b := i) (by omega) (by omega)).1 h9
        omega
      ·
        replace h9 := mt (nI_leI (a := 12) (b := i) (by omega) (by omega)).2 h9
        refine gz_iload_n gd_H_isInTreeOf_12 rfl rfl ?_
        refine gz_iconst (v := -1) gd_H_isInTreeOf_13 (by decide) ?_
        refine gz_icmp_eq (tgt := 40) gd_H_isInTreeOf_14 (by decide) (fun h14 => ?_) (fun h14 => ?_)
        ·
          replace h14 := (oI_n1 ha).1 h14
          refine gz_iconst (v := 0) gd_H_isInTreeOf_40 (by decide) ?_
          refine gz_ireturn gd_H_isInTreeOf_41 rfl rfl ?_
          rw [show y_in T top (j + 1) a = false by rw [h14]; rfl] at k
          exact k
        ·
          replace h14 := mt (oI_n1 ha).2 h14
          refine gz_iload_n gd_H_isInTreeOf_17 rfl rfl ?_
          refine gz_iload_n gd_H_isInTreeOf_18 rfl rfl ?_
          refine gz_icmp_ne (tgt := 24) gd_H_isInTreeOf_19 (by decide) (fun h19 => ?_) (fun h19 => ?_)
          ·
            replace h19 := mt (oI_eq (o := top) ha (by omega)).2 h19
            obtain ⟨z, hz⟩ := Option.ne_none_iff_exists'.mp h14
            subst hz
            have hzz := ha z rfl
            refine gz_aload_n gd_H_isInTreeOf_24 rfl rfl (gz_isr.r _) ?_
            refine gq_getf (y := .ref (5)) gd_H_isInTreeOf_25 gf_H_17 hC.1.house rfl rfl ?_
            refine gz_iload_n gd_H_isInTreeOf_28 rfl rfl ?_
            refine rc_offs (o := z) gd_H_isInTreeOf_29 hC (by omega) ?_
            refine gq_getf (y := .int (oI (T.par z))) gd_H_isInTreeOf_30 gf_H_138 (hC.1.off z (by omega)) rfl rfl ?_
            refine gz_istore_n gd_H_isInTreeOf_33 rfl (Nat.le_of_ble_eq_true rfl) rfl ?_
            refine gz_iinc (v := nI (i + 1)) gd_H_isInTreeOf_34 rfl (nI_1 i) (Nat.le_of_ble_eq_true rfl) rfl ?_
            refine gz_goto (tgt := 5) gd_H_isInTreeOf_37 (by decide) ?_
            rw [show y_in T top (j + 1) (some z) = y_in T top j (T.par z) from if_neg (fun e => h19 (by rw [e]))] at k
            exact ih (i + 1) (by omega) _ (fun y hy => hB.par z y (ha z rfl) hy) k
          ·
            replace h19 := (oI_eq (o := top) ha (by omega)).1 h19
            refine gz_iconst (v := 1) gd_H_isInTreeOf_22 (by decide) ?_
            refine gz_ireturn gd_H_isInTreeOf_23 rfl rfl ?_
            rw [show y_in T top (j + 1) a = true by rw [h19]; exact if_pos rfl] at k
            exact k
  exact loop 12 0 (by omega) (some u) (fun z hz => by cases hz; exact hu) k

