/-! The class: its face, first part. Printed by wip/whole/h5.py -/
theorem RC.recode {M0 : gzM} {b : Nat} {v : gV} {g : gG} {T : CT} {M : gzM} {n nc ns : Nat} {x : Int32} (h : RC M0 b v g (T.w_code x) M n nc ns) (y : Int32) : RC M0 b v g (T.w_code y) M n nc ns := (h.uncode).code y
theorem h_letters {l : Launch} {D : gzD} {K : gzK} {M : gzM} {n nc ns : Nat} {M0 : gzM} {b : Nat} {v : gV} {g : gG} {T : CT} (hC : RC M0 b v g T M n nc ns)(hD : RM D) (hb : b + 1000 ≤ 300000) (hls : l.stackTraces = false)  (k : ∀ v g M n nc ns, RC M0 (b + 560) v g ((z_letters T).2) M n nc ns → ((z_letters T).2).code = 0 → K (.inl (some (.int (z_letters T).1))) M n nc ns)  : GZ l P1 D F_H_letters K 0 [some (.ref 3)] [] M n nc ns := by
  replace hC := hC.code 0
  refine gz_aload_n gd_H_letters_0 rfl rfl (gz_isr.r _) ?_
  refine gq_getf (y := .ref (6)) gd_H_letters_1 gf_H_24 hC.1.house rfl rfl ?_
  obtain ⟨mcx, hLO⟩ := hC.1.loP
  refine gz_virtual0 gd_H_letters_4 hLO rfl rfl gs_H_letters_4 (Nat.le_of_ble_eq_true rfl) (Nat.le_of_ble_eq_true rfl) ?_
  refine rl_sizeP hC ?_
  refine gz_ireturn gd_H_letters_7 rfl rfl ?_
  exact k _ _ _ _ _ _ (hC.le (by omega)) rfl

theorem h_votes {l : Launch} {D : gzD} {K : gzK} {M : gzM} {n nc ns : Nat} {M0 : gzM} {b : Nat} {v : gV} {g : gG} {T : CT} (hC : RC M0 b v g T M n nc ns)(hD : RM D) (hb : b + 1000 ≤ 300000) (hls : l.stackTraces = false) {xq y : Int32} (k : ∀ v g M n nc ns, RC M0 (b + 560) v g ((z_votes T xq y).2) M n nc ns → ((z_votes T xq y).2).code = 0 → K (.inl (some (.int (z_votes T xq y).1))) M n nc ns) (kx : ∀ e ci g M n nc ns, RC M0 (b + 560) v g ((z_votes T xq y).2) M n nc ns → M e = some (.inr (ci, [])) → (((z_votes T xq y).2).code, ci) ∈ ([(1, 8), (2, 9)] : List (Int32 × Nat)) → K (.inr e) M n nc ns) : GZ l P1 D F_H_votes K 0 [some (.ref 3), some (.int xq), some (.int y), none] [] M n nc ns := by
  replace hC := hC.code 0
  refine gz_iload_n gd_H_votes_0 rfl rfl ?_
  refine gz_static1 gd_H_votes_1 gs_H_votes_1 (Nat.le_of_ble_eq_true rfl) (Nat.le_of_ble_eq_true rfl) ?_
  refine h_reqOption hC hD (by omega) hls (fun q hq e0 => ?_) (fun eq ex M1 n1 nc1 ns1 hC hx => GT.out rfl ?_)
  ·
    subst e0
    have eq := inR_s hq (show 6 < 2 ^ 31 by decide)
    refine gz_iload_n gd_H_votes_4 rfl rfl ?_
    refine gz_static1 gd_H_votes_5 gs_H_votes_5 (Nat.le_of_ble_eq_true rfl) (Nat.le_of_ble_eq_true rfl) ?_
    refine h_reqCount hC hD (by omega) hls (fun v1 => ?_) (fun v1 ex M1 n1 nc1 ns1 hC hx => GT.out rfl ?_)
    ·
      refine gz_aload_n gd_H_votes_8 rfl rfl (gz_isr.r _) ?_
      refine gq_getf (y := .ref (7)) gd_H_votes_9 gf_H_28 hC.1.house rfl rfl ?_
      refine gz_iload_n gd_H_votes_12 rfl rfl ?_
      refine rc_draft (i := q) gd_H_votes_13 hC (by omega) ?_
      refine gz_istore_n gd_H_votes_14 rfl (Nat.le_of_ble_eq_true rfl) rfl ?_
      refine gz_aload_n gd_H_votes_15 rfl rfl (gz_isr.r _) ?_
      refine gq_getf (y := .ref (7)) gd_H_votes_16 gf_H_28 hC.1.house rfl rfl ?_
      refine gz_iload_n gd_H_votes_19 rfl rfl ?_
      refine gz_iload_n gd_H_votes_20 rfl rfl ?_
      refine rs_draft (i := q) gd_H_votes_21 hC (by omega) (fun M hC => ?_)
      refine gz_iload_n gd_H_votes_22 rfl rfl ?_
      refine gz_ireturn gd_H_votes_23 rfl rfl ?_
      simp only [z_votes, eq, if_neg v1] at k
      exact k _ _ _ _ _ _ (hC.le (by omega)) rfl
    ·
      simp only [z_votes, eq, if_pos v1] at kx
      exact kx _ _ _ _ _ _ _ ((hC.le (by omega)).recode 2) hx (by show ((2 : Int32), _) ∈ _; decide)
  ·
    simp only [z_votes, eq] at kx
    exact kx _ _ _ _ _ _ _ ((hC.le (by omega)).recode 1) hx (by show ((1 : Int32), _) ∈ _; decide)

theorem h_drop {l : Launch} {D : gzD} {K : gzK} {M : gzM} {n nc ns : Nat} {M0 : gzM} {b : Nat} {v : gV} {g : gG} {T : CT} (hC : RC M0 b v g T M n nc ns)(hD : RM D) (hb : b + 1000 ≤ 300000) (hls : l.stackTraces = false) {xi : Int32} (k : ∀ v g M n nc ns, RC M0 (b + 560) v g ((z_drop T xi).2) M n nc ns → ((z_drop T xi).2).code = 0 → K (.inl (some (.int (z_drop T xi).1))) M n nc ns) (kx : ∀ e ci g M n nc ns, RC M0 (b + 560) v g ((z_drop T xi).2) M n nc ns → M e = some (.inr (ci, [])) → (((z_drop T xi).2).code, ci) ∈ ([(1, 8)] : List (Int32 × Nat)) → K (.inr e) M n nc ns) : GZ l P1 D F_H_drop K 0 [some (.ref 3), some (.int xi)] [] M n nc ns := by
  replace hC := hC.code 0
  refine gz_aload_n gd_H_drop_0 rfl rfl (gz_isr.r _) ?_
  refine gz_iload_n gd_H_drop_1 rfl rfl ?_
  refine gz_virtual1 gd_H_drop_2 hC.1.house rfl rfl gs_H_drop_2 (Nat.le_of_ble_eq_true rfl) (Nat.le_of_ble_eq_true rfl) ?_
  refine h_reqLetter hC hD (by omega) hls (fun i hi e0 => ?_) (fun ei ex M1 n1 nc1 ns1 hC hx => GT.out rfl ?_)
  ·
    subst e0
    have hcpl : T.post.length ≤ g.cap 0 ∧ g.cap 0 ≤ 760 := hC.2.1.capP
    replace hi : i < T.post.length := hi
    have ei := inR_s hi (show T.post.length < 2 ^ 31 by omega)
    refine gz_aload_n gd_H_drop_5 rfl rfl (gz_isr.r _) ?_
    refine gq_getf (y := .ref (6)) gd_H_drop_6 gf_H_24 hC.1.house rfl rfl ?_
    refine gz_iload_n gd_H_drop_9 rfl rfl ?_
    obtain ⟨mcx, hLO⟩ := hC.1.loP
    refine gz_virtual1 gd_H_drop_10 hLO rfl rfl gs_H_drop_10 (Nat.le_of_ble_eq_true rfl) (Nat.le_of_ble_eq_true rfl) ?_
    refine rl_remP (i := i) hC (by exact hi) (fun g1 M1 n1 nc1 ns1 z hz hC hK => ?_)
    refine gz_pop gd_H_drop_13 (by rcases hz with e | ⟨r, e⟩ <;> rw [e] <;> rfl) ?_
    refine gz_aload_n gd_H_drop_14 rfl rfl (gz_isr.r _) ?_
    refine gq_getf (y := .ref (6)) gd_H_drop_15 gf_H_24 hC.1.house rfl rfl ?_
    obtain ⟨mcx, hLO⟩ := hC.1.loP
    refine gz_virtual0 gd_H_drop_18 hLO rfl rfl gs_H_drop_18 (Nat.le_of_ble_eq_true rfl) (Nat.le_of_ble_eq_true rfl) ?_
    replace hC : RC M0 b v g1 (y_drop (T.w_code 0) i) M1 n1 nc1 ns1 := hC
    refine rl_sizeP hC ?_
    rw [show (y_drop (T.w_code 0) i).post.length = T.post.length - 1 from List.length_eraseIdx_of_lt hi]
    refine gz_ireturn gd_H_drop_21 rfl rfl ?_
    simp only [z_drop, ei] at k
    exact k _ _ _ _ _ _ (hC.le (by omega)) rfl
  ·
    replace ei : inR xi T.post.length = none := ei
    simp only [z_drop, ei] at kx
    exact kx _ _ _ _ _ _ _ ((hC.le (by omega)).recode 1) hx (by show ((1 : Int32), _) ∈ _; decide)

theorem h_included {l : Launch} {D : gzD} {K : gzK} {M : gzM} {n nc ns : Nat} {M0 : gzM} {b : Nat} {v : gV} {g : gG} {T : CT} (hC : RC M0 b v g T M n nc ns)(hD : RM D) (hb : b + 1000 ≤ 300000) (hls : l.stackTraces = false) {xo xp : Int32} (hB : Bd T) (h0 : T.num 0 = 0) (k : ∀ v g M n nc ns, RC M0 (b + 560) v g ((z_included T xo xp).2) M n nc ns → ((z_included T xo xp).2).code = 0 → K (.inl (some (.int (z_included T xo xp).1))) M n nc ns) (kx : ∀ e ci g M n nc ns, RC M0 (b + 560) v g ((z_included T xo xp).2) M n nc ns → M e = some (.inr (ci, [])) → (((z_included T xo xp).2).code, ci) ∈ ([(1, 8)] : List (Int32 × Nat)) → K (.inr e) M n nc ns) : GZ l P1 D F_H_included K 0 [some (.ref 3), some (.int xo), some (.int xp)] [] M n nc ns := by
  replace hC := hC.code 0
  refine gz_iload_n gd_H_included_0 rfl rfl ?_
  refine gz_static1 gd_H_included_1 gs_H_included_1 (Nat.le_of_ble_eq_true rfl) (Nat.le_of_ble_eq_true rfl) ?_
  refine h_reqOffice hC hD (by omega) hls (fun o ho e0 => ?_) (fun eo ex M1 n1 nc1 ns1 hC hx => GT.out rfl ?_)
  ·
    subst e0
    have eo := inR_s ho (show 12 < 2 ^ 31 by decide)
    refine gz_iload_n gd_H_included_4 rfl rfl ?_
    refine gz_static1 gd_H_included_5 gs_H_included_5 (Nat.le_of_ble_eq_true rfl) (Nat.le_of_ble_eq_true rfl) ?_
    refine h_reqPlace hC hD (by omega) hls (fun p hp e0 => ?_) (fun ep ex M1 n1 nc1 ns1 hC hx => GT.out rfl ?_)
    ·
      subst e0
      have ep := inR_s hp (show 40 < 2 ^ 31 by decide)
      refine gz_aload_n gd_H_included_8 rfl rfl (gz_isr.r _) ?_
      refine gq_getf (y := .ref (5)) gd_H_included_9 gf_H_17 hC.1.house rfl rfl ?_
      refine gz_iload_n gd_H_included_12 rfl rfl ?_
      refine rc_offs (o := o) gd_H_included_13 hC (by omega) ?_
      refine gq_getf (y := .ref (12 + 6 * o)) gd_H_included_14 gf_H_144 (hC.1.off o (by omega)) rfl rfl ?_
      refine gz_iload_n gd_H_included_17 rfl rfl ?_
      refine rc_shown (o := o) (p := p) gd_H_included_18 hC (by omega) (by omega) ?_
      refine gz_static1 gd_H_included_19 gs_H_included_19 (gz_slen1 (vref_cat _ _) (Nat.le_of_ble_eq_true rfl)) (Nat.le_of_ble_eq_true rfl) ?_
      rw [gz_ent1 (vref_cat _ _)]
      refine h_numberOf (T := T.w_code 0) hC (hB.shown o p ho hp) h0 ?_
      refine gz_ireturn gd_H_included_22 rfl rfl ?_
      simp only [z_included, eo, ep] at k
      exact k _ _ _ _ _ _ (hC.le (by omega)) rfl
    ·
      simp only [z_included, eo, ep] at kx
      exact kx _ _ _ _ _ _ _ ((hC.le (by omega)).recode 1) hx (by show ((1 : Int32), _) ∈ _; decide)
  ·
    simp only [z_included, eo] at kx
    exact kx _ _ _ _ _ _ _ ((hC.le (by omega)).recode 1) hx (by show ((1 : Int32), _) ∈ _; decide)

theorem h_through {l : Launch} {D : gzD} {K : gzK} {M : gzM} {n nc ns : Nat} {M0 : gzM} {b : Nat} {v : gV} {g : gG} {T : CT} (hC : RC M0 b v g T M n nc ns)(hD : RM D) (hb : b + 1000 ≤ 300000) (hls : l.stackTraces = false) {xo xp : Int32} (k : ∀ v g M n nc ns, RC M0 (b + 560) v g ((z_through T xo xp).2) M n nc ns → ((z_through T xo xp).2).code = 0 → K (.inl (some (.int (z_through T xo xp).1))) M n nc ns) (kx : ∀ e ci g M n nc ns, RC M0 (b + 560) v g ((z_through T xo xp).2) M n nc ns → M e = some (.inr (ci, [])) → (((z_through T xo xp).2).code, ci) ∈ ([(1, 8)] : List (Int32 × Nat)) → K (.inr e) M n nc ns) : GZ l P1 D F_H_through K 0 [some (.ref 3), some (.int xo), some (.int xp)] [] M n nc ns := by
  replace hC := hC.code 0
  refine gz_iload_n gd_H_through_0 rfl rfl ?_
  refine gz_static1 gd_H_through_1 gs_H_through_1 (Nat.le_of_ble_eq_true rfl) (Nat.le_of_ble_eq_true rfl) ?_
  refine h_reqOffice hC hD (by omega) hls (fun o ho e0 => ?_) (fun eo ex M1 n1 nc1 ns1 hC hx => GT.out rfl ?_)
  ·
    subst e0
    have eo := inR_s ho (show 12 < 2 ^ 31 by decide)
    refine gz_iload_n gd_H_through_4 rfl rfl ?_
    refine gz_static1 gd_H_through_5 gs_H_through_5 (Nat.le_of_ble_eq_true rfl) (Nat.le_of_ble_eq_true rfl) ?_
    refine h_reqPlace hC hD (by omega) hls (fun p hp e0 => ?_) (fun ep ex M1 n1 nc1 ns1 hC hx => GT.out rfl ?_)
    ·
      subst e0
      have ep := inR_s hp (show 40 < 2 ^ 31 by decide)
      refine gz_aload_n gd_H_through_8 rfl rfl (gz_isr.r _) ?_
      refine gq_getf (y := .ref (5)) gd_H_through_9 gf_H_17 hC.1.house rfl rfl ?_
      refine gz_iload_n gd_H_through_12 rfl rfl ?_
      refine rc_offs (o := o) gd_H_through_13 hC (by omega) ?_
      refine gq_getf (y := .ref (13 + 6 * o)) gd_H_through_14 gf_H_179 (hC.1.off o (by omega)) rfl rfl ?_
      refine gz_iload_n gd_H_through_17 rfl rfl ?_
      refine rc_src (o := o) (p := p) gd_H_through_18 hC (by omega) (by omega) ?_
      refine gz_ireturn gd_H_through_19 rfl rfl ?_
      simp only [z_through, eo, ep] at k
      exact k _ _ _ _ _ _ (hC.le (by omega)) rfl
    ·
      simp only [z_through, eo, ep] at kx
      exact kx _ _ _ _ _ _ _ ((hC.le (by omega)).recode 1) hx (by show ((1 : Int32), _) ∈ _; decide)
  ·
    simp only [z_through, eo] at kx
    exact kx _ _ _ _ _ _ _ ((hC.le (by omega)).recode 1) hx (by show ((1 : Int32), _) ∈ _; decide)

theorem h_newest {l : Launch} {D : gzD} {K : gzK} {M : gzM} {n nc ns : Nat} {M0 : gzM} {b : Nat} {v : gV} {g : gG} {T : CT} (hC : RC M0 b v g T M n nc ns)(hD : RM D) (hb : b + 1000 ≤ 300000) (hls : l.stackTraces = false) {xp : Int32} (hB : Bd T) (h0 : T.num 0 = 0) (k : ∀ v g M n nc ns, RC M0 (b + 560) v g ((z_newest T xp).2) M n nc ns → ((z_newest T xp).2).code = 0 → K (.inl (some (.int (z_newest T xp).1))) M n nc ns) (kx : ∀ e ci g M n nc ns, RC M0 (b + 560) v g ((z_newest T xp).2) M n nc ns → M e = some (.inr (ci, [])) → (((z_newest T xp).2).code, ci) ∈ ([(1, 8)] : List (Int32 × Nat)) → K (.inr e) M n nc ns) : GZ l P1 D F_H_newest K 0 [some (.ref 3), some (.int xp), none] [] M n nc ns := by
  replace hC := hC.code 0
  refine gz_iload_n gd_H_newest_0 rfl rfl ?_
  refine gz_static1 gd_H_newest_1 gs_H_newest_1 (Nat.le_of_ble_eq_true rfl) (Nat.le_of_ble_eq_true rfl) ?_
  refine h_reqPlace hC hD (by omega) hls (fun p hp e0 => ?_) (fun ep ex M1 n1 nc1 ns1 hC hx => GT.out rfl ?_)
  ·
    subst e0
    have ep := inR_s hp (show 40 < 2 ^ 31 by decide)
    refine gz_aload_n gd_H_newest_4 rfl rfl (gz_isr.r _) ?_
    refine gq_getf (y := .ref (4)) gd_H_newest_5 gf_H_11 hC.1.house rfl rfl ?_
    refine gz_iload_n gd_H_newest_8 rfl rfl ?_
    refine rc_precs (p := p) gd_H_newest_9 hC (by omega) ?_
    refine gz_astore_n gd_H_newest_10 rfl (Nat.le_of_ble_eq_true rfl) rfl (pref_isr _ _ _) ?_
    refine gz_aload_n gd_H_newest_11 rfl rfl (pref_isr _ _ _) ?_
    refine rc_nonnullP (tgt := 19) gd_H_newest_12 (by decide) (fun h12 => ?_) (fun h12 => ?_)
    ·
      try rw [pref_t h12]
      replace h12 : T.there p = true := h12
      refine gz_aload_n gd_H_newest_19 rfl rfl (gz_isr.r _) ?_
      refine gz_static1 gd_H_newest_20 gs_H_newest_20 (Nat.le_of_ble_eq_true rfl) (Nat.le_of_ble_eq_true rfl) ?_
      refine h_newestN (T := T.w_code 0) hC hp h12 (hB.last p hp) h0 ?_
      refine gz_ireturn gd_H_newest_23 rfl rfl ?_
      simp only [z_newest, ep, if_pos h12] at k
      exact k _ _ _ _ _ _ (hC.le (by omega)) rfl
    ·
      try rw [pref_f h12]
      replace h12 : T.there p = false := h12
      refine gz_iconst (v := -1) gd_H_newest_15 (by decide) ?_
      refine gz_goto (tgt := 23) gd_H_newest_16 (by decide) ?_
      refine gz_ireturn gd_H_newest_23 rfl rfl ?_
      simp only [z_newest, ep, if_neg (bf h12)] at k
      exact k _ _ _ _ _ _ (hC.le (by omega)) rfl
  ·
    simp only [z_newest, ep] at kx
    exact kx _ _ _ _ _ _ _ ((hC.le (by omega)).recode 1) hx (by show ((1 : Int32), _) ∈ _; decide)

