/-! The class: what is required; the face, first part. Printed by wip/whole/h4.py -/
theorem inR_lo {x : Int32} {n : Nat} (h : x < 0) : inR x n = none := by
  unfold inR
  refine if_neg (fun z => ?_)
  have := Int32.lt_iff_toInt_lt.1 h
  rw [show (0 : Int32).toInt = 0 from rfl] at this
  omega
theorem inR_hi {x y : Int32} {n : Nat} (hn : n < 2 ^ 31) (hy : y = nI n) (h : ¬ x < y) : inR x n = none := by
  unfold inR
  refine if_neg (fun z => h (Int32.lt_iff_toInt_lt.2 ?_))
  rw [hy, nI_toInt hn]
  exact z.2
theorem ix_of {x y : Int32} {n : Nat} (hn : n < 2 ^ 31) (hy : y = nI n) (h1 : ¬ x < 0) (h2 : x < y) : ∃ o, o < n ∧ x = nI o := by
  have h3 := Int32.lt_iff_toInt_lt.1 h2
  rw [hy, nI_toInt hn] at h3
  have h4 : 0 ≤ x.toInt := by
    have := mt Int32.lt_iff_toInt_lt.2 h1
    rw [show (0 : Int32).toInt = 0 from rfl] at this
    omega
  obtain ⟨e1, e2⟩ := left_nI h4
  exact ⟨y_left x, by unfold y_left; omega, e1⟩
theorem h_reqOffice {l : Launch} {D : gzD} {K : gzK} {M : gzM} {n nc ns : Nat} {M0 : gzM} {b : Nat} {v : gV} {g : gG} {T : CT} (hC : RC M0 b v g T M n nc ns)(hD : RM D) (hb : b + 10 ≤ 300000) (hls : l.stackTraces = false) {x : Int32} (k : ∀ o, o < 12 → x = nI o → K (.inl none) M n nc ns) (kx : inR x 12 = none → ∀ e M n nc ns, RC M0 (b + 1) v g T M n nc ns → M e = some (.inr (8, [])) → K (.inr e) M n nc ns) : GZ l P1 D F_H_requireOffice K 0 [some (.int x)] [] M n nc ns := by
  refine gz_iload_n gd_H_requireOffice_0 rfl rfl ?_
  refine gz_if_lt (tgt := 10) gd_H_requireOffice_1 (by decide) (fun h1 => ?_) (fun h1 => ?_)
  ·
    have hrx := hC.room hD (by omega)
    refine gz_throwW hls gt_H_requireOffice_10 gd_H_requireOffice_10 gd_H_requireOffice_13 gd_H_requireOffice_14 gd_H_requireOffice_17 gd_H_requireOffice_20 rfl (Nat.le_of_ble_eq_true rfl) (Nat.le_of_ble_eq_true rfl) (by omega) (by omega) ?_
    exact kx (inR_lo h1) _ _ _ _ _ (hC.alloc (fun j hj => gz_up_n hj) (by decide)).1 gz_up_s
  ·
    refine gz_iload_n gd_H_requireOffice_4 rfl rfl ?_
    refine gz_bipush (v := 12) gd_H_requireOffice_5 (by decide) ?_
    refine gz_icmp_lt (tgt := 21) gd_H_requireOffice_7 (by decide) (fun h7 => ?_) (fun h7 => ?_)
    ·
      refine gz_return gd_H_requireOffice_21 rfl ?_
      obtain ⟨o, ho, e⟩ := ix_of (n := 12) (by decide) rfl h1 h7
      exact k o ho e
    ·
      have hrx := hC.room hD (by omega)
      refine gz_throwW hls gt_H_requireOffice_10 gd_H_requireOffice_10 gd_H_requireOffice_13 gd_H_requireOffice_14 gd_H_requireOffice_17 gd_H_requireOffice_20 rfl (Nat.le_of_ble_eq_true rfl) (Nat.le_of_ble_eq_true rfl) (by omega) (by omega) ?_
      exact kx (inR_hi (by decide) rfl h7) _ _ _ _ _ (hC.alloc (fun j hj => gz_up_n hj) (by decide)).1 gz_up_s

theorem h_reqOption {l : Launch} {D : gzD} {K : gzK} {M : gzM} {n nc ns : Nat} {M0 : gzM} {b : Nat} {v : gV} {g : gG} {T : CT} (hC : RC M0 b v g T M n nc ns)(hD : RM D) (hb : b + 10 ≤ 300000) (hls : l.stackTraces = false) {x : Int32} (k : ∀ o, o < 6 → x = nI o → K (.inl none) M n nc ns) (kx : inR x 6 = none → ∀ e M n nc ns, RC M0 (b + 1) v g T M n nc ns → M e = some (.inr (8, [])) → K (.inr e) M n nc ns) : GZ l P1 D F_H_requireOption K 0 [some (.int x)] [] M n nc ns := by
  refine gz_iload_n gd_H_requireOption_0 rfl rfl ?_
  refine gz_if_lt (tgt := 10) gd_H_requireOption_1 (by decide) (fun h1 => ?_) (fun h1 => ?_)
  ·
    have hrx := hC.room hD (by omega)
    refine gz_throwW hls gt_H_requireOption_10 gd_H_requireOption_10 gd_H_requireOption_13 gd_H_requireOption_14 gd_H_requireOption_17 gd_H_requireOption_20 rfl (Nat.le_of_ble_eq_true rfl) (Nat.le_of_ble_eq_true rfl) (by omega) (by omega) ?_
    exact kx (inR_lo h1) _ _ _ _ _ (hC.alloc (fun j hj => gz_up_n hj) (by decide)).1 gz_up_s
  ·
    refine gz_iload_n gd_H_requireOption_4 rfl rfl ?_
    refine gz_bipush (v := 6) gd_H_requireOption_5 (by decide) ?_
    refine gz_icmp_lt (tgt := 21) gd_H_requireOption_7 (by decide) (fun h7 => ?_) (fun h7 => ?_)
    ·
      refine gz_return gd_H_requireOption_21 rfl ?_
      obtain ⟨o, ho, e⟩ := ix_of (n := 6) (by decide) rfl h1 h7
      exact k o ho e
    ·
      have hrx := hC.room hD (by omega)
      refine gz_throwW hls gt_H_requireOption_10 gd_H_requireOption_10 gd_H_requireOption_13 gd_H_requireOption_14 gd_H_requireOption_17 gd_H_requireOption_20 rfl (Nat.le_of_ble_eq_true rfl) (Nat.le_of_ble_eq_true rfl) (by omega) (by omega) ?_
      exact kx (inR_hi (by decide) rfl h7) _ _ _ _ _ (hC.alloc (fun j hj => gz_up_n hj) (by decide)).1 gz_up_s

theorem h_reqPlace {l : Launch} {D : gzD} {K : gzK} {M : gzM} {n nc ns : Nat} {M0 : gzM} {b : Nat} {v : gV} {g : gG} {T : CT} (hC : RC M0 b v g T M n nc ns)(hD : RM D) (hb : b + 10 ≤ 300000) (hls : l.stackTraces = false) {x : Int32} (k : ∀ o, o < 40 → x = nI o → K (.inl none) M n nc ns) (kx : inR x 40 = none → ∀ e M n nc ns, RC M0 (b + 1) v g T M n nc ns → M e = some (.inr (8, [])) → K (.inr e) M n nc ns) : GZ l P1 D F_H_requirePrecinctNumber K 0 [some (.int x)] [] M n nc ns := by
  refine gz_iload_n gd_H_requirePrecinctNumber_0 rfl rfl ?_
  refine gz_if_lt (tgt := 10) gd_H_requirePrecinctNumber_1 (by decide) (fun h1 => ?_) (fun h1 => ?_)
  ·
    have hrx := hC.room hD (by omega)
    refine gz_throwW hls gt_H_requirePrecinctNumber_10 gd_H_requirePrecinctNumber_10 gd_H_requirePrecinctNumber_13 gd_H_requirePrecinctNumber_14 gd_H_requirePrecinctNumber_17 gd_H_requirePrecinctNumber_20 rfl (Nat.le_of_ble_eq_true rfl) (Nat.le_of_ble_eq_true rfl) (by omega) (by omega) ?_
    exact kx (inR_lo h1) _ _ _ _ _ (hC.alloc (fun j hj => gz_up_n hj) (by decide)).1 gz_up_s
  ·
    refine gz_iload_n gd_H_requirePrecinctNumber_4 rfl rfl ?_
    refine gz_bipush (v := 40) gd_H_requirePrecinctNumber_5 (by decide) ?_
    refine gz_icmp_lt (tgt := 21) gd_H_requirePrecinctNumber_7 (by decide) (fun h7 => ?_) (fun h7 => ?_)
    ·
      refine gz_return gd_H_requirePrecinctNumber_21 rfl ?_
      obtain ⟨o, ho, e⟩ := ix_of (n := 40) (by decide) rfl h1 h7
      exact k o ho e
    ·
      have hrx := hC.room hD (by omega)
      refine gz_throwW hls gt_H_requirePrecinctNumber_10 gd_H_requirePrecinctNumber_10 gd_H_requirePrecinctNumber_13 gd_H_requirePrecinctNumber_14 gd_H_requirePrecinctNumber_17 gd_H_requirePrecinctNumber_20 rfl (Nat.le_of_ble_eq_true rfl) (Nat.le_of_ble_eq_true rfl) (by omega) (by omega) ?_
      exact kx (inR_hi (by decide) rfl h7) _ _ _ _ _ (hC.alloc (fun j hj => gz_up_n hj) (by decide)).1 gz_up_s

theorem h_reqCount {l : Launch} {D : gzD} {K : gzK} {M : gzM} {n nc ns : Nat} {M0 : gzM} {b : Nat} {v : gV} {g : gG} {T : CT} (hC : RC M0 b v g T M n nc ns)(hD : RM D) (hb : b + 10 ≤ 300000) (hls : l.stackTraces = false) {x : Int32} (k : ¬ (x < 0 ∨ 10000000 < x) → K (.inl none) M n nc ns) (kx : x < 0 ∨ 10000000 < x → ∀ e M n nc ns, RC M0 (b + 1) v g T M n nc ns → M e = some (.inr (9, [])) → K (.inr e) M n nc ns) : GZ l P1 D F_H_requireCount K 0 [some (.int x)] [] M n nc ns := by
  refine gz_iload_n gd_H_requireCount_0 rfl rfl ?_
  refine gz_if_lt (tgt := 11) gd_H_requireCount_1 (by decide) (fun h1 => ?_) (fun h1 => ?_)
  ·
    have hrx := hC.room hD (by omega)
    refine gz_throwW hls gt_H_requireCount_11 gd_H_requireCount_11 gd_H_requireCount_14 gd_H_requireCount_15 gd_H_requireCount_18 gd_H_requireCount_21 rfl (Nat.le_of_ble_eq_true rfl) (Nat.le_of_ble_eq_true rfl) (by omega) (by omega) ?_
    exact kx (Or.inl h1) _ _ _ _ _ (hC.alloc (fun j hj => gz_up_n hj) (by decide)).1 gz_up_s
  ·
    refine gz_iload_n gd_H_requireCount_4 rfl rfl ?_
    refine gz_ldcw (x := 10000000) gd_H_requireCount_5 gw_281 ?_
    refine gz_icmp_le (tgt := 22) gd_H_requireCount_8 (by decide) (fun h8 => ?_) (fun h8 => ?_)
    ·
      refine gz_return gd_H_requireCount_22 rfl ?_
      exact k (fun z => z.elim h1 (fun y => Int32.not_le.2 y h8))
    ·
      have hrx := hC.room hD (by omega)
      refine gz_throwW hls gt_H_requireCount_11 gd_H_requireCount_11 gd_H_requireCount_14 gd_H_requireCount_15 gd_H_requireCount_18 gd_H_requireCount_21 rfl (Nat.le_of_ble_eq_true rfl) (Nat.le_of_ble_eq_true rfl) (by omega) (by omega) ?_
      exact kx (Or.inr (Int32.not_le.1 h8)) _ _ _ _ _ (hC.alloc (fun j hj => gz_up_n hj) (by decide)).1 gz_up_s

theorem h_reqLetter {l : Launch} {D : gzD} {K : gzK} {M : gzM} {n nc ns : Nat} {M0 : gzM} {b : Nat} {v : gV} {g : gG} {T : CT} (hC : RC M0 b v g T M n nc ns)(hD : RM D) (hb : b + 10 ≤ 300000) (hls : l.stackTraces = false) {x : Int32} (k : ∀ o, o < T.post.length → x = nI o → K (.inl none) M n nc ns) (kx : inR x T.post.length = none → ∀ e M n nc ns, RC M0 (b + 1) v g T M n nc ns → M e = some (.inr (8, [])) → K (.inr e) M n nc ns) : GZ l P1 D F_H_requireLetter K 0 [some (.ref 3), some (.int x)] [] M n nc ns := by
  have hpl := hC.2.1.capP
  refine gz_iload_n gd_H_requireLetter_0 rfl rfl ?_
  refine gz_if_lt (tgt := 15) gd_H_requireLetter_1 (by decide) (fun h1 => ?_) (fun h1 => ?_)
  ·
    have hrx := hC.room hD (by omega)
    refine gz_throwW hls gt_H_requireLetter_15 gd_H_requireLetter_15 gd_H_requireLetter_18 gd_H_requireLetter_19 gd_H_requireLetter_22 gd_H_requireLetter_25 rfl (Nat.le_of_ble_eq_true rfl) (Nat.le_of_ble_eq_true rfl) (by omega) (by omega) ?_
    exact kx (inR_lo h1) _ _ _ _ _ (hC.alloc (fun j hj => gz_up_n hj) (by decide)).1 gz_up_s
  ·
    refine gz_iload_n gd_H_requireLetter_4 rfl rfl ?_
    refine gz_aload_n gd_H_requireLetter_5 rfl rfl (gz_isr.r _) ?_
    refine gq_getf (y := .ref (6)) gd_H_requireLetter_6 gf_H_24 hC.1.house rfl rfl ?_
    obtain ⟨mcx, hLO⟩ := hC.1.loP
    refine gz_virtual0 gd_H_requireLetter_9 hLO rfl rfl gs_H_requireLetter_9 (Nat.le_of_ble_eq_true rfl) (Nat.le_of_ble_eq_true rfl) ?_
    refine rl_sizeP hC ?_
    refine gz_icmp_lt (tgt := 26) gd_H_requireLetter_12 (by decide) (fun h12 => ?_) (fun h12 => ?_)
    ·
      refine gz_return gd_H_requireLetter_26 rfl ?_
      obtain ⟨o, ho, e⟩ := ix_of (n := T.post.length) (by omega) rfl h1 h12
      exact k o ho e
    ·
      have hrx := hC.room hD (by omega)
      refine gz_throwW hls gt_H_requireLetter_15 gd_H_requireLetter_15 gd_H_requireLetter_18 gd_H_requireLetter_19 gd_H_requireLetter_22 gd_H_requireLetter_25 rfl (Nat.le_of_ble_eq_true rfl) (Nat.le_of_ble_eq_true rfl) (by omega) (by omega) ?_
      exact kx (inR_hi (by omega) rfl h12) _ _ _ _ _ (hC.alloc (fun j hj => gz_up_n hj) (by decide)).1 gz_up_s

theorem h_numberOf {l : Launch} {D : gzD} {K : gzK} {M : gzM} {n nc ns : Nat} {M0 : gzM} {b : Nat} {v : gV} {g : gG} {T : CT} (hC : RC M0 b v g T M n nc ns) {w : Nat} (hw : w ≤ T.vs) (h0 : T.num 0 = 0) (k : K (.inl (some (.int (T.num w)))) M n nc ns) : GZ l P1 D F_H_numberOf K 0 [some (vref v w)] [] M n nc ns := by
  refine gz_aload_n gd_H_numberOf_0 rfl rfl (vref_isr _ _) ?_
  refine rc_nonnullV (tgt := 8) gd_H_numberOf_1 (by decide) (fun h1 => ?_) (fun h1 => ?_)
  ·
    try rw [vref_s h1]
    refine gz_aload_n gd_H_numberOf_8 rfl rfl (gz_isr.r _) ?_
    refine gq_getf (y := .int (T.num w)) gd_H_numberOf_9 gf_H_311 (hC.2.1.ver w (by omega) (by omega)).1 rfl rfl ?_
    refine gz_ireturn gd_H_numberOf_12 rfl rfl ?_
    exact k
  ·
    try rw [vref_0 h1]
    refine gz_iconst (v := 0) gd_H_numberOf_4 (by decide) ?_
    refine gz_goto (tgt := 12) gd_H_numberOf_5 (by decide) ?_
    refine gz_ireturn gd_H_numberOf_12 rfl rfl ?_
    rw [h1, h0] at k
    exact k

theorem h_newestN {l : Launch} {D : gzD} {K : gzK} {M : gzM} {n nc ns : Nat} {M0 : gzM} {b : Nat} {v : gV} {g : gG} {T : CT} (hC : RC M0 b v g T M n nc ns) {p : Nat} (hp : p < 40) (ht : T.there p = true) (hw : T.last p ≤ T.vs) (h0 : T.num 0 = 0) (k : K (.inl (some (.int (T.num (T.last p))))) M n nc ns) : GZ l P1 D F_H_newestNumber K 0 [some (.ref (v.pid p))] [] M n nc ns := by
  refine gz_aload_n gd_H_newestNumber_0 rfl rfl (gz_isr.r _) ?_
  refine gq_getf (y := vref v (T.last p)) gd_H_newestNumber_1 gf_H_103 (hC.2.1.pobj p (by omega) ht) rfl rfl ?_
  refine gz_static1 gd_H_newestNumber_4 gs_H_newestNumber_4 (gz_slen1 (vref_cat _ _) (Nat.le_of_ble_eq_true rfl)) (Nat.le_of_ble_eq_true rfl) ?_
  rw [gz_ent1 (vref_cat _ _)]
  refine h_numberOf hC (hw) h0 ?_
  refine gz_ireturn gd_H_newestNumber_7 rfl rfl ?_
  exact k

theorem h_precT {l : Launch} {D : gzD} {K : gzK} {M : gzM} {n nc ns : Nat} {M0 : gzM} {b : Nat} {v : gV} {g : gG} {T : CT} (hC : RC M0 b v g T M n nc ns)(hD : RM D) (hb : b + 10 ≤ 300000) (hls : l.stackTraces = false) {xo : Int32} (k : ∀ p, p < 40 → xo = nI p → T.there p = true → K (.inl (some (.ref (v.pid p)))) M n nc ns) (kx : isP T xo = none → ∀ e M n nc ns, RC M0 (b + 1) v g T M n nc ns → M e = some (.inr (8, [])) → K (.inr e) M n nc ns) : GZ l P1 D F_H_precinctThatIsThere K 0 [some (.ref 3), some (.int xo), none] [] M n nc ns := by
  refine gz_iload_n gd_H_precinctThatIsThere_0 rfl rfl ?_
  refine gz_static1 gd_H_precinctThatIsThere_1 gs_H_precinctThatIsThere_1 (Nat.le_of_ble_eq_true rfl) (Nat.le_of_ble_eq_true rfl) ?_
  refine h_reqPlace hC hD (by omega) hls (fun o ho e0 => ?_) (fun eo ex M1 n1 nc1 ns1 hC hx => GT.out rfl ?_)
  ·
    subst e0
    have eo := inR_s ho (show 40 < 2 ^ 31 by decide)
    refine gz_aload_n gd_H_precinctThatIsThere_4 rfl rfl (gz_isr.r _) ?_
    refine gq_getf (y := .ref (4)) gd_H_precinctThatIsThere_5 gf_H_11 hC.1.house rfl rfl ?_
    refine gz_iload_n gd_H_precinctThatIsThere_8 rfl rfl ?_
    refine rc_precs (p := o) gd_H_precinctThatIsThere_9 hC (by omega) ?_
    refine gz_astore_n gd_H_precinctThatIsThere_10 rfl (Nat.le_of_ble_eq_true rfl) rfl (pref_isr _ _ _) ?_
    refine gz_aload_n gd_H_precinctThatIsThere_11 rfl rfl (pref_isr _ _ _) ?_
    refine rc_nonnullP (tgt := 26) gd_H_precinctThatIsThere_12 (by decide) (fun h12 => ?_) (fun h12 => ?_)
    ·
      try rw [pref_t h12]
      refine gz_aload_n gd_H_precinctThatIsThere_26 rfl rfl (gz_isr.r _) ?_
      refine gz_areturn gd_H_precinctThatIsThere_27 rfl (Or.inl ⟨_, rfl⟩) (gz_isr.r _) ?_
      exact k o ho rfl h12
    ·
      try rw [pref_f h12]
      have hrx := hC.room hD (by omega)
      refine gz_throwW hls gt_H_precinctThatIsThere_15 gd_H_precinctThatIsThere_15 gd_H_precinctThatIsThere_18 gd_H_precinctThatIsThere_19 gd_H_precinctThatIsThere_22 gd_H_precinctThatIsThere_25 rfl (Nat.le_of_ble_eq_true rfl) (Nat.le_of_ble_eq_true rfl) (by omega) (by omega) ?_
      exact kx (isP_n (Or.inr ⟨o, ho, rfl, h12⟩)) _ _ _ _ _ (hC.alloc (fun j hj => gz_up_n hj) (by decide)).1 gz_up_s
  ·
    exact kx (by unfold isP; rw [eo]) _ _ _ _ _ hC hx

