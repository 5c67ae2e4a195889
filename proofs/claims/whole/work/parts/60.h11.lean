/-! The class: precinct, version. Printed by wip/whole/h11.py -/
theorem RC.newP {M0 : gzM} {b : Nat} {v : gV} {g : gG} {T : CT} {M : gzM} {n nc ns : Nat} (h : RC M0 b v g T M n nc ns) {p o : Nat} {r : Int32} (hp : p < 40) (hl : T.last p = 0) {M2 : gzM} (hN : ∀ j, j ≠ n → M2 j = M j) (hX : M2 n = some (.inr (4, [.int r, .int (nI o), .null]))) {f : Nat → Value} (hf : ∀ q, q < 40 → f q = pref v T q) : RC M0 (b + 1) (ct1 v.pid p n, v.vid, v.wid) g (((T.p_there p true).p_home p o).p_reg p r) (gz_up M2 4 (.inl (5, 40, updV f p (.ref n)))) (n + 1) (nc + 1) (ns + 3) := by
  have hn := h.2.1.n114
  have hfr := h.2.1.fresh
  have hpid : ∀ q, q < 40 → T.there q = true → v.pid q ≠ n := by
    intro q hq hqt e
    have := h.2.1.pobj q hq hqt
    rw [e, hfr n (Nat.le_refl _)] at this
    cases this
  obtain ⟨⟨hF, hD, hE⟩, -⟩ := h.alloc (sz := 3) hN (by decide)
  have hM : ∀ j, j ≠ 4 → gz_up M2 4 (.inl (5, 40, updV f p (.ref n))) j = M2 j := fun j hj => gz_up_n hj
  have hX4 : gz_up M2 4 (.inl (5, 40, updV f p (.ref n))) 4 = _ := gz_up_s
  have hD1 := (hD.fix hF (k := 4) (by omega) (by omega) hM).1
  generalize gz_up M2 4 (.inl (5, 40, updV f p (.ref n))) = M3 at hM hX4 hD1 ⊢
  have hX3 : M3 n = _ := (hM n (by omega)).trans hX
  have eth : ∀ q, q ≠ p → (((T.p_there p true).p_home p o).p_reg p r).there q = T.there q := fun q hq => ct1_ne hq
  have eth1 : (((T.p_there p true).p_home p o).p_reg p r).there p = true := ct1_at
  refine ⟨⟨(hM _ (by omega)).trans hF.house, ⟨_, hX4, fun q hq => ?_⟩, ?_, ?_, ?_, ?_, ?_, fun o2 ho2 => (hM _ (by omega)).trans (hF.off o2 ho2), fun o2 ho2 => ?_, fun o2 ho2 => ?_, fun o2 ho2 => ?_, ?_, fun o2 ho2 => ?_, fun o2 ho2 => ?_⟩, ⟨hD1.la, hD1.capP, hD1.capL, hD1.capW, hD1.ainj, hD1.postE, hD1.lineE, hD1.wtE, hD1.ver, fun q hq hqt => ?_, fun q hq hqt => ?_, fun q q2 hq hq2 hqt hqt2 e => ?_, hD1.fresh, hD1.n114, hD1.frame, hD1.emp⟩, hE.ofT rfl rfl⟩
  · by_cases e : q = p
    · subst e
      unfold pref
      rw [eth1, if_pos rfl, show gV.pid (ct1 v.pid q n, v.vid, v.wid) q = n from ct1_at]
      simp [updV]
    · unfold pref
      rw [eth q e, show gV.pid (ct1 v.pid p n, v.vid, v.wid) q = v.pid q from ct1_ne e]
      simp only [updV, if_neg e]
      exact hf q hq
  · rw [hM _ (by omega)]; exact hF.offs
  · rw [hM _ (by omega)]; exact hF.draft
  · rw [hM _ (by omega)]; exact hF.sm
  · rw [hM _ (by omega)]; exact hF.rs
  · rw [hM _ (by omega)]; exact hF.st
  · rw [hM _ (by omega)]; exact hF.shown o2 ho2
  · rw [hM _ (by omega)]; exact hF.src o2 ho2
  · rw [hM _ (by omega)]; exact hF.ow o2 ho2
  · rw [hM _ (by omega)]; exact hF.loP
  · rw [hM _ (by omega)]; exact hF.loL o2 ho2
  · rw [hM _ (by omega)]; exact hF.loW o2 ho2
  · by_cases e : q = p
    · subst e
      rw [show gV.pid (ct1 v.pid q n, v.vid, v.wid) q = n from ct1_at, hX3]
      show _ = (some (Sum.inr (4, [.int (ct1 T.reg q r q), .int (nI (ct1 T.home q o q)), vref _ (T.last q)])) : Option gzE)
      rw [ct1_at, ct1_at, hl]
      rfl
    · rw [show gV.pid (ct1 v.pid p n, v.vid, v.wid) q = v.pid q from ct1_ne e]
      refine (hD1.pobj q hq (by rw [← eth q e]; exact hqt)).trans ?_
      show _ = (some (Sum.inr (4, [.int (ct1 T.reg p r q), .int (nI (ct1 T.home p o q)), vref v (T.last q)])) : Option gzE)
      rw [ct1_ne e, ct1_ne e]
  · by_cases e : q = p
    · subst e
      rw [show gV.pid (ct1 v.pid q n, v.vid, v.wid) q = n from ct1_at]
      omega
    · rw [show gV.pid (ct1 v.pid p n, v.vid, v.wid) q = v.pid q from ct1_ne e]
      exact hD1.pgt q hq (by rw [← eth q e]; exact hqt)
  · by_cases e1 : q = p
    · by_cases e2 : q2 = p
      · rw [e1, e2]
      · subst e1
        rw [show gV.pid (ct1 v.pid q n, v.vid, v.wid) q = n from ct1_at, show gV.pid (ct1 v.pid q n, v.vid, v.wid) q2 = v.pid q2 from ct1_ne e2] at e
        exact absurd e.symm (hpid q2 hq2 (by rw [← eth q2 e2]; exact hqt2))
    · rw [show gV.pid (ct1 v.pid p n, v.vid, v.wid) q = v.pid q from ct1_ne e1] at e
      by_cases e2 : q2 = p
      · subst e2
        rw [show gV.pid (ct1 v.pid q2 n, v.vid, v.wid) q2 = n from ct1_at] at e
        exact absurd e (hpid q hq (by rw [← eth q e1]; exact hqt))
      · rw [show gV.pid (ct1 v.pid p n, v.vid, v.wid) q2 = v.pid q2 from ct1_ne e2] at e
        exact hD1.pinj q q2 hq hq2 (by rw [← eth q e1]; exact hqt) (by rw [← eth q2 e2]; exact hqt2) e
theorem h_precinct {l : Launch} {D : gzD} {K : gzK} {M : gzM} {n nc ns : Nat} {M0 : gzM} {b : Nat} {v : gV} {g : gG} {T : CT} (hC : RC M0 b v g T M n nc ns)(hD : RM D) (hb : b + 1000 ≤ 300000) (hls : l.stackTraces = false) {xp xo r : Int32} (hTL : TL T) (k : ∀ v g M n nc ns, RC M0 (b + 560) v g (z_precinct T xp xo r) M n nc ns → (z_precinct T xp xo r).code = 0 → K (.inl none) M n nc ns) (kx : ∀ e ci g M n nc ns, RC M0 (b + 560) v g (z_precinct T xp xo r) M n nc ns → M e = some (.inr (ci, [])) → ((z_precinct T xp xo r).code, ci) ∈ ([(1, 8), (2, 9), (3, 10)] : List (Int32 × Nat)) → K (.inr e) M n nc ns) : GZ l P1 D F_H_precinct K 0 [some (.ref 3), some (.int xp), some (.int xo), some (.int r)] [] M n nc ns := by
  replace hC := hC.code 0
  refine gz_iload_n gd_H_precinct_0 rfl rfl ?_
  refine gz_static1 gd_H_precinct_1 gs_H_precinct_1 (Nat.le_of_ble_eq_true rfl) (Nat.le_of_ble_eq_true rfl) ?_
  refine h_reqPlace hC hD (by omega) hls (fun p hp e0 => ?_) (fun ep ex M1 n1 nc1 ns1 hC hx => GT.out rfl ?_)
  ·
    subst e0
    have ep := inR_s hp (show 40 < 2 ^ 31 by decide)
    refine gz_iload_n gd_H_precinct_4 rfl rfl ?_
    refine gz_static1 gd_H_precinct_5 gs_H_precinct_5 (Nat.le_of_ble_eq_true rfl) (Nat.le_of_ble_eq_true rfl) ?_
    refine h_reqOffice hC hD (by omega) hls (fun o ho e0 => ?_) (fun eo ex M1 n1 nc1 ns1 hC hx => GT.out rfl ?_)
    ·
      subst e0
      have eo := inR_s ho (show 12 < 2 ^ 31 by decide)
      refine gz_iload_n gd_H_precinct_8 rfl rfl ?_
      refine gz_static1 gd_H_precinct_9 gs_H_precinct_9 (Nat.le_of_ble_eq_true rfl) (Nat.le_of_ble_eq_true rfl) ?_
      refine h_reqCount hC hD (by omega) hls (fun v1 => ?_) (fun v1 ex M1 n1 nc1 ns1 hC hx => GT.out rfl ?_)
      ·
        refine gz_aload_n gd_H_precinct_12 rfl rfl (gz_isr.r _) ?_
        refine gq_getf (y := .ref (4)) gd_H_precinct_13 gf_H_11 hC.1.house rfl rfl ?_
        refine gz_iload_n gd_H_precinct_16 rfl rfl ?_
        refine rc_precs (p := p) gd_H_precinct_17 hC (by omega) ?_
        refine rc_nullP (tgt := 31) gd_H_precinct_18 (by decide) (fun h18 => ?_) (fun h18 => ?_)
        ·
          try rw [pref_f h18]
          replace h18 : T.there p = false := h18
          refine gz_aload_n gd_H_precinct_31 rfl rfl (gz_isr.r _) ?_
          refine gq_getf (y := .ref (4)) gd_H_precinct_32 gf_H_11 hC.1.house rfl rfl ?_
          refine gz_iload_n gd_H_precinct_35 rfl rfl ?_
          have hr := hC.room hD (by omega)
          have hC0 := hC
          obtain ⟨fa, hfa, hfb⟩ := hC.1.precs
          refine gy_new gd_H_precinct_36 gn_H_precinct_36 (by omega) (by show ns + 3 ≤ _; omega) (fun M1 hX hN1 => ?_)
          refine gz_dup gd_H_precinct_39 rfl ?_
          refine gz_iload_n gd_H_precinct_40 rfl rfl ?_
          refine gz_iload_n gd_H_precinct_41 rfl rfl ?_
          refine gz_special2 gd_H_precinct_42 gs_H_precinct_42 (Nat.le_of_ble_eq_true rfl) (Nat.le_of_ble_eq_true rfl) ?_
          refine r_init hX (fun M2 hX hN2 => ?_)
          have hN := fun j (hj : j ≠ n) => (hN2 j hj).trans (hN1 j hj)
          have hf4 := (hN 4 (by have := hC0.2.1.n114; omega)).trans hfa
          have hlp : T.last p = 0 := Classical.byContradiction fun z => by
            have h1 := hTL p hp (by omega)
            rw [show T.there p = false from h18] at h1
            cases h1
          have hC3 := hC0.newP (o := o) (r := r) hp hlp hN hX hfb
          refine gz_aastore (kd := 5) (ci := 4) gd_H_precinct_45 rfl rfl hf4 hX rfl hp (by decide) (by decide) ?_
          refine gz_return gd_H_precinct_46 rfl ?_
          simp only [z_precinct, ep, eo, if_neg v1, if_neg (bf h18)] at k
          exact k _ _ _ _ _ _ (hC3.le (by omega)) rfl
        ·
          try rw [pref_t h18]
          replace h18 : T.there p = true := h18
          have hrx := hC.room hD (by omega)
          refine gz_throw hls gt_H_precinct_21 gd_H_precinct_21 gd_H_precinct_24 gd_H_precinct_25 gd_H_precinct_27 gd_H_precinct_30 rfl (Nat.le_of_ble_eq_true rfl) (Nat.le_of_ble_eq_true rfl) (by omega) (by omega) ?_
          simp only [z_precinct, ep, eo, if_neg v1, if_pos h18] at kx
          exact kx _ _ _ _ _ _ _ ((((hC.alloc (fun j hj => gz_up_n hj) (by decide)).1).le (by omega)).recode 3) gz_up_s (by show ((3 : Int32), _) ∈ _; decide)
      ·
        simp only [z_precinct, ep, eo, if_pos v1] at kx
        exact kx _ _ _ _ _ _ _ ((hC.le (by omega)).recode 2) hx (by show ((2 : Int32), _) ∈ _; decide)
    ·
      simp only [z_precinct, ep, eo] at kx
      exact kx _ _ _ _ _ _ _ ((hC.le (by omega)).recode 1) hx (by show ((1 : Int32), _) ∈ _; decide)
  ·
    simp only [z_precinct, ep] at kx
    exact kx _ _ _ _ _ _ _ ((hC.le (by omega)).recode 1) hx (by show ((1 : Int32), _) ∈ _; decide)

