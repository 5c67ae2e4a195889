/-! The law: its own methods. Printed by wip/whole/law1.py -/
/-- the reference's cells and the law's own: none is of the class's immutable ones -/
def SD (M : gzM) : Prop := ∀ k, 82 < k → k < 114 → ∀ ci fs, M k = some (.inr (ci, fs)) → ci = 6
/-- a store at the reference's cells or at the law's own -/
theorem RC.side {M0 : gzM} {b : Nat} {v : gV} {g : gG} {T : CT} {M M' : gzM} {n nc ns : Nat} (h : RC M0 b v g T M n nc ns) (hS : SD M) (hM : ∀ k, k < 83 ∨ 113 < k → M' k = M k) : RC M' b v g T M' n nc ns := by
  obtain ⟨hF, hD, hE⟩ := h
  have hn := hD.n114
  have hK : Keep M M' := by
    intro k ci fs hci hk
    by_cases c : 82 < k ∧ k < 114
    · have := hS k c.1 c.2 ci fs hk
      omega
    · exact (hM k (by omega)).trans hk
  refine ⟨hF.keep (fun k _ h83 => hM k (by omega)), ⟨fun j hj => ?_, hD.capP, hD.capL, hD.capW, hD.ainj, fun i x hx => (hD.postE i x hx).keep hK, fun o i x ho hx => (hD.lineE o i x ho hx).keep hK, fun o i x ho hx => (hD.wtE o i x ho hx).keep hK, fun w h0 h1 => ?_, fun p hp ht => ?_, hD.pgt, hD.pinj, fun k hk => ?_, hD.n114, fun k _ => rfl, ?_⟩, hE⟩
  · have := hD.aid_n hj
    rw [hM _ (by omega)]
    exact hD.la j hj
  · obtain ⟨a1, a2, f, a3, a4⟩ := hD.ver w h0 h1
    exact ⟨hK _ 5 _ (Or.inr (Or.inr rfl)) a1, a2, f, (hM _ (by omega)).trans a3, a4⟩
  · have := hD.pgt p hp ht
    exact (hM _ (by omega)).trans (hD.pobj p hp ht)
  · rw [hM k (by omega)]; exact hD.fresh k hk
  · obtain ⟨f, hf⟩ := hD.emp
    exact ⟨f, (hM 1 (by omega)).trans ((hD.frame 1 (by omega)).trans hf)⟩
/-- a call's end, as the law's own method leaves it -/
def WK (M : gzM) (b : Nat) (U : CT) (a : Int64) (M' : gzM) (n nc ns : Nat) : Prop := ∃ v g f, RC M' (b + 560) v g U M' n nc ns ∧ (∀ k, 82 < k → k < 113 → M' k = M k) ∧ M' 2 = M 2 ∧ M' 113 = some (.inl (2, 1, f)) ∧ (U.code = 0 → f 0 = .long a)
theorem wk_ok {M M1 : gzM} {b : Nat} {U : CT} {a : Int64} {v : gV} {g : gG} {n nc ns : Nat} {f : Nat → Value} (hC : RC M (b + 560) v g U M1 n nc ns) (hS : SD M) : WK M b U a (gz_up M1 113 (.inl (2, 1, updV f 0 (.long a)))) n nc ns := by
  have hS1 : SD M1 := fun k h1 h2 ci fs hk => hS k h1 h2 ci fs (by rw [← hC.2.1.frame k (by omega)]; exact hk)
  refine ⟨v, g, _, hC.side hS1 (fun k hk => gz_up_n (by omega)), fun k h1 h2 => (gz_up_n (by omega)).trans (hC.2.1.frame k (by omega)), (gz_up_n (by omega)).trans (hC.2.1.frame 2 (by omega)), gz_up_s, fun _ => by simp [updV]⟩
theorem wk_x {M M1 : gzM} {b : Nat} {U : CT} {a : Int64} {v : gV} {g : gG} {n nc ns : Nat} {f : Nat → Value} (hC : RC M (b + 560) v g U M1 n nc ns) (hS : SD M) (hO : M 113 = some (.inl (2, 1, f))) (hc : ¬ U.code = 0) : WK M b U a M1 n nc ns := by
  have hS1 : SD M1 := fun k h1 h2 ci fs hk => hS k h1 h2 ci fs (by rw [← hC.2.1.frame k (by omega)]; exact hk)
  exact ⟨v, g, f, hC.side hS1 (fun k _ => rfl), fun k h1 h2 => hC.2.1.frame k (by omega), hC.2.1.frame 2 (by omega), (hC.2.1.frame 113 (by omega)).trans hO, fun z => absurd z hc⟩
def WV (M : gzM) (b : Nat) (U : CT) (M' : gzM) (n nc ns : Nat) : Prop := ∃ v g f, RC M' (b + 560) v g U M' n nc ns ∧ (∀ k, 82 < k → k < 113 → M' k = M k) ∧ M' 2 = M 2 ∧ M' 113 = some (.inl (2, 1, f))
theorem WK.v {M M1 : gzM} {b : Nat} {U : CT} {a : Int64} {n nc ns : Nat} (h : WK M b U a M1 n nc ns) : WV M b U M1 n nc ns := by
  obtain ⟨v, g, f, h1, h2, h3, h4, -⟩ := h
  exact ⟨v, g, f, h1, h2, h3, h4⟩
theorem wk_v {M M1 : gzM} {b : Nat} {U : CT} {v : gV} {g : gG} {n nc ns : Nat} {f : Nat → Value} (hC : RC M (b + 560) v g U M1 n nc ns) (hS : SD M) (hO : M 113 = some (.inl (2, 1, f))) : WV M b U M1 n nc ns := by
  have hS1 : SD M1 := fun k h1 h2 ci fs hk => hS k h1 h2 ci fs (by rw [← hC.2.1.frame k (by omega)]; exact hk)
  exact ⟨v, g, f, hC.side hS1 (fun k _ => rfl), fun k h1 h2 => hC.2.1.frame k (by omega), hC.2.1.frame 2 (by omega), (hC.2.1.frame 113 (by omega)).trans hO⟩
theorem i64_add {x y : Int64} {a b : Nat} (h1 : 0 ≤ x.toInt) (h2 : x.toInt ≤ a) (h3 : 0 ≤ y.toInt) (h4 : y.toInt ≤ b) (h : a + b < 2 ^ 62) : 0 ≤ (x + y).toInt ∧ (x + y).toInt ≤ ((a + b : Nat) : Int) := by
  rw [Int64.toInt_add, Int.bmod_eq_of_le (by omega) (by omega)]
  omega
theorem sum_pos {T : CT} {q : Nat} (h : IV T q) {o : Nat} {th : Option Nat} {g : Nat} (ho : o < 12) (hg : g < 6) : ∀ i, i ≤ 40 → 0 ≤ (y_sum T o th g i).toInt ∧ (y_sum T o th g i).toInt ≤ ((10000000 * i : Nat) : Int)
  | 0, _ => ⟨by show 0 ≤ (0 : Int64).toInt; decide, by show (0 : Int64).toInt ≤ _; decide⟩
  | i + 1, hi => by
    obtain ⟨a1, a2⟩ := sum_pos h (th := th) ho hg i (by omega)
    simp only [y_sum]
    split
    · obtain ⟨v1, v2⟩ := h.vo (T.shown o i) g (h.ji.1.shown o i ho (by omega)) hg
      have := i64_add (x := y_sum T o th g i) (y := (T.vote (T.shown o i) g).toInt64) (a := 10000000 * i) (b := 10000000) a1 a2 (by rw [Int32.toInt_toInt64]; exact v1) (by rw [Int32.toInt_toInt64]; exact v2) (by omega)
      exact ⟨this.1, by rw [show 10000000 * (i + 1) = 10000000 * i + 10000000 by omega]; exact this.2⟩
    · exact ⟨a1, by omega⟩
theorem sm_pos {T : CT} {q : Nat} (h : IV T q) : ∀ o, o < 12 → 0 ≤ (y_sA (sm0 (T.w_code 0) o) 6).toInt := by
  intro o ho
  have h0 := h.code (x := 0)
  have key : ∀ i, i ≤ 6 → 0 ≤ (y_sA (sm0 (T.w_code 0) o) i).toInt ∧ (y_sA (sm0 (T.w_code 0) o) i).toInt ≤ ((400000000 * i : Nat) : Int) := by
    intro i
    induction i with
    | zero => intro _; exact ⟨by show 0 ≤ (0 : Int64).toInt; decide, by show (0 : Int64).toInt ≤ _; decide⟩
    | succ i ih =>
      intro hi
      obtain ⟨a1, a2⟩ := ih (by omega)
      have e : sm0 (T.w_code 0) o 110 i = y_sum (T.w_code 0) o none i 40 := by simp [sm0]
      obtain ⟨b1, b2⟩ := sum_pos h0 (th := none) ho (show i < 6 by omega) 40 (Nat.le_refl _)
      simp only [y_sA]
      rw [e]
      have := i64_add (a := 400000000 * i) (b := 400000000) a1 a2 b1 b2 (by omega)
      exact ⟨this.1, by rw [show 400000000 * (i + 1) = 400000000 * i + 400000000 by omega]; exact this.2⟩
  exact (key 6 (Nat.le_refl _)).1
theorem lw_precinct {l : Launch} {D : gzD} {K : gzK} {M : gzM} {n nc ns : Nat} {b : Nat} {v : gV} {g : gG} {T : CT} {q : Nat} {f : Nat → Value} (hC : RC M b v g T M n nc ns) (hD : RM D) (hb : b + 1000 ≤ 300000) (hls : l.stackTraces = false) (hV : IV T q) (hq : q < 512) (hS : SD M) (hO : M 113 = some (.inl (2, 1, f))) {x0 x1 x2 : Int32} (k : ∀ M1 n nc ns, WV M b (z_precinct T x0 x1 x2) M1 n nc ns → K (.inl (some (.int (z_precinct T x0 x1 x2).code))) M1 n nc ns) : GZ l P1 D F_L_precinct K 0 [some (.ref 3), some (.int x0), some (.int x1), some (.int x2), none] [] M n nc ns := by
  refine gz_aload_n gd_L_precinct_0 rfl rfl (gz_isr.r _) ?_
  refine gz_iload_n gd_L_precinct_1 rfl rfl ?_
  refine gz_iload_n gd_L_precinct_2 rfl rfl ?_
  refine gz_iload_n gd_L_precinct_3 rfl rfl ?_
  refine gz_virtual3 gd_L_precinct_4 hC.1.house rfl rfl gs_L_precinct_4 (Nat.le_of_ble_eq_true rfl) (Nat.le_of_ble_eq_true rfl) ?_
  refine h_precinct hC hD hb hls hV.tl (fun v1 g1 M1 n1 nc1 ns1 hC hz => ?_) (fun e ci g1 M1 n1 nc1 ns1 hC hx hc => ?_)
  ·
    refine gz_goto (tgt := 22) gd_L_precinct_7 (by decide) ?_
    refine gz_iconst (v := 0) gd_L_precinct_22 (by decide) ?_
    refine gz_ireturn gd_L_precinct_23 rfl rfl ?_
    rw [hz] at k
    exact k _ _ _ _ (wk_v hC hS hO)
  ·
    simp only [List.mem_cons, List.mem_nil_iff, or_false, Prod.mk.injEq] at hc
    rcases hc with ⟨hc, rfl⟩ | ⟨hc, rfl⟩ | ⟨hc, rfl⟩
    · refine GT.catch (ci := 8) (pre := []) (suf := [(0, 7, 14, 15), (0, 7, 18, 17)]) rfl hx rfl ⟨by decide, by decide⟩ (by decide) gw_195 gw_207 (fun y hy => ?_) ?_
      · cases hy
      · refine gz_astore gd_L_precinct_10 (Nat.le_of_ble_eq_true rfl) rfl (gz_isr.r _) ?_
        refine gz_iconst (v := 1) gd_L_precinct_12 (by decide) ?_
        refine gz_ireturn gd_L_precinct_13 rfl rfl ?_
        rw [hc] at k
        exact k _ _ _ _ (wk_x (a := 0) hC hS hO (by rw [hc]; decide)).v
    · refine GT.catch (ci := 9) (pre := [(0, 7, 10, 13)]) (suf := [(0, 7, 18, 17)]) rfl hx rfl ⟨by decide, by decide⟩ (by decide) gw_196 gw_284 (fun y hy => ?_) ?_
      · simp only [List.mem_cons, List.mem_nil_iff, or_false] at hy
        rcases hy with rfl
        · exact Or.inr ⟨by decide, "java/lang/IndexOutOfBoundsException", gw_195, List.mem_of_getElem? (i := 3) rfl⟩
      · refine gz_astore gd_L_precinct_14 (Nat.le_of_ble_eq_true rfl) rfl (gz_isr.r _) ?_
        refine gz_iconst (v := 2) gd_L_precinct_16 (by decide) ?_
        refine gz_ireturn gd_L_precinct_17 rfl rfl ?_
        rw [hc] at k
        exact k _ _ _ _ (wk_x (a := 0) hC hS hO (by rw [hc]; decide)).v
    · refine GT.catch (ci := 10) (pre := [(0, 7, 10, 13), (0, 7, 14, 15)]) (suf := []) rfl hx rfl ⟨by decide, by decide⟩ (by decide) gw_197 gw_300 (fun y hy => ?_) ?_
      · simp only [List.mem_cons, List.mem_nil_iff, or_false] at hy
        rcases hy with rfl | rfl
        · exact Or.inr ⟨by decide, "java/lang/IndexOutOfBoundsException", gw_195, List.mem_of_getElem? (i := 6) rfl⟩
        · exact Or.inr ⟨by decide, "java/lang/IllegalArgumentException", gw_196, List.mem_of_getElem? (i := 7) rfl⟩
      · refine gz_astore gd_L_precinct_18 (Nat.le_of_ble_eq_true rfl) rfl (gz_isr.r _) ?_
        refine gz_iconst (v := 3) gd_L_precinct_20 (by decide) ?_
        refine gz_ireturn gd_L_precinct_21 rfl rfl ?_
        rw [hc] at k
        exact k _ _ _ _ (wk_x (a := 0) hC hS hO (by rw [hc]; decide)).v

theorem lw_votes {l : Launch} {D : gzD} {K : gzK} {M : gzM} {n nc ns : Nat} {b : Nat} {v : gV} {g : gG} {T : CT} {q : Nat} {f : Nat → Value} (hC : RC M b v g T M n nc ns) (hD : RM D) (hb : b + 1000 ≤ 300000) (hls : l.stackTraces = false) (hV : IV T q) (hq : q < 512) (hS : SD M) (hO : M 113 = some (.inl (2, 1, f))) {x0 x1 : Int32} (k : ∀ M1 n nc ns, WK M b ((z_votes T x0 x1).2) (z_votes T x0 x1).1.toInt64 M1 n nc ns → K (.inl (some (.int ((z_votes T x0 x1).2).code))) M1 n nc ns) : GZ l P1 D F_L_votes K 0 [some (.ref 3), some (.int x0), some (.int x1), some (.ref 113), none] [] M n nc ns := by
  refine gz_aload_n gd_L_votes_0 rfl rfl (gz_isr.r _) ?_
  refine gz_iconst (v := 0) gd_L_votes_1 (by decide) ?_
  refine gz_aload_n gd_L_votes_2 rfl rfl (gz_isr.r _) ?_
  refine gz_iload_n gd_L_votes_3 rfl rfl ?_
  refine gz_iload_n gd_L_votes_4 rfl rfl ?_
  refine gz_virtual2 gd_L_votes_5 hC.1.house rfl rfl gs_L_votes_5 (Nat.le_of_ble_eq_true rfl) (Nat.le_of_ble_eq_true rfl) ?_
  refine h_votes hC hD hb hls (fun v1 g1 M1 n1 nc1 ns1 hC hz => ?_) (fun e ci g1 M1 n1 nc1 ns1 hC hx hc => ?_)
  ·
    have hO1 := (hC.2.1.frame 113 (by omega)).trans hO
    refine gz_i2l gd_L_votes_8 ?_
    refine gz_lastore (i := 0) gd_L_votes_9 rfl hO1 rfl (by decide) (by decide) (by decide) ?_
    refine gz_goto (tgt := 21) gd_L_votes_10 (by decide) ?_
    refine gz_iconst (v := 0) gd_L_votes_21 (by decide) ?_
    refine gz_ireturn gd_L_votes_22 rfl rfl ?_
    rw [hz] at k
    exact k _ _ _ _ (wk_ok hC hS)
  ·
    simp only [List.mem_cons, List.mem_nil_iff, or_false, Prod.mk.injEq] at hc
    rcases hc with ⟨hc, rfl⟩ | ⟨hc, rfl⟩
    · refine GT.catch (ci := 8) (pre := []) (suf := [(0, 10, 17, 15)]) rfl hx rfl ⟨by decide, by decide⟩ (by decide) gw_195 gw_207 (fun y hy => ?_) ?_
      · cases hy
      · refine gz_astore gd_L_votes_13 (Nat.le_of_ble_eq_true rfl) rfl (gz_isr.r _) ?_
        refine gz_iconst (v := 1) gd_L_votes_15 (by decide) ?_
        refine gz_ireturn gd_L_votes_16 rfl rfl ?_
        rw [hc] at k
        exact k _ _ _ _ (wk_x hC hS hO (by rw [hc]; decide))
    · refine GT.catch (ci := 9) (pre := [(0, 10, 13, 13)]) (suf := []) rfl hx rfl ⟨by decide, by decide⟩ (by decide) gw_196 gw_284 (fun y hy => ?_) ?_
      · simp only [List.mem_cons, List.mem_nil_iff, or_false] at hy
        rcases hy with rfl
        · exact Or.inr ⟨by decide, "java/lang/IndexOutOfBoundsException", gw_195, List.mem_of_getElem? (i := 3) rfl⟩
      · refine gz_astore gd_L_votes_17 (Nat.le_of_ble_eq_true rfl) rfl (gz_isr.r _) ?_
        refine gz_iconst (v := 2) gd_L_votes_19 (by decide) ?_
        refine gz_ireturn gd_L_votes_20 rfl rfl ?_
        rw [hc] at k
        exact k _ _ _ _ (wk_x hC hS hO (by rw [hc]; decide))

theorem lw_version {l : Launch} {D : gzD} {K : gzK} {M : gzM} {n nc ns : Nat} {b : Nat} {v : gV} {g : gG} {T : CT} {q : Nat} {f : Nat → Value} (hC : RC M b v g T M n nc ns) (hD : RM D) (hb : b + 1000 ≤ 300000) (hls : l.stackTraces = false) (hV : IV T q) (hq : q < 512) (hS : SD M) (hO : M 113 = some (.inl (2, 1, f))) {x0 x1 x2 x3 : Int32} (k : ∀ M1 n nc ns, WK M b ((z_version T x0 x1 x2 x3).2) (z_version T x0 x1 x2 x3).1.toInt64 M1 n nc ns → K (.inl (some (.int ((z_version T x0 x1 x2 x3).2).code))) M1 n nc ns) : GZ l P1 D F_L_version K 0 [some (.ref 3), some (.int x0), some (.int x1), some (.int x2), some (.int x3), some (.ref 113), none] [] M n nc ns := by
  refine gz_aload gd_L_version_0 rfl (gz_isr.r _) ?_
  refine gz_iconst (v := 0) gd_L_version_2 (by decide) ?_
  refine gz_aload_n gd_L_version_3 rfl rfl (gz_isr.r _) ?_
  refine gz_iload_n gd_L_version_4 rfl rfl ?_
  refine gz_iload_n gd_L_version_5 rfl rfl ?_
  refine gz_iload_n gd_L_version_6 rfl rfl ?_
  refine gz_iload gd_L_version_7 rfl ?_
  refine gz_virtual4 gd_L_version_9 hC.1.house rfl rfl gs_L_version_9 (Nat.le_of_ble_eq_true rfl) (Nat.le_of_ble_eq_true rfl) ?_
  refine h_version hC hD hb hls hV.ji hV.tl (by have := hV.pb (by omega); omega) hV.n0 hV.dr (fun o p ho hp => hV.it.ow o p ho hp (by omega)) (fun v1 g1 M1 n1 nc1 ns1 hC hz => ?_) (fun e ci g1 M1 n1 nc1 ns1 hC hx hc => ?_)
  ·
    have hO1 := (hC.2.1.frame 113 (by omega)).trans hO
    refine gz_i2l gd_L_version_12 ?_
    refine gz_lastore (i := 0) gd_L_version_13 rfl hO1 rfl (by decide) (by decide) (by decide) ?_
    refine gz_goto (tgt := 29) gd_L_version_14 (by decide) ?_
    refine gz_iconst (v := 0) gd_L_version_29 (by decide) ?_
    refine gz_ireturn gd_L_version_30 rfl rfl ?_
    rw [hz] at k
    exact k _ _ _ _ (wk_ok hC hS)
  ·
    simp only [List.mem_cons, List.mem_nil_iff, or_false, Prod.mk.injEq] at hc
    rcases hc with ⟨hc, rfl⟩ | ⟨hc, rfl⟩ | ⟨hc, rfl⟩
    · refine GT.catch (ci := 8) (pre := []) (suf := [(0, 14, 21, 15), (0, 14, 25, 27)]) rfl hx rfl ⟨by decide, by decide⟩ (by decide) gw_195 gw_207 (fun y hy => ?_) ?_
      · cases hy
      · refine gz_astore gd_L_version_17 (Nat.le_of_ble_eq_true rfl) rfl (gz_isr.r _) ?_
        refine gz_iconst (v := 1) gd_L_version_19 (by decide) ?_
        refine gz_ireturn gd_L_version_20 rfl rfl ?_
        rw [hc] at k
        exact k _ _ _ _ (wk_x hC hS hO (by rw [hc]; decide))
    · refine GT.catch (ci := 9) (pre := [(0, 14, 17, 13)]) (suf := [(0, 14, 25, 27)]) rfl hx rfl ⟨by decide, by decide⟩ (by decide) gw_196 gw_284 (fun y hy => ?_) ?_
      · simp only [List.mem_cons, List.mem_nil_iff, or_false] at hy
        rcases hy with rfl
        · exact Or.inr ⟨by decide, "java/lang/IndexOutOfBoundsException", gw_195, List.mem_of_getElem? (i := 3) rfl⟩
      · refine gz_astore gd_L_version_21 (Nat.le_of_ble_eq_true rfl) rfl (gz_isr.r _) ?_
        refine gz_iconst (v := 2) gd_L_version_23 (by decide) ?_
        refine gz_ireturn gd_L_version_24 rfl rfl ?_
        rw [hc] at k
        exact k _ _ _ _ (wk_x hC hS hO (by rw [hc]; decide))
    · refine GT.catch (ci := 11) (pre := [(0, 14, 17, 13), (0, 14, 21, 15)]) (suf := []) rfl hx rfl ⟨by decide, by decide⟩ (by decide) gw_345 gw_364 (fun y hy => ?_) ?_
      · simp only [List.mem_cons, List.mem_nil_iff, or_false] at hy
        rcases hy with rfl | rfl
        · exact Or.inr ⟨by decide, "java/lang/IndexOutOfBoundsException", gw_195, List.mem_of_getElem? (i := 9) rfl⟩
        · exact Or.inr ⟨by decide, "java/lang/IllegalArgumentException", gw_196, List.mem_of_getElem? (i := 10) rfl⟩
      · refine gz_astore gd_L_version_25 (Nat.le_of_ble_eq_true rfl) rfl (gz_isr.r _) ?_
        refine gz_iconst (v := 3) gd_L_version_27 (by decide) ?_
        refine gz_ireturn gd_L_version_28 rfl rfl ?_
        rw [hc] at k
        exact k _ _ _ _ (wk_x hC hS hO (by rw [hc]; decide))

theorem lw_hang {l : Launch} {D : gzD} {K : gzK} {M : gzM} {n nc ns : Nat} {b : Nat} {v : gV} {g : gG} {T : CT} {q : Nat} {f : Nat → Value} (hC : RC M b v g T M n nc ns) (hD : RM D) (hb : b + 1000 ≤ 300000) (hls : l.stackTraces = false) (hV : IV T q) (hq : q < 512) (hS : SD M) (hO : M 113 = some (.inl (2, 1, f))) {x0 x1 : Int32} (k : ∀ M1 n nc ns, WK M b ((z_hang T x0 x1).2) (z_hang T x0 x1).1.toInt64 M1 n nc ns → K (.inl (some (.int ((z_hang T x0 x1).2).code))) M1 n nc ns) : GZ l P1 D F_L_hang K 0 [some (.ref 3), some (.int x0), some (.int x1), some (.ref 113), none] [] M n nc ns := by
  refine gz_aload_n gd_L_hang_0 rfl rfl (gz_isr.r _) ?_
  refine gz_iconst (v := 0) gd_L_hang_1 (by decide) ?_
  refine gz_aload_n gd_L_hang_2 rfl rfl (gz_isr.r _) ?_
  refine gz_iload_n gd_L_hang_3 rfl rfl ?_
  refine gz_iload_n gd_L_hang_4 rfl rfl ?_
  refine gz_virtual2 gd_L_hang_5 hC.1.house rfl rfl gs_L_hang_5 (Nat.le_of_ble_eq_true rfl) (Nat.le_of_ble_eq_true rfl) ?_
  refine h_hang hC hD hb hls hV.ji hV.tl (by have := hV.pb (by omega); omega) (fun o ho => hV.it.ns ho) (hV.it.und hV.ji.1) (fun v1 g1 M1 n1 nc1 ns1 hC hz => ?_) (fun e ci g1 M1 n1 nc1 ns1 hC hx hc => ?_)
  ·
    have hO1 := (hC.2.1.frame 113 (by omega)).trans hO
    refine gz_i2l gd_L_hang_8 ?_
    refine gz_lastore (i := 0) gd_L_hang_9 rfl hO1 rfl (by decide) (by decide) (by decide) ?_
    refine gz_goto (tgt := 29) gd_L_hang_10 (by decide) ?_
    refine gz_iconst (v := 0) gd_L_hang_29 (by decide) ?_
    refine gz_ireturn gd_L_hang_30 rfl rfl ?_
    rw [hz] at k
    exact k _ _ _ _ (wk_ok hC hS)
  ·
    simp only [List.mem_cons, List.mem_nil_iff, or_false, Prod.mk.injEq] at hc
    rcases hc with ⟨hc, rfl⟩ | ⟨hc, rfl⟩ | ⟨hc, rfl⟩ | ⟨hc, rfl⟩
    · refine GT.catch (ci := 8) (pre := []) (suf := [(0, 10, 17, 15), (0, 10, 21, 17), (0, 10, 25, 27)]) rfl hx rfl ⟨by decide, by decide⟩ (by decide) gw_195 gw_207 (fun y hy => ?_) ?_
      · cases hy
      · refine gz_astore gd_L_hang_13 (Nat.le_of_ble_eq_true rfl) rfl (gz_isr.r _) ?_
        refine gz_iconst (v := 1) gd_L_hang_15 (by decide) ?_
        refine gz_ireturn gd_L_hang_16 rfl rfl ?_
        rw [hc] at k
        exact k _ _ _ _ (wk_x hC hS hO (by rw [hc]; decide))
    · refine GT.catch (ci := 9) (pre := [(0, 10, 13, 13)]) (suf := [(0, 10, 21, 17), (0, 10, 25, 27)]) rfl hx rfl ⟨by decide, by decide⟩ (by decide) gw_196 gw_284 (fun y hy => ?_) ?_
      · simp only [List.mem_cons, List.mem_nil_iff, or_false] at hy
        rcases hy with rfl
        · exact Or.inr ⟨by decide, "java/lang/IndexOutOfBoundsException", gw_195, List.mem_of_getElem? (i := 3) rfl⟩
      · refine gz_astore gd_L_hang_17 (Nat.le_of_ble_eq_true rfl) rfl (gz_isr.r _) ?_
        refine gz_iconst (v := 2) gd_L_hang_19 (by decide) ?_
        refine gz_ireturn gd_L_hang_20 rfl rfl ?_
        rw [hc] at k
        exact k _ _ _ _ (wk_x hC hS hO (by rw [hc]; decide))
    · refine GT.catch (ci := 10) (pre := [(0, 10, 13, 13), (0, 10, 17, 15)]) (suf := [(0, 10, 25, 27)]) rfl hx rfl ⟨by decide, by decide⟩ (by decide) gw_197 gw_300 (fun y hy => ?_) ?_
      · simp only [List.mem_cons, List.mem_nil_iff, or_false] at hy
        rcases hy with rfl | rfl
        · exact Or.inr ⟨by decide, "java/lang/IndexOutOfBoundsException", gw_195, List.mem_of_getElem? (i := 6) rfl⟩
        · exact Or.inr ⟨by decide, "java/lang/IllegalArgumentException", gw_196, List.mem_of_getElem? (i := 7) rfl⟩
      · refine gz_astore gd_L_hang_21 (Nat.le_of_ble_eq_true rfl) rfl (gz_isr.r _) ?_
        refine gz_iconst (v := 3) gd_L_hang_23 (by decide) ?_
        refine gz_ireturn gd_L_hang_24 rfl rfl ?_
        rw [hc] at k
        exact k _ _ _ _ (wk_x hC hS hO (by rw [hc]; decide))
    · refine GT.catch (ci := 11) (pre := [(0, 10, 13, 13), (0, 10, 17, 15), (0, 10, 21, 17)]) (suf := []) rfl hx rfl ⟨by decide, by decide⟩ (by decide) gw_345 gw_364 (fun y hy => ?_) ?_
      · simp only [List.mem_cons, List.mem_nil_iff, or_false] at hy
        rcases hy with rfl | rfl | rfl
        · exact Or.inr ⟨by decide, "java/lang/IndexOutOfBoundsException", gw_195, List.mem_of_getElem? (i := 9) rfl⟩
        · exact Or.inr ⟨by decide, "java/lang/IllegalArgumentException", gw_196, List.mem_of_getElem? (i := 10) rfl⟩
        · exact Or.inr ⟨by decide, "java/lang/IllegalStateException", gw_197, List.mem_of_getElem? (i := 11) rfl⟩
      · refine gz_astore gd_L_hang_25 (Nat.le_of_ble_eq_true rfl) rfl (gz_isr.r _) ?_
        refine gz_iconst (v := 4) gd_L_hang_27 (by decide) ?_
        refine gz_ireturn gd_L_hang_28 rfl rfl ?_
        rw [hc] at k
        exact k _ _ _ _ (wk_x hC hS hO (by rw [hc]; decide))

theorem lw_fail {l : Launch} {D : gzD} {K : gzK} {M : gzM} {n nc ns : Nat} {b : Nat} {v : gV} {g : gG} {T : CT} {q : Nat} {f : Nat → Value} (hC : RC M b v g T M n nc ns) (hD : RM D) (hb : b + 1000 ≤ 300000) (hls : l.stackTraces = false) (hV : IV T q) (hq : q < 512) (hS : SD M) (hO : M 113 = some (.inl (2, 1, f))) {x0 : Int32} (k : ∀ M1 n nc ns, WK M b ((z_fail T x0).2) (z_fail T x0).1.toInt64 M1 n nc ns → K (.inl (some (.int ((z_fail T x0).2).code))) M1 n nc ns) : GZ l P1 D F_L_fail K 0 [some (.ref 3), some (.int x0), some (.ref 113), none] [] M n nc ns := by
  refine gz_aload_n gd_L_fail_0 rfl rfl (gz_isr.r _) ?_
  refine gz_iconst (v := 0) gd_L_fail_1 (by decide) ?_
  refine gz_aload_n gd_L_fail_2 rfl rfl (gz_isr.r _) ?_
  refine gz_iload_n gd_L_fail_3 rfl rfl ?_
  refine gz_virtual1 gd_L_fail_4 hC.1.house rfl rfl gs_L_fail_4 (Nat.le_of_ble_eq_true rfl) (Nat.le_of_ble_eq_true rfl) ?_
  refine h_fail hC hD hb hls hV.ji hV.tl (by have := hV.pb (by omega); omega) (fun o ho => hV.it.ns ho) (fun v1 g1 M1 n1 nc1 ns1 hC hz => ?_) (fun e ci g1 M1 n1 nc1 ns1 hC hx hc => ?_)
  ·
    have hO1 := (hC.2.1.frame 113 (by omega)).trans hO
    refine gz_i2l gd_L_fail_7 ?_
    refine gz_lastore (i := 0) gd_L_fail_8 rfl hO1 rfl (by decide) (by decide) (by decide) ?_
    refine gz_goto (tgt := 21) gd_L_fail_9 (by decide) ?_
    refine gz_iconst (v := 0) gd_L_fail_21 (by decide) ?_
    refine gz_ireturn gd_L_fail_22 rfl rfl ?_
    rw [hz] at k
    exact k _ _ _ _ (wk_ok hC hS)
  ·
    simp only [List.mem_cons, List.mem_nil_iff, or_false, Prod.mk.injEq] at hc
    rcases hc with ⟨hc, rfl⟩ | ⟨hc, rfl⟩ | ⟨hc, rfl⟩
    · refine GT.catch (ci := 8) (pre := []) (suf := [(0, 9, 15, 17), (0, 9, 18, 27)]) rfl hx rfl ⟨by decide, by decide⟩ (by decide) gw_195 gw_207 (fun y hy => ?_) ?_
      · cases hy
      · refine gz_astore_n gd_L_fail_12 rfl (Nat.le_of_ble_eq_true rfl) rfl (gz_isr.r _) ?_
        refine gz_iconst (v := 1) gd_L_fail_13 (by decide) ?_
        refine gz_ireturn gd_L_fail_14 rfl rfl ?_
        rw [hc] at k
        exact k _ _ _ _ (wk_x hC hS hO (by rw [hc]; decide))
    · refine GT.catch (ci := 10) (pre := [(0, 9, 12, 13)]) (suf := [(0, 9, 18, 27)]) rfl hx rfl ⟨by decide, by decide⟩ (by decide) gw_197 gw_300 (fun y hy => ?_) ?_
      · simp only [List.mem_cons, List.mem_nil_iff, or_false] at hy
        rcases hy with rfl
        · exact Or.inr ⟨by decide, "java/lang/IndexOutOfBoundsException", gw_195, List.mem_of_getElem? (i := 6) rfl⟩
      · refine gz_astore_n gd_L_fail_15 rfl (Nat.le_of_ble_eq_true rfl) rfl (gz_isr.r _) ?_
        refine gz_iconst (v := 2) gd_L_fail_16 (by decide) ?_
        refine gz_ireturn gd_L_fail_17 rfl rfl ?_
        rw [hc] at k
        exact k _ _ _ _ (wk_x hC hS hO (by rw [hc]; decide))
    · refine GT.catch (ci := 11) (pre := [(0, 9, 12, 13), (0, 9, 15, 17)]) (suf := []) rfl hx rfl ⟨by decide, by decide⟩ (by decide) gw_345 gw_364 (fun y hy => ?_) ?_
      · simp only [List.mem_cons, List.mem_nil_iff, or_false] at hy
        rcases hy with rfl | rfl
        · exact Or.inr ⟨by decide, "java/lang/IndexOutOfBoundsException", gw_195, List.mem_of_getElem? (i := 9) rfl⟩
        · exact Or.inr ⟨by decide, "java/lang/IllegalStateException", gw_197, List.mem_of_getElem? (i := 11) rfl⟩
      · refine gz_astore_n gd_L_fail_18 rfl (Nat.le_of_ble_eq_true rfl) rfl (gz_isr.r _) ?_
        refine gz_iconst (v := 3) gd_L_fail_19 (by decide) ?_
        refine gz_ireturn gd_L_fail_20 rfl rfl ?_
        rw [hc] at k
        exact k _ _ _ _ (wk_x hC hS hO (by rw [hc]; decide))

theorem lw_revive {l : Launch} {D : gzD} {K : gzK} {M : gzM} {n nc ns : Nat} {b : Nat} {v : gV} {g : gG} {T : CT} {q : Nat} {f : Nat → Value} (hC : RC M b v g T M n nc ns) (hD : RM D) (hb : b + 1000 ≤ 300000) (hls : l.stackTraces = false) (hV : IV T q) (hq : q < 512) (hS : SD M) (hO : M 113 = some (.inl (2, 1, f))) {x0 : Int32} (k : ∀ M1 n nc ns, WK M b ((z_revive T x0).2) (z_revive T x0).1.toInt64 M1 n nc ns → K (.inl (some (.int ((z_revive T x0).2).code))) M1 n nc ns) : GZ l P1 D F_L_revive K 0 [some (.ref 3), some (.int x0), some (.ref 113), none] [] M n nc ns := by
  refine gz_aload_n gd_L_revive_0 rfl rfl (gz_isr.r _) ?_
  refine gz_iconst (v := 0) gd_L_revive_1 (by decide) ?_
  refine gz_aload_n gd_L_revive_2 rfl rfl (gz_isr.r _) ?_
  refine gz_iload_n gd_L_revive_3 rfl rfl ?_
  refine gz_virtual1 gd_L_revive_4 hC.1.house rfl rfl gs_L_revive_4 (Nat.le_of_ble_eq_true rfl) (Nat.le_of_ble_eq_true rfl) ?_
  refine h_revive hC hD hb hls hV.ji (by have := hV.pb (by omega); omega) (fun o ho hd => (hV.it.dn o ho hd).1) (fun v1 g1 M1 n1 nc1 ns1 hC hz => ?_) (fun e ci g1 M1 n1 nc1 ns1 hC hx hc => ?_)
  ·
    have hO1 := (hC.2.1.frame 113 (by omega)).trans hO
    refine gz_i2l gd_L_revive_7 ?_
    refine gz_lastore (i := 0) gd_L_revive_8 rfl hO1 rfl (by decide) (by decide) (by decide) ?_
    refine gz_goto (tgt := 18) gd_L_revive_9 (by decide) ?_
    refine gz_iconst (v := 0) gd_L_revive_18 (by decide) ?_
    refine gz_ireturn gd_L_revive_19 rfl rfl ?_
    rw [hz] at k
    exact k _ _ _ _ (wk_ok hC hS)
  ·
    simp only [List.mem_cons, List.mem_nil_iff, or_false, Prod.mk.injEq] at hc
    rcases hc with ⟨hc, rfl⟩ | ⟨hc, rfl⟩
    · refine GT.catch (ci := 8) (pre := []) (suf := [(0, 9, 15, 17)]) rfl hx rfl ⟨by decide, by decide⟩ (by decide) gw_195 gw_207 (fun y hy => ?_) ?_
      · cases hy
      · refine gz_astore_n gd_L_revive_12 rfl (Nat.le_of_ble_eq_true rfl) rfl (gz_isr.r _) ?_
        refine gz_iconst (v := 1) gd_L_revive_13 (by decide) ?_
        refine gz_ireturn gd_L_revive_14 rfl rfl ?_
        rw [hc] at k
        exact k _ _ _ _ (wk_x hC hS hO (by rw [hc]; decide))
    · refine GT.catch (ci := 10) (pre := [(0, 9, 12, 13)]) (suf := []) rfl hx rfl ⟨by decide, by decide⟩ (by decide) gw_197 gw_300 (fun y hy => ?_) ?_
      · simp only [List.mem_cons, List.mem_nil_iff, or_false] at hy
        rcases hy with rfl
        · exact Or.inr ⟨by decide, "java/lang/IndexOutOfBoundsException", gw_195, List.mem_of_getElem? (i := 6) rfl⟩
      · refine gz_astore_n gd_L_revive_15 rfl (Nat.le_of_ble_eq_true rfl) rfl (gz_isr.r _) ?_
        refine gz_iconst (v := 2) gd_L_revive_16 (by decide) ?_
        refine gz_ireturn gd_L_revive_17 rfl rfl ?_
        rw [hc] at k
        exact k _ _ _ _ (wk_x hC hS hO (by rw [hc]; decide))

theorem lw_move {l : Launch} {D : gzD} {K : gzK} {M : gzM} {n nc ns : Nat} {b : Nat} {v : gV} {g : gG} {T : CT} {q : Nat} {f : Nat → Value} (hC : RC M b v g T M n nc ns) (hD : RM D) (hb : b + 1000 ≤ 300000) (hls : l.stackTraces = false) (hV : IV T q) (hq : q < 512) (hS : SD M) (hO : M 113 = some (.inl (2, 1, f))) {x0 x1 : Int32} (k : ∀ M1 n nc ns, WK M b ((z_move T x0 x1).2) (if (z_move T x0 x1).1 = true then 1 else 0) M1 n nc ns → K (.inl (some (.int ((z_move T x0 x1).2).code))) M1 n nc ns) : GZ l P1 D F_L_move K 0 [some (.ref 3), some (.int x0), some (.int x1), some (.ref 113), none] [] M n nc ns := by
  refine gz_aload_n gd_L_move_0 rfl rfl (gz_isr.r _) ?_
  refine gz_iconst (v := 0) gd_L_move_1 (by decide) ?_
  refine gz_aload_n gd_L_move_2 rfl rfl (gz_isr.r _) ?_
  refine gz_iload_n gd_L_move_3 rfl rfl ?_
  refine gz_iload_n gd_L_move_4 rfl rfl ?_
  refine gz_virtual2 gd_L_move_5 hC.1.house rfl rfl gs_L_move_5 (Nat.le_of_ble_eq_true rfl) (Nat.le_of_ble_eq_true rfl) ?_
  refine h_move hC hD hb hls hV.ji hV.tl (by have := hV.pb (by omega); omega) (fun o p ho hp hs => (hV.it.sh o p ho hp hs).1) (fun o p ho hp => hV.it.ow o p ho hp (by omega)) (fun o ho hd => ⟨(hV.it.dn o ho hd).1, (hV.it.dn o ho hd).2.2⟩) (fun v1 g1 M1 n1 nc1 ns1 hC hz => ?_) (fun e ci g1 M1 n1 nc1 ns1 hC hx hc => ?_)
  ·
    have hO1 := (hC.2.1.frame 113 (by omega)).trans hO
    refine gz_if_eq (tgt := 15) gd_L_move_8 (by decide) (fun h8 => ?_) (fun h8 => ?_)
    ·
      replace h8 := bI_0.1 h8
      refine gz_lconst (v := 0) gd_L_move_15 (by decide) ?_
      refine gz_lastore (i := 0) gd_L_move_16 rfl hO1 rfl (by decide) (by decide) (by decide) ?_
      refine gz_goto (tgt := 28) gd_L_move_17 (by decide) ?_
      refine gz_iconst (v := 0) gd_L_move_28 (by decide) ?_
      refine gz_ireturn gd_L_move_29 rfl rfl ?_
      rw [hz] at k
      have hA := wk_ok (a := (if (z_move T x0 x1).1 = true then 1 else 0)) (f := f) hC hS
      rw [if_neg (bf h8)] at hA k
      exact k _ _ _ _ hA
    ·
      replace h8 := bI_n.1 h8
      refine gz_lconst (v := 1) gd_L_move_11 (by decide) ?_
      refine gz_goto (tgt := 16) gd_L_move_12 (by decide) ?_
      refine gz_lastore (i := 0) gd_L_move_16 rfl hO1 rfl (by decide) (by decide) (by decide) ?_
      refine gz_goto (tgt := 28) gd_L_move_17 (by decide) ?_
      refine gz_iconst (v := 0) gd_L_move_28 (by decide) ?_
      refine gz_ireturn gd_L_move_29 rfl rfl ?_
      rw [hz] at k
      have hA := wk_ok (a := (if (z_move T x0 x1).1 = true then 1 else 0)) (f := f) hC hS
      rw [if_pos h8] at hA k
      exact k _ _ _ _ hA
  ·
    simp only [List.mem_cons, List.mem_nil_iff, or_false, Prod.mk.injEq] at hc
    rcases hc with ⟨hc, rfl⟩ | ⟨hc, rfl⟩
    · refine GT.catch (ci := 8) (pre := []) (suf := [(0, 17, 24, 17)]) rfl hx rfl ⟨by decide, by decide⟩ (by decide) gw_195 gw_207 (fun y hy => ?_) ?_
      · cases hy
      · refine gz_astore gd_L_move_20 (Nat.le_of_ble_eq_true rfl) rfl (gz_isr.r _) ?_
        refine gz_iconst (v := 1) gd_L_move_22 (by decide) ?_
        refine gz_ireturn gd_L_move_23 rfl rfl ?_
        rw [hc] at k
        exact k _ _ _ _ (wk_x hC hS hO (by rw [hc]; decide))
    · refine GT.catch (ci := 10) (pre := [(0, 17, 20, 13)]) (suf := []) rfl hx rfl ⟨by decide, by decide⟩ (by decide) gw_197 gw_300 (fun y hy => ?_) ?_
      · simp only [List.mem_cons, List.mem_nil_iff, or_false] at hy
        rcases hy with rfl
        · exact Or.inr ⟨by decide, "java/lang/IndexOutOfBoundsException", gw_195, List.mem_of_getElem? (i := 6) rfl⟩
      · refine gz_astore gd_L_move_24 (Nat.le_of_ble_eq_true rfl) rfl (gz_isr.r _) ?_
        refine gz_iconst (v := 2) gd_L_move_26 (by decide) ?_
        refine gz_ireturn gd_L_move_27 rfl rfl ?_
        rw [hc] at k
        exact k _ _ _ _ (wk_x hC hS hO (by rw [hc]; decide))

theorem lw_deliver {l : Launch} {D : gzD} {K : gzK} {M : gzM} {n nc ns : Nat} {b : Nat} {v : gV} {g : gG} {T : CT} {q : Nat} {f : Nat → Value} (hC : RC M b v g T M n nc ns) (hD : RM D) (hb : b + 1000 ≤ 300000) (hls : l.stackTraces = false) (hV : IV T q) (hq : q < 512) (hS : SD M) (hO : M 113 = some (.inl (2, 1, f))) {x0 : Int32} (k : ∀ M1 n nc ns, WK M b ((z_deliver T x0).2) (if (z_deliver T x0).1 = true then 1 else 0) M1 n nc ns → K (.inl (some (.int ((z_deliver T x0).2).code))) M1 n nc ns) : GZ l P1 D F_L_deliver K 0 [some (.ref 3), some (.int x0), some (.ref 113), none] [] M n nc ns := by
  refine gz_aload_n gd_L_deliver_0 rfl rfl (gz_isr.r _) ?_
  refine gz_iconst (v := 0) gd_L_deliver_1 (by decide) ?_
  refine gz_aload_n gd_L_deliver_2 rfl rfl (gz_isr.r _) ?_
  refine gz_iload_n gd_L_deliver_3 rfl rfl ?_
  refine gz_virtual1 gd_L_deliver_4 hC.1.house rfl rfl gs_L_deliver_4 (Nat.le_of_ble_eq_true rfl) (Nat.le_of_ble_eq_true rfl) ?_
  refine h_deliver hC hD hb hls hV.ji hV.tl (by have := hV.pb (by omega); omega) (fun c _ => by have := hV.ww c; omega) (fun v1 g1 M1 n1 nc1 ns1 hC hz => ?_) (fun e ci g1 M1 n1 nc1 ns1 hC hx hc => ?_)
  ·
    have hO1 := (hC.2.1.frame 113 (by omega)).trans hO
    refine gz_if_eq (tgt := 14) gd_L_deliver_7 (by decide) (fun h7 => ?_) (fun h7 => ?_)
    ·
      replace h7 := bI_0.1 h7
      refine gz_lconst (v := 0) gd_L_deliver_14 (by decide) ?_
      refine gz_lastore (i := 0) gd_L_deliver_15 rfl hO1 rfl (by decide) (by decide) (by decide) ?_
      refine gz_goto (tgt := 22) gd_L_deliver_16 (by decide) ?_
      refine gz_iconst (v := 0) gd_L_deliver_22 (by decide) ?_
      refine gz_ireturn gd_L_deliver_23 rfl rfl ?_
      rw [hz] at k
      have hA := wk_ok (a := (if (z_deliver T x0).1 = true then 1 else 0)) (f := f) hC hS
      rw [if_neg (bf h7)] at hA k
      exact k _ _ _ _ hA
    ·
      replace h7 := bI_n.1 h7
      refine gz_lconst (v := 1) gd_L_deliver_10 (by decide) ?_
      refine gz_goto (tgt := 15) gd_L_deliver_11 (by decide) ?_
      refine gz_lastore (i := 0) gd_L_deliver_15 rfl hO1 rfl (by decide) (by decide) (by decide) ?_
      refine gz_goto (tgt := 22) gd_L_deliver_16 (by decide) ?_
      refine gz_iconst (v := 0) gd_L_deliver_22 (by decide) ?_
      refine gz_ireturn gd_L_deliver_23 rfl rfl ?_
      rw [hz] at k
      have hA := wk_ok (a := (if (z_deliver T x0).1 = true then 1 else 0)) (f := f) hC hS
      rw [if_pos h7] at hA k
      exact k _ _ _ _ hA
  ·
    simp only [List.mem_cons, List.mem_nil_iff, or_false, Prod.mk.injEq] at hc
    rcases hc with ⟨hc, rfl⟩
    · refine GT.catch (ci := 8) (pre := []) (suf := []) rfl hx rfl ⟨by decide, by decide⟩ (by decide) gw_195 gw_207 (fun y hy => ?_) ?_
      · cases hy
      · refine gz_astore_n gd_L_deliver_19 rfl (Nat.le_of_ble_eq_true rfl) rfl (gz_isr.r _) ?_
        refine gz_iconst (v := 1) gd_L_deliver_20 (by decide) ?_
        refine gz_ireturn gd_L_deliver_21 rfl rfl ?_
        rw [hc] at k
        exact k _ _ _ _ (wk_x hC hS hO (by rw [hc]; decide))

theorem lw_drop {l : Launch} {D : gzD} {K : gzK} {M : gzM} {n nc ns : Nat} {b : Nat} {v : gV} {g : gG} {T : CT} {q : Nat} {f : Nat → Value} (hC : RC M b v g T M n nc ns) (hD : RM D) (hb : b + 1000 ≤ 300000) (hls : l.stackTraces = false) (hV : IV T q) (hq : q < 512) (hS : SD M) (hO : M 113 = some (.inl (2, 1, f))) {x0 : Int32} (k : ∀ M1 n nc ns, WK M b ((z_drop T x0).2) (z_drop T x0).1.toInt64 M1 n nc ns → K (.inl (some (.int ((z_drop T x0).2).code))) M1 n nc ns) : GZ l P1 D F_L_drop K 0 [some (.ref 3), some (.int x0), some (.ref 113), none] [] M n nc ns := by
  refine gz_aload_n gd_L_drop_0 rfl rfl (gz_isr.r _) ?_
  refine gz_iconst (v := 0) gd_L_drop_1 (by decide) ?_
  refine gz_aload_n gd_L_drop_2 rfl rfl (gz_isr.r _) ?_
  refine gz_iload_n gd_L_drop_3 rfl rfl ?_
  refine gz_virtual1 gd_L_drop_4 hC.1.house rfl rfl gs_L_drop_4 (Nat.le_of_ble_eq_true rfl) (Nat.le_of_ble_eq_true rfl) ?_
  refine h_drop hC hD hb hls (fun v1 g1 M1 n1 nc1 ns1 hC hz => ?_) (fun e ci g1 M1 n1 nc1 ns1 hC hx hc => ?_)
  ·
    have hO1 := (hC.2.1.frame 113 (by omega)).trans hO
    refine gz_i2l gd_L_drop_7 ?_
    refine gz_lastore (i := 0) gd_L_drop_8 rfl hO1 rfl (by decide) (by decide) (by decide) ?_
    refine gz_goto (tgt := 15) gd_L_drop_9 (by decide) ?_
    refine gz_iconst (v := 0) gd_L_drop_15 (by decide) ?_
    refine gz_ireturn gd_L_drop_16 rfl rfl ?_
    rw [hz] at k
    exact k _ _ _ _ (wk_ok hC hS)
  ·
    simp only [List.mem_cons, List.mem_nil_iff, or_false, Prod.mk.injEq] at hc
    rcases hc with ⟨hc, rfl⟩
    · refine GT.catch (ci := 8) (pre := []) (suf := []) rfl hx rfl ⟨by decide, by decide⟩ (by decide) gw_195 gw_207 (fun y hy => ?_) ?_
      · cases hy
      · refine gz_astore_n gd_L_drop_12 rfl (Nat.le_of_ble_eq_true rfl) rfl (gz_isr.r _) ?_
        refine gz_iconst (v := 1) gd_L_drop_13 (by decide) ?_
        refine gz_ireturn gd_L_drop_14 rfl rfl ?_
        rw [hc] at k
        exact k _ _ _ _ (wk_x hC hS hO (by rw [hc]; decide))

theorem lw_twin {l : Launch} {D : gzD} {K : gzK} {M : gzM} {n nc ns : Nat} {b : Nat} {v : gV} {g : gG} {T : CT} {q : Nat} {f : Nat → Value} (hC : RC M b v g T M n nc ns) (hD : RM D) (hb : b + 1000 ≤ 300000) (hls : l.stackTraces = false) (hV : IV T q) (hq : q < 512) (hS : SD M) (hO : M 113 = some (.inl (2, 1, f))) {x0 : Int32} (k : ∀ M1 n nc ns, WK M b ((z_twin T x0).2) (z_twin T x0).1.toInt64 M1 n nc ns → K (.inl (some (.int ((z_twin T x0).2).code))) M1 n nc ns) : GZ l P1 D F_L_twin K 0 [some (.ref 3), some (.int x0), some (.ref 113), none] [] M n nc ns := by
  refine gz_aload_n gd_L_twin_0 rfl rfl (gz_isr.r _) ?_
  refine gz_iconst (v := 0) gd_L_twin_1 (by decide) ?_
  refine gz_aload_n gd_L_twin_2 rfl rfl (gz_isr.r _) ?_
  refine gz_iload_n gd_L_twin_3 rfl rfl ?_
  refine gz_virtual1 gd_L_twin_4 hC.1.house rfl rfl gs_L_twin_4 (Nat.le_of_ble_eq_true rfl) (Nat.le_of_ble_eq_true rfl) ?_
  refine h_twin hC hD hb hls hV.ji.1 (fun v1 g1 M1 n1 nc1 ns1 hC hz => ?_) (fun e ci g1 M1 n1 nc1 ns1 hC hx hc => ?_)
  ·
    have hO1 := (hC.2.1.frame 113 (by omega)).trans hO
    refine gz_i2l gd_L_twin_7 ?_
    refine gz_lastore (i := 0) gd_L_twin_8 rfl hO1 rfl (by decide) (by decide) (by decide) ?_
    refine gz_goto (tgt := 18) gd_L_twin_9 (by decide) ?_
    refine gz_iconst (v := 0) gd_L_twin_18 (by decide) ?_
    refine gz_ireturn gd_L_twin_19 rfl rfl ?_
    rw [hz] at k
    exact k _ _ _ _ (wk_ok hC hS)
  ·
    simp only [List.mem_cons, List.mem_nil_iff, or_false, Prod.mk.injEq] at hc
    rcases hc with ⟨hc, rfl⟩ | ⟨hc, rfl⟩
    · refine GT.catch (ci := 8) (pre := []) (suf := [(0, 9, 15, 17)]) rfl hx rfl ⟨by decide, by decide⟩ (by decide) gw_195 gw_207 (fun y hy => ?_) ?_
      · cases hy
      · refine gz_astore_n gd_L_twin_12 rfl (Nat.le_of_ble_eq_true rfl) rfl (gz_isr.r _) ?_
        refine gz_iconst (v := 1) gd_L_twin_13 (by decide) ?_
        refine gz_ireturn gd_L_twin_14 rfl rfl ?_
        rw [hc] at k
        exact k _ _ _ _ (wk_x hC hS hO (by rw [hc]; decide))
    · refine GT.catch (ci := 10) (pre := [(0, 9, 12, 13)]) (suf := []) rfl hx rfl ⟨by decide, by decide⟩ (by decide) gw_197 gw_300 (fun y hy => ?_) ?_
      · simp only [List.mem_cons, List.mem_nil_iff, or_false] at hy
        rcases hy with rfl
        · exact Or.inr ⟨by decide, "java/lang/IndexOutOfBoundsException", gw_195, List.mem_of_getElem? (i := 6) rfl⟩
      · refine gz_astore_n gd_L_twin_15 rfl (Nat.le_of_ble_eq_true rfl) rfl (gz_isr.r _) ?_
        refine gz_iconst (v := 2) gd_L_twin_16 (by decide) ?_
        refine gz_ireturn gd_L_twin_17 rfl rfl ?_
        rw [hc] at k
        exact k _ _ _ _ (wk_x hC hS hO (by rw [hc]; decide))

theorem lw_resend {l : Launch} {D : gzD} {K : gzK} {M : gzM} {n nc ns : Nat} {b : Nat} {v : gV} {g : gG} {T : CT} {q : Nat} {f : Nat → Value} (hC : RC M b v g T M n nc ns) (hD : RM D) (hb : b + 1000 ≤ 300000) (hls : l.stackTraces = false) (hV : IV T q) (hq : q < 512) (hS : SD M) (hO : M 113 = some (.inl (2, 1, f))) {x0 : Int32} (k : ∀ M1 n nc ns, WK M b ((z_resend T x0).2) (z_resend T x0).1.toInt64 M1 n nc ns → K (.inl (some (.int ((z_resend T x0).2).code))) M1 n nc ns) : GZ l P1 D F_L_resend K 0 [some (.ref 3), some (.int x0), some (.ref 113), none] [] M n nc ns := by
  refine gz_aload_n gd_L_resend_0 rfl rfl (gz_isr.r _) ?_
  refine gz_iconst (v := 0) gd_L_resend_1 (by decide) ?_
  refine gz_aload_n gd_L_resend_2 rfl rfl (gz_isr.r _) ?_
  refine gz_iload_n gd_L_resend_3 rfl rfl ?_
  refine gz_virtual1 gd_L_resend_4 hC.1.house rfl rfl gs_L_resend_4 (Nat.le_of_ble_eq_true rfl) (Nat.le_of_ble_eq_true rfl) ?_
  refine h_resend hC hD hb hls hV.ji.1 (fun v1 g1 M1 n1 nc1 ns1 hC hz => ?_) (fun e ci g1 M1 n1 nc1 ns1 hC hx hc => ?_)
  ·
    have hO1 := (hC.2.1.frame 113 (by omega)).trans hO
    refine gz_i2l gd_L_resend_7 ?_
    refine gz_lastore (i := 0) gd_L_resend_8 rfl hO1 rfl (by decide) (by decide) (by decide) ?_
    refine gz_goto (tgt := 18) gd_L_resend_9 (by decide) ?_
    refine gz_iconst (v := 0) gd_L_resend_18 (by decide) ?_
    refine gz_ireturn gd_L_resend_19 rfl rfl ?_
    rw [hz] at k
    exact k _ _ _ _ (wk_ok hC hS)
  ·
    simp only [List.mem_cons, List.mem_nil_iff, or_false, Prod.mk.injEq] at hc
    rcases hc with ⟨hc, rfl⟩ | ⟨hc, rfl⟩
    · refine GT.catch (ci := 8) (pre := []) (suf := [(0, 9, 15, 17)]) rfl hx rfl ⟨by decide, by decide⟩ (by decide) gw_195 gw_207 (fun y hy => ?_) ?_
      · cases hy
      · refine gz_astore_n gd_L_resend_12 rfl (Nat.le_of_ble_eq_true rfl) rfl (gz_isr.r _) ?_
        refine gz_iconst (v := 1) gd_L_resend_13 (by decide) ?_
        refine gz_ireturn gd_L_resend_14 rfl rfl ?_
        rw [hc] at k
        exact k _ _ _ _ (wk_x hC hS hO (by rw [hc]; decide))
    · refine GT.catch (ci := 10) (pre := [(0, 9, 12, 13)]) (suf := []) rfl hx rfl ⟨by decide, by decide⟩ (by decide) gw_197 gw_300 (fun y hy => ?_) ?_
      · simp only [List.mem_cons, List.mem_nil_iff, or_false] at hy
        rcases hy with rfl
        · exact Or.inr ⟨by decide, "java/lang/IndexOutOfBoundsException", gw_195, List.mem_of_getElem? (i := 6) rfl⟩
      · refine gz_astore_n gd_L_resend_15 rfl (Nat.le_of_ble_eq_true rfl) rfl (gz_isr.r _) ?_
        refine gz_iconst (v := 2) gd_L_resend_16 (by decide) ?_
        refine gz_ireturn gd_L_resend_17 rfl rfl ?_
        rw [hc] at k
        exact k _ _ _ _ (wk_x hC hS hO (by rw [hc]; decide))

theorem lw_letter {l : Launch} {D : gzD} {K : gzK} {M : gzM} {n nc ns : Nat} {b : Nat} {v : gV} {g : gG} {T : CT} {q : Nat} {f : Nat → Value} (hC : RC M b v g T M n nc ns) (hD : RM D) (hb : b + 1000 ≤ 300000) (hls : l.stackTraces = false) (hV : IV T q) (hq : q < 512) (hS : SD M) (hO : M 113 = some (.inl (2, 1, f))) {x0 x1 : Int32} (k : ∀ M1 n nc ns, WK M b ((z_letter T x0 x1).2) (z_letter T x0 x1).1.toInt64 M1 n nc ns → K (.inl (some (.int ((z_letter T x0 x1).2).code))) M1 n nc ns) : GZ l P1 D F_L_letter K 0 [some (.ref 3), some (.int x0), some (.int x1), some (.ref 113), none] [] M n nc ns := by
  refine gz_aload_n gd_L_letter_0 rfl rfl (gz_isr.r _) ?_
  refine gz_iconst (v := 0) gd_L_letter_1 (by decide) ?_
  refine gz_aload_n gd_L_letter_2 rfl rfl (gz_isr.r _) ?_
  refine gz_iload_n gd_L_letter_3 rfl rfl ?_
  refine gz_iload_n gd_L_letter_4 rfl rfl ?_
  refine gz_virtual2 gd_L_letter_5 hC.1.house rfl rfl gs_L_letter_5 (Nat.le_of_ble_eq_true rfl) (Nat.le_of_ble_eq_true rfl) ?_
  refine h_letter hC hD hb hls hV.ji.1 hV.n0 (fun v1 g1 M1 n1 nc1 ns1 hC hz => ?_) (fun e ci g1 M1 n1 nc1 ns1 hC hx hc => ?_)
  ·
    have hO1 := (hC.2.1.frame 113 (by omega)).trans hO
    refine gz_i2l gd_L_letter_8 ?_
    refine gz_lastore (i := 0) gd_L_letter_9 rfl hO1 rfl (by decide) (by decide) (by decide) ?_
    refine gz_goto (tgt := 21) gd_L_letter_10 (by decide) ?_
    refine gz_iconst (v := 0) gd_L_letter_21 (by decide) ?_
    refine gz_ireturn gd_L_letter_22 rfl rfl ?_
    rw [hz] at k
    exact k _ _ _ _ (wk_ok hC hS)
  ·
    simp only [List.mem_cons, List.mem_nil_iff, or_false, Prod.mk.injEq] at hc
    rcases hc with ⟨hc, rfl⟩ | ⟨hc, rfl⟩
    · refine GT.catch (ci := 8) (pre := []) (suf := [(0, 10, 17, 15)]) rfl hx rfl ⟨by decide, by decide⟩ (by decide) gw_195 gw_207 (fun y hy => ?_) ?_
      · cases hy
      · refine gz_astore gd_L_letter_13 (Nat.le_of_ble_eq_true rfl) rfl (gz_isr.r _) ?_
        refine gz_iconst (v := 1) gd_L_letter_15 (by decide) ?_
        refine gz_ireturn gd_L_letter_16 rfl rfl ?_
        rw [hc] at k
        exact k _ _ _ _ (wk_x hC hS hO (by rw [hc]; decide))
    · refine GT.catch (ci := 9) (pre := [(0, 10, 13, 13)]) (suf := []) rfl hx rfl ⟨by decide, by decide⟩ (by decide) gw_196 gw_284 (fun y hy => ?_) ?_
      · simp only [List.mem_cons, List.mem_nil_iff, or_false] at hy
        rcases hy with rfl
        · exact Or.inr ⟨by decide, "java/lang/IndexOutOfBoundsException", gw_195, List.mem_of_getElem? (i := 3) rfl⟩
      · refine gz_astore gd_L_letter_17 (Nat.le_of_ble_eq_true rfl) rfl (gz_isr.r _) ?_
        refine gz_iconst (v := 2) gd_L_letter_19 (by decide) ?_
        refine gz_ireturn gd_L_letter_20 rfl rfl ?_
        rw [hc] at k
        exact k _ _ _ _ (wk_x hC hS hO (by rw [hc]; decide))

theorem lw_sum {l : Launch} {D : gzD} {K : gzK} {M : gzM} {n nc ns : Nat} {b : Nat} {v : gV} {g : gG} {T : CT} {q : Nat} {f : Nat → Value} (hC : RC M b v g T M n nc ns) (hD : RM D) (hb : b + 1000 ≤ 300000) (hls : l.stackTraces = false) (hV : IV T q) (hq : q < 512) (hS : SD M) (hO : M 113 = some (.inl (2, 1, f))) {x0 x1 : Int32} (k : ∀ M1 n nc ns, WK M b ((z_sum T x0 x1).2) (z_sum T x0 x1).1 M1 n nc ns → K (.inl (some (.int ((z_sum T x0 x1).2).code))) M1 n nc ns) : GZ l P1 D F_L_sum K 0 [some (.ref 3), some (.int x0), some (.int x1), some (.ref 113), none] [] M n nc ns := by
  refine gz_aload_n gd_L_sum_0 rfl rfl (gz_isr.r _) ?_
  refine gz_iconst (v := 0) gd_L_sum_1 (by decide) ?_
  refine gz_aload_n gd_L_sum_2 rfl rfl (gz_isr.r _) ?_
  refine gz_iload_n gd_L_sum_3 rfl rfl ?_
  refine gz_iload_n gd_L_sum_4 rfl rfl ?_
  refine gz_virtual2 gd_L_sum_5 hC.1.house rfl rfl gs_L_sum_5 (Nat.le_of_ble_eq_true rfl) (Nat.le_of_ble_eq_true rfl) ?_
  refine h_sum hC hD hb hls hV.ji.1 (fun v1 g1 M1 n1 nc1 ns1 hC hz => ?_) (fun e ci g1 M1 n1 nc1 ns1 hC hx hc => ?_)
  ·
    have hO1 := (hC.2.1.frame 113 (by omega)).trans hO
    refine gz_lastore (i := 0) gd_L_sum_8 rfl hO1 rfl (by decide) (by decide) (by decide) ?_
    refine gz_goto (tgt := 16) gd_L_sum_9 (by decide) ?_
    refine gz_iconst (v := 0) gd_L_sum_16 (by decide) ?_
    refine gz_ireturn gd_L_sum_17 rfl rfl ?_
    rw [hz] at k
    exact k _ _ _ _ (wk_ok hC hS)
  ·
    simp only [List.mem_cons, List.mem_nil_iff, or_false, Prod.mk.injEq] at hc
    rcases hc with ⟨hc, rfl⟩
    · refine GT.catch (ci := 8) (pre := []) (suf := []) rfl hx rfl ⟨by decide, by decide⟩ (by decide) gw_195 gw_207 (fun y hy => ?_) ?_
      · cases hy
      · refine gz_astore gd_L_sum_12 (Nat.le_of_ble_eq_true rfl) rfl (gz_isr.r _) ?_
        refine gz_iconst (v := 1) gd_L_sum_14 (by decide) ?_
        refine gz_ireturn gd_L_sum_15 rfl rfl ?_
        rw [hc] at k
        exact k _ _ _ _ (wk_x hC hS hO (by rw [hc]; decide))

theorem lw_included {l : Launch} {D : gzD} {K : gzK} {M : gzM} {n nc ns : Nat} {b : Nat} {v : gV} {g : gG} {T : CT} {q : Nat} {f : Nat → Value} (hC : RC M b v g T M n nc ns) (hD : RM D) (hb : b + 1000 ≤ 300000) (hls : l.stackTraces = false) (hV : IV T q) (hq : q < 512) (hS : SD M) (hO : M 113 = some (.inl (2, 1, f))) {x0 x1 : Int32} (k : ∀ M1 n nc ns, WK M b ((z_included T x0 x1).2) (z_included T x0 x1).1.toInt64 M1 n nc ns → K (.inl (some (.int ((z_included T x0 x1).2).code))) M1 n nc ns) : GZ l P1 D F_L_included K 0 [some (.ref 3), some (.int x0), some (.int x1), some (.ref 113), none] [] M n nc ns := by
  refine gz_aload_n gd_L_included_0 rfl rfl (gz_isr.r _) ?_
  refine gz_iconst (v := 0) gd_L_included_1 (by decide) ?_
  refine gz_aload_n gd_L_included_2 rfl rfl (gz_isr.r _) ?_
  refine gz_iload_n gd_L_included_3 rfl rfl ?_
  refine gz_iload_n gd_L_included_4 rfl rfl ?_
  refine gz_virtual2 gd_L_included_5 hC.1.house rfl rfl gs_L_included_5 (Nat.le_of_ble_eq_true rfl) (Nat.le_of_ble_eq_true rfl) ?_
  refine h_included hC hD hb hls hV.ji.1 hV.n0 (fun v1 g1 M1 n1 nc1 ns1 hC hz => ?_) (fun e ci g1 M1 n1 nc1 ns1 hC hx hc => ?_)
  ·
    have hO1 := (hC.2.1.frame 113 (by omega)).trans hO
    refine gz_i2l gd_L_included_8 ?_
    refine gz_lastore (i := 0) gd_L_included_9 rfl hO1 rfl (by decide) (by decide) (by decide) ?_
    refine gz_goto (tgt := 17) gd_L_included_10 (by decide) ?_
    refine gz_iconst (v := 0) gd_L_included_17 (by decide) ?_
    refine gz_ireturn gd_L_included_18 rfl rfl ?_
    rw [hz] at k
    exact k _ _ _ _ (wk_ok hC hS)
  ·
    simp only [List.mem_cons, List.mem_nil_iff, or_false, Prod.mk.injEq] at hc
    rcases hc with ⟨hc, rfl⟩
    · refine GT.catch (ci := 8) (pre := []) (suf := []) rfl hx rfl ⟨by decide, by decide⟩ (by decide) gw_195 gw_207 (fun y hy => ?_) ?_
      · cases hy
      · refine gz_astore gd_L_included_13 (Nat.le_of_ble_eq_true rfl) rfl (gz_isr.r _) ?_
        refine gz_iconst (v := 1) gd_L_included_15 (by decide) ?_
        refine gz_ireturn gd_L_included_16 rfl rfl ?_
        rw [hc] at k
        exact k _ _ _ _ (wk_x hC hS hO (by rw [hc]; decide))

theorem lw_through {l : Launch} {D : gzD} {K : gzK} {M : gzM} {n nc ns : Nat} {b : Nat} {v : gV} {g : gG} {T : CT} {q : Nat} {f : Nat → Value} (hC : RC M b v g T M n nc ns) (hD : RM D) (hb : b + 1000 ≤ 300000) (hls : l.stackTraces = false) (hV : IV T q) (hq : q < 512) (hS : SD M) (hO : M 113 = some (.inl (2, 1, f))) {x0 x1 : Int32} (k : ∀ M1 n nc ns, WK M b ((z_through T x0 x1).2) (z_through T x0 x1).1.toInt64 M1 n nc ns → K (.inl (some (.int ((z_through T x0 x1).2).code))) M1 n nc ns) : GZ l P1 D F_L_through K 0 [some (.ref 3), some (.int x0), some (.int x1), some (.ref 113), none] [] M n nc ns := by
  refine gz_aload_n gd_L_through_0 rfl rfl (gz_isr.r _) ?_
  refine gz_iconst (v := 0) gd_L_through_1 (by decide) ?_
  refine gz_aload_n gd_L_through_2 rfl rfl (gz_isr.r _) ?_
  refine gz_iload_n gd_L_through_3 rfl rfl ?_
  refine gz_iload_n gd_L_through_4 rfl rfl ?_
  refine gz_virtual2 gd_L_through_5 hC.1.house rfl rfl gs_L_through_5 (Nat.le_of_ble_eq_true rfl) (Nat.le_of_ble_eq_true rfl) ?_
  refine h_through hC hD hb hls (fun v1 g1 M1 n1 nc1 ns1 hC hz => ?_) (fun e ci g1 M1 n1 nc1 ns1 hC hx hc => ?_)
  ·
    have hO1 := (hC.2.1.frame 113 (by omega)).trans hO
    refine gz_i2l gd_L_through_8 ?_
    refine gz_lastore (i := 0) gd_L_through_9 rfl hO1 rfl (by decide) (by decide) (by decide) ?_
    refine gz_goto (tgt := 17) gd_L_through_10 (by decide) ?_
    refine gz_iconst (v := 0) gd_L_through_17 (by decide) ?_
    refine gz_ireturn gd_L_through_18 rfl rfl ?_
    rw [hz] at k
    exact k _ _ _ _ (wk_ok hC hS)
  ·
    simp only [List.mem_cons, List.mem_nil_iff, or_false, Prod.mk.injEq] at hc
    rcases hc with ⟨hc, rfl⟩
    · refine GT.catch (ci := 8) (pre := []) (suf := []) rfl hx rfl ⟨by decide, by decide⟩ (by decide) gw_195 gw_207 (fun y hy => ?_) ?_
      · cases hy
      · refine gz_astore gd_L_through_13 (Nat.le_of_ble_eq_true rfl) rfl (gz_isr.r _) ?_
        refine gz_iconst (v := 1) gd_L_through_15 (by decide) ?_
        refine gz_ireturn gd_L_through_16 rfl rfl ?_
        rw [hc] at k
        exact k _ _ _ _ (wk_x hC hS hO (by rw [hc]; decide))

theorem lw_held {l : Launch} {D : gzD} {K : gzK} {M : gzM} {n nc ns : Nat} {b : Nat} {v : gV} {g : gG} {T : CT} {q : Nat} {f : Nat → Value} (hC : RC M b v g T M n nc ns) (hD : RM D) (hb : b + 1000 ≤ 300000) (hls : l.stackTraces = false) (hV : IV T q) (hq : q < 512) (hS : SD M) (hO : M 113 = some (.inl (2, 1, f))) {x0 x1 x2 : Int32} (k : ∀ M1 n nc ns, WK M b ((z_held T x0 x1 x2).2) (z_held T x0 x1 x2).1 M1 n nc ns → K (.inl (some (.int ((z_held T x0 x1 x2).2).code))) M1 n nc ns) : GZ l P1 D F_L_held K 0 [some (.ref 3), some (.int x0), some (.int x1), some (.int x2), some (.ref 113), none] [] M n nc ns := by
  refine gz_aload gd_L_held_0 rfl (gz_isr.r _) ?_
  refine gz_iconst (v := 0) gd_L_held_2 (by decide) ?_
  refine gz_aload_n gd_L_held_3 rfl rfl (gz_isr.r _) ?_
  refine gz_iload_n gd_L_held_4 rfl rfl ?_
  refine gz_iload_n gd_L_held_5 rfl rfl ?_
  refine gz_iload_n gd_L_held_6 rfl rfl ?_
  refine gz_virtual3 gd_L_held_7 hC.1.house rfl rfl gs_L_held_7 (Nat.le_of_ble_eq_true rfl) (Nat.le_of_ble_eq_true rfl) ?_
  refine h_held hC hD hb hls hV.ji.1 (fun v1 g1 M1 n1 nc1 ns1 hC hz => ?_) (fun e ci g1 M1 n1 nc1 ns1 hC hx hc => ?_)
  ·
    have hO1 := (hC.2.1.frame 113 (by omega)).trans hO
    refine gz_lastore (i := 0) gd_L_held_10 rfl hO1 rfl (by decide) (by decide) (by decide) ?_
    refine gz_goto (tgt := 18) gd_L_held_11 (by decide) ?_
    refine gz_iconst (v := 0) gd_L_held_18 (by decide) ?_
    refine gz_ireturn gd_L_held_19 rfl rfl ?_
    rw [hz] at k
    exact k _ _ _ _ (wk_ok hC hS)
  ·
    simp only [List.mem_cons, List.mem_nil_iff, or_false, Prod.mk.injEq] at hc
    rcases hc with ⟨hc, rfl⟩
    · refine GT.catch (ci := 8) (pre := []) (suf := []) rfl hx rfl ⟨by decide, by decide⟩ (by decide) gw_195 gw_207 (fun y hy => ?_) ?_
      · cases hy
      · refine gz_astore gd_L_held_14 (Nat.le_of_ble_eq_true rfl) rfl (gz_isr.r _) ?_
        refine gz_iconst (v := 1) gd_L_held_16 (by decide) ?_
        refine gz_ireturn gd_L_held_17 rfl rfl ?_
        rw [hc] at k
        exact k _ _ _ _ (wk_x hC hS hO (by rw [hc]; decide))

theorem lw_marked {l : Launch} {D : gzD} {K : gzK} {M : gzM} {n nc ns : Nat} {b : Nat} {v : gV} {g : gG} {T : CT} {q : Nat} {f : Nat → Value} (hC : RC M b v g T M n nc ns) (hD : RM D) (hb : b + 1000 ≤ 300000) (hls : l.stackTraces = false) (hV : IV T q) (hq : q < 512) (hS : SD M) (hO : M 113 = some (.inl (2, 1, f))) {x0 : Int32} (k : ∀ M1 n nc ns, WK M b ((z_marked T x0).2) (z_marked T x0).1.toInt64 M1 n nc ns → K (.inl (some (.int ((z_marked T x0).2).code))) M1 n nc ns) : GZ l P1 D F_L_marked K 0 [some (.ref 3), some (.int x0), some (.ref 113), none] [] M n nc ns := by
  refine gz_aload_n gd_L_marked_0 rfl rfl (gz_isr.r _) ?_
  refine gz_iconst (v := 0) gd_L_marked_1 (by decide) ?_
  refine gz_aload_n gd_L_marked_2 rfl rfl (gz_isr.r _) ?_
  refine gz_iload_n gd_L_marked_3 rfl rfl ?_
  refine gz_virtual1 gd_L_marked_4 hC.1.house rfl rfl gs_L_marked_4 (Nat.le_of_ble_eq_true rfl) (Nat.le_of_ble_eq_true rfl) ?_
  refine h_marked hC hD hb hls hV.ji.1 hV.m0 (fun v1 g1 M1 n1 nc1 ns1 hC hz => ?_) (fun e ci g1 M1 n1 nc1 ns1 hC hx hc => ?_)
  ·
    have hO1 := (hC.2.1.frame 113 (by omega)).trans hO
    refine gz_i2l gd_L_marked_7 ?_
    refine gz_lastore (i := 0) gd_L_marked_8 rfl hO1 rfl (by decide) (by decide) (by decide) ?_
    refine gz_goto (tgt := 15) gd_L_marked_9 (by decide) ?_
    refine gz_iconst (v := 0) gd_L_marked_15 (by decide) ?_
    refine gz_ireturn gd_L_marked_16 rfl rfl ?_
    rw [hz] at k
    exact k _ _ _ _ (wk_ok hC hS)
  ·
    simp only [List.mem_cons, List.mem_nil_iff, or_false, Prod.mk.injEq] at hc
    rcases hc with ⟨hc, rfl⟩
    · refine GT.catch (ci := 8) (pre := []) (suf := []) rfl hx rfl ⟨by decide, by decide⟩ (by decide) gw_195 gw_207 (fun y hy => ?_) ?_
      · cases hy
      · refine gz_astore_n gd_L_marked_12 rfl (Nat.le_of_ble_eq_true rfl) rfl (gz_isr.r _) ?_
        refine gz_iconst (v := 1) gd_L_marked_13 (by decide) ?_
        refine gz_ireturn gd_L_marked_14 rfl rfl ?_
        rw [hc] at k
        exact k _ _ _ _ (wk_x hC hS hO (by rw [hc]; decide))

theorem lw_office {l : Launch} {D : gzD} {K : gzK} {M : gzM} {n nc ns : Nat} {b : Nat} {v : gV} {g : gG} {T : CT} {q : Nat} {f : Nat → Value} (hC : RC M b v g T M n nc ns) (hD : RM D) (hb : b + 1000 ≤ 300000) (hls : l.stackTraces = false) (hV : IV T q) (hq : q < 512) (hS : SD M) (hO : M 113 = some (.inl (2, 1, f))) {x0 x1 : Int32} (k : ∀ M1 n nc ns, WK M b ((z_office T x0 x1).2) (z_office T x0 x1).1.toInt64 M1 n nc ns → K (.inl (some (.int ((z_office T x0 x1).2).code))) M1 n nc ns) : GZ l P1 D F_L_office K 0 [some (.ref 3), some (.int x0), some (.int x1), some (.ref 113), none] [] M n nc ns := by
  refine gz_aload_n gd_L_office_0 rfl rfl (gz_isr.r _) ?_
  refine gz_iconst (v := 0) gd_L_office_1 (by decide) ?_
  refine gz_aload_n gd_L_office_2 rfl rfl (gz_isr.r _) ?_
  refine gz_iload_n gd_L_office_3 rfl rfl ?_
  refine gz_iload_n gd_L_office_4 rfl rfl ?_
  refine gz_virtual2 gd_L_office_5 hC.1.house rfl rfl gs_L_office_5 (Nat.le_of_ble_eq_true rfl) (Nat.le_of_ble_eq_true rfl) ?_
  refine h_office hC hD hb hls hV.ji.1 (fun v1 g1 M1 n1 nc1 ns1 hC hz => ?_) (fun e ci g1 M1 n1 nc1 ns1 hC hx hc => ?_)
  ·
    have hO1 := (hC.2.1.frame 113 (by omega)).trans hO
    refine gz_i2l gd_L_office_8 ?_
    refine gz_lastore (i := 0) gd_L_office_9 rfl hO1 rfl (by decide) (by decide) (by decide) ?_
    refine gz_goto (tgt := 21) gd_L_office_10 (by decide) ?_
    refine gz_iconst (v := 0) gd_L_office_21 (by decide) ?_
    refine gz_ireturn gd_L_office_22 rfl rfl ?_
    rw [hz] at k
    exact k _ _ _ _ (wk_ok hC hS)
  ·
    simp only [List.mem_cons, List.mem_nil_iff, or_false, Prod.mk.injEq] at hc
    rcases hc with ⟨hc, rfl⟩ | ⟨hc, rfl⟩
    · refine GT.catch (ci := 8) (pre := []) (suf := [(0, 10, 17, 15)]) rfl hx rfl ⟨by decide, by decide⟩ (by decide) gw_195 gw_207 (fun y hy => ?_) ?_
      · cases hy
      · refine gz_astore gd_L_office_13 (Nat.le_of_ble_eq_true rfl) rfl (gz_isr.r _) ?_
        refine gz_iconst (v := 1) gd_L_office_15 (by decide) ?_
        refine gz_ireturn gd_L_office_16 rfl rfl ?_
        rw [hc] at k
        exact k _ _ _ _ (wk_x hC hS hO (by rw [hc]; decide))
    · refine GT.catch (ci := 9) (pre := [(0, 10, 13, 13)]) (suf := []) rfl hx rfl ⟨by decide, by decide⟩ (by decide) gw_196 gw_284 (fun y hy => ?_) ?_
      · simp only [List.mem_cons, List.mem_nil_iff, or_false] at hy
        rcases hy with rfl
        · exact Or.inr ⟨by decide, "java/lang/IndexOutOfBoundsException", gw_195, List.mem_of_getElem? (i := 3) rfl⟩
      · refine gz_astore gd_L_office_17 (Nat.le_of_ble_eq_true rfl) rfl (gz_isr.r _) ?_
        refine gz_iconst (v := 2) gd_L_office_19 (by decide) ?_
        refine gz_ireturn gd_L_office_20 rfl rfl ?_
        rw [hc] at k
        exact k _ _ _ _ (wk_x hC hS hO (by rw [hc]; decide))

theorem lw_newest {l : Launch} {D : gzD} {K : gzK} {M : gzM} {n nc ns : Nat} {b : Nat} {v : gV} {g : gG} {T : CT} {q : Nat} {f : Nat → Value} (hC : RC M b v g T M n nc ns) (hD : RM D) (hb : b + 1000 ≤ 300000) (hls : l.stackTraces = false) (hV : IV T q) (hq : q < 512) (hS : SD M) (hO : M 113 = some (.inl (2, 1, f))) {x0 : Int32} (k : ∀ M1 n nc ns, WK M b ((z_newest T x0).2) (z_newest T x0).1.toInt64 M1 n nc ns → K (.inl (some (.int ((z_newest T x0).2).code))) M1 n nc ns) : GZ l P1 D F_L_newest K 0 [some (.ref 3), some (.int x0), some (.ref 113), none] [] M n nc ns := by
  refine gz_aload_n gd_L_newest_0 rfl rfl (gz_isr.r _) ?_
  refine gz_iconst (v := 0) gd_L_newest_1 (by decide) ?_
  refine gz_aload_n gd_L_newest_2 rfl rfl (gz_isr.r _) ?_
  refine gz_iload_n gd_L_newest_3 rfl rfl ?_
  refine gz_virtual1 gd_L_newest_4 hC.1.house rfl rfl gs_L_newest_4 (Nat.le_of_ble_eq_true rfl) (Nat.le_of_ble_eq_true rfl) ?_
  refine h_newest hC hD hb hls hV.ji.1 hV.n0 (fun v1 g1 M1 n1 nc1 ns1 hC hz => ?_) (fun e ci g1 M1 n1 nc1 ns1 hC hx hc => ?_)
  ·
    have hO1 := (hC.2.1.frame 113 (by omega)).trans hO
    refine gz_i2l gd_L_newest_7 ?_
    refine gz_lastore (i := 0) gd_L_newest_8 rfl hO1 rfl (by decide) (by decide) (by decide) ?_
    refine gz_goto (tgt := 15) gd_L_newest_9 (by decide) ?_
    refine gz_iconst (v := 0) gd_L_newest_15 (by decide) ?_
    refine gz_ireturn gd_L_newest_16 rfl rfl ?_
    rw [hz] at k
    exact k _ _ _ _ (wk_ok hC hS)
  ·
    simp only [List.mem_cons, List.mem_nil_iff, or_false, Prod.mk.injEq] at hc
    rcases hc with ⟨hc, rfl⟩
    · refine GT.catch (ci := 8) (pre := []) (suf := []) rfl hx rfl ⟨by decide, by decide⟩ (by decide) gw_195 gw_207 (fun y hy => ?_) ?_
      · cases hy
      · refine gz_astore_n gd_L_newest_12 rfl (Nat.le_of_ble_eq_true rfl) rfl (gz_isr.r _) ?_
        refine gz_iconst (v := 1) gd_L_newest_13 (by decide) ?_
        refine gz_ireturn gd_L_newest_14 rfl rfl ?_
        rw [hc] at k
        exact k _ _ _ _ (wk_x hC hS hO (by rw [hc]; decide))

theorem lw_seats {l : Launch} {D : gzD} {K : gzK} {M : gzM} {n nc ns : Nat} {b : Nat} {v : gV} {g : gG} {T : CT} {q : Nat} {f : Nat → Value} (hC : RC M b v g T M n nc ns) (hD : RM D) (hb : b + 1000 ≤ 300000) (hls : l.stackTraces = false) (hV : IV T q) (hq : q < 512) (hS : SD M) (hO : M 113 = some (.inl (2, 1, f))) {x0 x1 x2 x3 : Int32} (k : ∀ M1 n nc ns, WK M b ((z_seats T x0 x1 x2 x3).2) (z_seats T x0 x1 x2 x3).1.toInt64 M1 n nc ns → K (.inl (some (.int ((z_seats T x0 x1 x2 x3).2).code))) M1 n nc ns) : GZ l P1 D F_L_seats K 0 [some (.ref 3), some (.int x0), some (.int x1), some (.int x2), some (.int x3), some (.ref 113), none] [] M n nc ns := by
  refine gz_aload gd_L_seats_0 rfl (gz_isr.r _) ?_
  refine gz_iconst (v := 0) gd_L_seats_2 (by decide) ?_
  refine gz_aload_n gd_L_seats_3 rfl rfl (gz_isr.r _) ?_
  refine gz_iload_n gd_L_seats_4 rfl rfl ?_
  refine gz_iload_n gd_L_seats_5 rfl rfl ?_
  refine gz_iload_n gd_L_seats_6 rfl rfl ?_
  refine gz_iload gd_L_seats_7 rfl ?_
  refine gz_virtual4 gd_L_seats_9 hC.1.house rfl rfl gs_L_seats_9 (Nat.le_of_ble_eq_true rfl) (Nat.le_of_ble_eq_true rfl) ?_
  refine h_seats hC hD hb hls hV.ji.1 (sm_pos hV) (fun v1 g1 M1 n1 nc1 ns1 hC hz => ?_) (fun e ci g1 M1 n1 nc1 ns1 hC hx hc => ?_)
  ·
    have hO1 := (hC.2.1.frame 113 (by omega)).trans hO
    refine gz_i2l gd_L_seats_12 ?_
    refine gz_lastore (i := 0) gd_L_seats_13 rfl hO1 rfl (by decide) (by decide) (by decide) ?_
    refine gz_goto (tgt := 25) gd_L_seats_14 (by decide) ?_
    refine gz_iconst (v := 0) gd_L_seats_25 (by decide) ?_
    refine gz_ireturn gd_L_seats_26 rfl rfl ?_
    rw [hz] at k
    exact k _ _ _ _ (wk_ok hC hS)
  ·
    simp only [List.mem_cons, List.mem_nil_iff, or_false, Prod.mk.injEq] at hc
    rcases hc with ⟨hc, rfl⟩ | ⟨hc, rfl⟩
    · refine GT.catch (ci := 8) (pre := []) (suf := [(0, 14, 21, 15)]) rfl hx rfl ⟨by decide, by decide⟩ (by decide) gw_195 gw_207 (fun y hy => ?_) ?_
      · cases hy
      · refine gz_astore gd_L_seats_17 (Nat.le_of_ble_eq_true rfl) rfl (gz_isr.r _) ?_
        refine gz_iconst (v := 1) gd_L_seats_19 (by decide) ?_
        refine gz_ireturn gd_L_seats_20 rfl rfl ?_
        rw [hc] at k
        exact k _ _ _ _ (wk_x hC hS hO (by rw [hc]; decide))
    · refine GT.catch (ci := 9) (pre := [(0, 14, 17, 13)]) (suf := []) rfl hx rfl ⟨by decide, by decide⟩ (by decide) gw_196 gw_284 (fun y hy => ?_) ?_
      · simp only [List.mem_cons, List.mem_nil_iff, or_false] at hy
        rcases hy with rfl
        · exact Or.inr ⟨by decide, "java/lang/IndexOutOfBoundsException", gw_195, List.mem_of_getElem? (i := 3) rfl⟩
      · refine gz_astore gd_L_seats_21 (Nat.le_of_ble_eq_true rfl) rfl (gz_isr.r _) ?_
        refine gz_iconst (v := 2) gd_L_seats_23 (by decide) ?_
        refine gz_ireturn gd_L_seats_24 rfl rfl ?_
        rw [hc] at k
        exact k _ _ _ _ (wk_x hC hS hO (by rw [hc]; decide))

