/-! The class: loads and stores at the level of the state. Printed by wip/whole/rows3.py -/
section RC3
variable {l : Launch} {D : gzD} {F : gzF} {K : gzK} {pc : Nat} {gl : List (Option Value)} {gst : List Value} {M : gzM} {n nc ns : Nat} {M0 : gzM} {b : Nat} {v : gV} {g : gG} {T : CT}
theorem rc_offs {o : Nat} (hd : decode F.2.1 pc = .ok (.aaload, 1)) (h : RC M0 b v g T M n nc ns) (ho : o < 12) (k : GZ l P1 D F K (pc + 1) gl (.ref (11 + 6 * o) :: gst) M n nc ns) : GZ l P1 D F K pc gl (.int (nI o) :: .ref 5 :: gst) M n nc ns := by
  obtain ⟨f, h1, h2⟩ := h.1.offs
  exact gz_aaload hd rfl h1 rfl ho (by decide) (h2 o ho) k
theorem rc_precs {p : Nat} (hd : decode F.2.1 pc = .ok (.aaload, 1)) (h : RC M0 b v g T M n nc ns) (hp : p < 40) (k : GZ l P1 D F K (pc + 1) gl (pref v T p :: gst) M n nc ns) : GZ l P1 D F K pc gl (.int (nI p) :: .ref 4 :: gst) M n nc ns := by
  obtain ⟨f, h1, h2⟩ := h.1.precs
  exact gz_aaload hd rfl h1 rfl hp (by decide) (h2 p hp) k
theorem rc_shown {o p : Nat} (hd : decode F.2.1 pc = .ok (.aaload, 1)) (h : RC M0 b v g T M n nc ns) (ho : o < 12) (hp : p < 40) (k : GZ l P1 D F K (pc + 1) gl (vref v (T.shown o p) :: gst) M n nc ns) : GZ l P1 D F K pc gl (.int (nI p) :: .ref (12 + 6 * o) :: gst) M n nc ns := by
  obtain ⟨f, h1, h2⟩ := h.1.shown o ho
  exact gz_aaload hd rfl h1 rfl hp (by decide) (h2 p hp) k
theorem rc_src {o p : Nat} (hd : decode F.2.1 pc = .ok (.iaload, 1)) (h : RC M0 b v g T M n nc ns) (ho : o < 12) (hp : p < 40) (k : GZ l P1 D F K (pc + 1) gl (.int (oI (T.src o p)) :: gst) M n nc ns) : GZ l P1 D F K pc gl (.int (nI p) :: .ref (13 + 6 * o) :: gst) M n nc ns := by
  obtain ⟨f, h1, h2⟩ := h.1.src o ho
  exact gz_iaload hd rfl h1 rfl hp (by decide) (h2 p hp) k
theorem rc_ow {o p : Nat} (hd : decode F.2.1 pc = .ok (.baload, 1)) (h : RC M0 b v g T M n nc ns) (ho : o < 12) (hp : p < 40) (k : GZ l P1 D F K (pc + 1) gl (.int (bI (T.ow o p)) :: gst) M n nc ns) : GZ l P1 D F K pc gl (.int (nI p) :: .ref (14 + 6 * o) :: gst) M n nc ns := by
  obtain ⟨f, h1, h2⟩ := h.1.ow o ho
  exact gz_zaload hd rfl h1 rfl hp (by decide) (h2 p hp) k
theorem rc_draft {i : Nat} (hd : decode F.2.1 pc = .ok (.iaload, 1)) (h : RC M0 b v g T M n nc ns) (hi : i < 6) (k : GZ l P1 D F K (pc + 1) gl (.int (T.draft i) :: gst) M n nc ns) : GZ l P1 D F K pc gl (.int (nI i) :: .ref 7 :: gst) M n nc ns := by
  obtain ⟨f, h1, h2⟩ := h.1.draft
  exact gz_iaload hd rfl h1 rfl hi (by decide) (h2 i hi) k
theorem rc_sm {i : Nat} (hd : decode F.2.1 pc = .ok (.laload, 1)) (h : RC M0 b v g T M n nc ns) (hi : i < 6) (k : GZ l P1 D F K (pc + 1) gl (.long (g.sm i) :: gst) M n nc ns) : GZ l P1 D F K pc gl (.int (nI i) :: .ref 8 :: gst) M n nc ns := by
  obtain ⟨f, h1, h2⟩ := h.1.sm
  exact gz_laload hd rfl h1 rfl hi (by decide) (h2 i hi) k
theorem rc_rs {i : Nat} (hd : decode F.2.1 pc = .ok (.laload, 1)) (h : RC M0 b v g T M n nc ns) (hi : i < 6) (k : GZ l P1 D F K (pc + 1) gl (.long (g.rs i) :: gst) M n nc ns) : GZ l P1 D F K pc gl (.int (nI i) :: .ref 9 :: gst) M n nc ns := by
  obtain ⟨f, h1, h2⟩ := h.1.rs
  exact gz_laload hd rfl h1 rfl hi (by decide) (h2 i hi) k
theorem rc_st {i : Nat} (hd : decode F.2.1 pc = .ok (.iaload, 1)) (h : RC M0 b v g T M n nc ns) (hi : i < 6) (k : GZ l P1 D F K (pc + 1) gl (.int (g.st i) :: gst) M n nc ns) : GZ l P1 D F K pc gl (.int (nI i) :: .ref 10 :: gst) M n nc ns := by
  obtain ⟨f, h1, h2⟩ := h.1.st
  exact gz_iaload hd rfl h1 rfl hi (by decide) (h2 i hi) k
theorem rc_vote {w i : Nat} (hd : decode F.2.1 pc = .ok (.iaload, 1)) (h : RC M0 b v g T M n nc ns) (hw : ¬ w = 0) (hw2 : w ≤ T.vs) (hi : i < 6) (k : GZ l P1 D F K (pc + 1) gl (.int (T.vote w i) :: gst) M n nc ns) : GZ l P1 D F K pc gl (.int (nI i) :: .ref (v.wid w) :: gst) M n nc ns := by
  obtain ⟨-, -, f, h1, h2⟩ := h.2.1.ver w (by omega) hw2
  exact gz_iaload hd rfl h1 rfl hi (by decide) (h2 i hi) k
theorem rs_src {o p : Nat} {x : Option Nat} (hd : decode F.2.1 pc = .ok (.iastore, 1)) (h : RC M0 b v g T M n nc ns) (ho : o < 12) (hp : p < 40) (k : ∀ M, RC M0 b v g (T.p_src o p x) M n nc ns → GZ l P1 D F K (pc + 1) gl gst M n nc ns) : GZ l P1 D F K pc gl (.int (oI x) :: .int (nI p) :: .ref (13 + 6 * o) :: gst) M n nc ns := by
  obtain ⟨f, h1, h2⟩ := h.1.src o ho
  exact gz_iastore hd rfl h1 rfl hp (by decide) (by decide) (k _ (h.s_src ho h2))
theorem rs_ow1 {o p : Nat} (hd : decode F.2.1 pc = .ok (.bastore, 1)) (h : RC M0 b v g T M n nc ns) (ho : o < 12) (hp : p < 40) (k : ∀ M, RC M0 (b + 2) v g (T.p_ow o p true) M n nc ns → GZ l P1 D F K (pc + 1) gl gst M n nc ns) : GZ l P1 D F K pc gl (.int 1 :: .int (nI p) :: .ref (14 + 6 * o) :: gst) M n nc ns := by
  obtain ⟨f, h1, h2⟩ := h.1.ow o ho
  exact gz_zastore hd rfl h1 rfl hp (by decide) (by decide) rfl (k _ (h.s_ow1 ho (x := true) h2 hp))
theorem rs_ow0 {o p : Nat} (hd : decode F.2.1 pc = .ok (.bastore, 1)) (h : RC M0 b v g T M n nc ns) (ho : o < 12) (hp : p < 40) (k : ∀ M, RC M0 b v g (T.p_ow o p false) M n nc ns → GZ l P1 D F K (pc + 1) gl gst M n nc ns) : GZ l P1 D F K pc gl (.int 0 :: .int (nI p) :: .ref (14 + 6 * o) :: gst) M n nc ns := by
  obtain ⟨f, h1, h2⟩ := h.1.ow o ho
  exact gz_zastore hd rfl h1 rfl hp (by decide) (by decide) rfl (k _ (h.s_ow0 ho (x := false) h2 hp rfl))
theorem rs_owF {o p : Nat} (hd : decode F.2.1 pc = .ok (.bastore, 1)) (h : RC M0 (b + 2) v g T M n nc ns) (ho : o < 12) (hp : p < 40) (hw : T.ow o p = true) (k : ∀ M, RC M0 b v g (T.p_ow o p false) M n nc ns → GZ l P1 D F K (pc + 1) gl gst M n nc ns) : GZ l P1 D F K pc gl (.int 0 :: .int (nI p) :: .ref (14 + 6 * o) :: gst) M n nc ns := by
  obtain ⟨f, h1, h2⟩ := h.1.ow o ho
  exact gz_zastore hd rfl h1 rfl hp (by decide) (by decide) rfl (k _ (h.s_owF ho (x := false) h2 hp rfl hw))
theorem rs_draft {i : Nat} {x : Int32} (hd : decode F.2.1 pc = .ok (.iastore, 1)) (h : RC M0 b v g T M n nc ns) (hi : i < 6) (k : ∀ M, RC M0 b v g (T.p_draft i x) M n nc ns → GZ l P1 D F K (pc + 1) gl gst M n nc ns) : GZ l P1 D F K pc gl (.int x :: .int (nI i) :: .ref 7 :: gst) M n nc ns := by
  obtain ⟨f, h1, h2⟩ := h.1.draft
  exact gz_iastore hd rfl h1 rfl hi (by decide) (by decide) (k _ (h.s_draft h2))
theorem rs_sm {i : Nat} {x : Int64} (hd : decode F.2.1 pc = .ok (.lastore, 1)) (h : RC M0 b v g T M n nc ns) (hi : i < 6) (k : ∀ M, RC M0 b v (g.w_sm (ct1 g.sm i x)) T M n nc ns → GZ l P1 D F K (pc + 1) gl gst M n nc ns) : GZ l P1 D F K pc gl (.long x :: .int (nI i) :: .ref 8 :: gst) M n nc ns := by
  obtain ⟨f, h1, h2⟩ := h.1.sm
  exact gz_lastore hd rfl h1 rfl hi (by decide) (by decide) (k _ (h.s_sm h2))
theorem rs_rs {i : Nat} {x : Int64} (hd : decode F.2.1 pc = .ok (.lastore, 1)) (h : RC M0 b v g T M n nc ns) (hi : i < 6) (k : ∀ M, RC M0 b v (g.w_rs (ct1 g.rs i x)) T M n nc ns → GZ l P1 D F K (pc + 1) gl gst M n nc ns) : GZ l P1 D F K pc gl (.long x :: .int (nI i) :: .ref 9 :: gst) M n nc ns := by
  obtain ⟨f, h1, h2⟩ := h.1.rs
  exact gz_lastore hd rfl h1 rfl hi (by decide) (by decide) (k _ (h.s_rs h2))
theorem rs_st {i : Nat} {x : Int32} (hd : decode F.2.1 pc = .ok (.iastore, 1)) (h : RC M0 b v g T M n nc ns) (hi : i < 6) (k : ∀ M, RC M0 b v (g.w_st (ct1 g.st i x)) T M n nc ns → GZ l P1 D F K (pc + 1) gl gst M n nc ns) : GZ l P1 D F K pc gl (.int x :: .int (nI i) :: .ref 10 :: gst) M n nc ns := by
  obtain ⟨f, h1, h2⟩ := h.1.st
  exact gz_iastore hd rfl h1 rfl hi (by decide) (by decide) (k _ (h.s_st h2))
theorem rs_shown {o p w : Nat} (hd : decode F.2.1 pc = .ok (.aastore, 1)) (h : RC M0 b v g T M n nc ns) (ho : o < 12) (hp : p < 40) (hw : w ≤ T.vs) (k : ∀ M, RC M0 b v g (T.p_shown o p w) M n nc ns → GZ l P1 D F K (pc + 1) gl gst M n nc ns) : GZ l P1 D F K pc gl (vref v w :: .int (nI p) :: .ref (12 + 6 * o) :: gst) M n nc ns := by
  obtain ⟨f, h1, h2⟩ := h.1.shown o ho
  have h3 := h.s_shown ho (p := p) (x := w) h2
  by_cases e : w = 0
  · rw [vref_0 e] at h3 ⊢
    exact gz_aastoreN hd rfl h1 rfl hp (by decide) (by decide) (k _ h3)
  · rw [vref_s e] at h3 ⊢
    exact gz_aastore (kd := 4) (ci := 5) hd rfl rfl h1 (h.2.1.ver w (by omega) hw).1 rfl hp (by decide) (by decide) (k _ h3)
theorem rp_par {idx : Nat} {o : Nat} {x : Option Nat} (hd : decode F.2.1 pc = .ok (.putfield idx, 3)) (hf : gz_fl P1 F.1.cls idx 3 6) (hwr : gz_wr P1 F 3 6) (h : RC M0 b v g T M n nc ns) (ho : o < 12) (k : ∀ M, RC M0 b v g (T.p_par o x) M n nc ns → GZ l P1 D F K (pc + 3) gl gst M n nc ns) : GZ l P1 D F K pc gl (.int (oI x) :: .ref (11 + 6 * o) :: gst) M n nc ns :=
  gz_putf hd hf gc_3 hwr (h.1.off o ho) gz_fits.i (k _ (h.s_par ho))
theorem rp_ep {idx : Nat} {o : Nat} {x : Int32} (hd : decode F.2.1 pc = .ok (.putfield idx, 3)) (hf : gz_fl P1 F.1.cls idx 3 7) (hwr : gz_wr P1 F 3 7) (h : RC M0 b v g T M n nc ns) (ho : o < 12) (k : ∀ M, RC M0 b v g (T.p_ep o x) M n nc ns → GZ l P1 D F K (pc + 3) gl gst M n nc ns) : GZ l P1 D F K pc gl (.int x :: .ref (11 + 6 * o) :: gst) M n nc ns :=
  gz_putf hd hf gc_3 hwr (h.1.off o ho) gz_fits.i (k _ (h.s_ep ho))
theorem rp_tk {idx : Nat} {o x : Nat} (hd : decode F.2.1 pc = .ok (.putfield idx, 3)) (hf : gz_fl P1 F.1.cls idx 3 8) (hwr : gz_wr P1 F 3 8) (h : RC M0 b v g T M n nc ns) (ho : o < 12) (k : ∀ M, RC M0 b v g (T.p_tk o x) M n nc ns → GZ l P1 D F K (pc + 3) gl gst M n nc ns) : GZ l P1 D F K pc gl (.int (nI x) :: .ref (11 + 6 * o) :: gst) M n nc ns :=
  gz_putf hd hf gc_3 hwr (h.1.off o ho) gz_fits.i (k _ (h.s_tk ho))
theorem rp_up1 {idx : Nat} {o : Nat} (hd : decode F.2.1 pc = .ok (.putfield idx, 3)) (hf : gz_fl P1 F.1.cls idx 3 9) (hwr : gz_wr P1 F 3 9) (h : RC M0 b v g T M n nc ns) (ho : o < 12) (k : ∀ M, RC M0 b v g (T.p_up o true) M n nc ns → GZ l P1 D F K (pc + 3) gl gst M n nc ns) : GZ l P1 D F K pc gl (.int 1 :: .ref (11 + 6 * o) :: gst) M n nc ns :=
  gz_putf hd hf gc_3 hwr (h.1.off o ho) gz_fits.z1 (k _ (h.s_up ho (x := true)))
theorem rp_up0 {idx : Nat} {o : Nat} (hd : decode F.2.1 pc = .ok (.putfield idx, 3)) (hf : gz_fl P1 F.1.cls idx 3 9) (hwr : gz_wr P1 F 3 9) (h : RC M0 b v g T M n nc ns) (ho : o < 12) (k : ∀ M, RC M0 b v g (T.p_up o false) M n nc ns → GZ l P1 D F K (pc + 3) gl gst M n nc ns) : GZ l P1 D F K pc gl (.int 0 :: .ref (11 + 6 * o) :: gst) M n nc ns :=
  gz_putf hd hf gc_3 hwr (h.1.off o ho) gz_fits.z0 (k _ (h.s_up ho (x := false)))
theorem rp_hg {idx : Nat} {x : Nat} (hd : decode F.2.1 pc = .ok (.putfield idx, 3)) (hf : gz_fl P1 F.1.cls idx 0 8) (hwr : gz_wr P1 F 0 8) (h : RC M0 b v g T M n nc ns)  (k : ∀ M, RC M0 b v g (T.w_hg x) M n nc ns → GZ l P1 D F K (pc + 3) gl gst M n nc ns) : GZ l P1 D F K pc gl (.int (nI x) :: .ref 3 :: gst) M n nc ns :=
  gz_putf hd hf gc_0 hwr (h.1.house) gz_fits.i (k _ (h.s_hg))
theorem rp_fl {idx : Nat} {x : Nat} (hd : decode F.2.1 pc = .ok (.putfield idx, 3)) (hf : gz_fl P1 F.1.cls idx 0 9) (hwr : gz_wr P1 F 0 9) (h : RC M0 b v g T M n nc ns)  (k : ∀ M, RC M0 b v g (T.w_fl x) M n nc ns → GZ l P1 D F K (pc + 3) gl gst M n nc ns) : GZ l P1 D F K pc gl (.int (nI x) :: .ref 3 :: gst) M n nc ns :=
  gz_putf hd hf gc_0 hwr (h.1.house) gz_fits.i (k _ (h.s_fl))
theorem rp_home {idx : Nat} {p x : Nat} (hd : decode F.2.1 pc = .ok (.putfield idx, 3)) (hf : gz_fl P1 F.1.cls idx 4 1) (hwr : gz_wr P1 F 4 1) (h : RC M0 b v g T M n nc ns) (hp : p < 40) (ht : T.there p = true) (k : ∀ M, RC M0 b v g (T.p_home p x) M n nc ns → GZ l P1 D F K (pc + 3) gl gst M n nc ns) : GZ l P1 D F K pc gl (.int (nI x) :: .ref (v.pid p) :: gst) M n nc ns :=
  gz_putf hd hf gc_4 hwr (h.2.1.pobj p hp ht) gz_fits.i (k _ (h.s_home hp ht))
theorem rp_last {idx : Nat} {p x : Nat} (hd : decode F.2.1 pc = .ok (.putfield idx, 3)) (hf : gz_fl P1 F.1.cls idx 4 2) (hwr : gz_wr P1 F 4 2) (h : RC M0 b v g T M n nc ns) (hp : p < 40) (ht : T.there p = true) (k : ∀ M, RC M0 b v g (T.p_last p x) M n nc ns → GZ l P1 D F K (pc + 3) gl gst M n nc ns) : GZ l P1 D F K pc gl (vref v x :: .ref (v.pid p) :: gst) M n nc ns :=
  gz_putf hd hf gc_4 hwr (h.2.1.pobj p hp ht) (gz_fits.o (vref_isr v x)) (k _ (h.s_last hp ht))
/-- null or not -/
theorem rc_nullV {w : Nat} {off : Int} {tgt : Nat} (hd : decode F.2.1 pc = .ok (.ifnull off, 3)) (ht : (pc : Int) + off = (tgt : Int)) (kt : w = 0 → GZ l P1 D F K tgt gl gst M n nc ns) (kf : ¬ w = 0 → GZ l P1 D F K (pc + 3) gl gst M n nc ns) : GZ l P1 D F K pc gl (vref v w :: gst) M n nc ns := by
  refine gz_ifnull hd ht (vref_isr v w) (fun e => kt (Classical.byContradiction fun z => ?_)) (fun e => kf (fun z => e (vref_0 z)))
  rw [vref_s z] at e
  cases e
theorem rc_nonnullV {w : Nat} {off : Int} {tgt : Nat} (hd : decode F.2.1 pc = .ok (.ifnonnull off, 3)) (ht : (pc : Int) + off = (tgt : Int)) (kt : ¬ w = 0 → GZ l P1 D F K tgt gl gst M n nc ns) (kf : w = 0 → GZ l P1 D F K (pc + 3) gl gst M n nc ns) : GZ l P1 D F K pc gl (vref v w :: gst) M n nc ns := by
  refine gz_ifnonnull hd ht (vref_isr v w) (fun e => kt (fun z => e (vref_0 z))) (fun e => kf (Classical.byContradiction fun z => e ?_))
  rw [vref_s z]
  exact fun y => by cases y
theorem rc_nullP {p : Nat} {off : Int} {tgt : Nat} (hd : decode F.2.1 pc = .ok (.ifnull off, 3)) (ht : (pc : Int) + off = (tgt : Int)) (kt : T.there p = false → GZ l P1 D F K tgt gl gst M n nc ns) (kf : T.there p = true → GZ l P1 D F K (pc + 3) gl gst M n nc ns) : GZ l P1 D F K pc gl (pref v T p :: gst) M n nc ns := by
  refine gz_ifnull hd ht (pref_isr v T p) (fun e => ?_) (fun e => ?_)
  · cases z : T.there p
    · exact kt z
    · rw [pref_t z] at e; cases e
  · cases z : T.there p
    · exact absurd (pref_f z) e
    · exact kf z
theorem rc_nonnullP {p : Nat} {off : Int} {tgt : Nat} (hd : decode F.2.1 pc = .ok (.ifnonnull off, 3)) (ht : (pc : Int) + off = (tgt : Int)) (kt : T.there p = true → GZ l P1 D F K tgt gl gst M n nc ns) (kf : T.there p = false → GZ l P1 D F K (pc + 3) gl gst M n nc ns) : GZ l P1 D F K pc gl (pref v T p :: gst) M n nc ns := by
  refine gz_ifnonnull hd ht (pref_isr v T p) (fun e => ?_) (fun e => ?_)
  · cases z : T.there p
    · exact absurd (pref_f z) e
    · exact kt z
  · cases z : T.there p
    · exact kf z
    · exact absurd (fun y => by rw [pref_t z] at y; cases y) e
/-- stores whose new heap is a variable -/
theorem gy_putf {idx k0 ci j : Nat} {fs : List Value} {x : Value} {ty : Nat → FieldType} (hd : decode F.2.1 pc = .ok (.putfield idx, 3)) (hf : gz_fl P1 F.1.cls idx ci j) (hc : gz_ct P1 ci ty) (hwr : gz_wr P1 F ci j) (hM : M k0 = some (.inr (ci, fs))) (hfit : gz_fits (ty j) x)
    (k : ∀ M', M' k0 = some (.inr (ci, fs.set j x)) → (∀ j, j ≠ k0 → M' j = M j) → GZ l P1 D F K (pc + 3) gl gst M' n nc ns) : GZ l P1 D F K pc gl (x :: .ref k0 :: gst) M n nc ns := gz_putf hd hf hc hwr hM hfit (k _ gz_up_s (fun _ h => gz_up_n h))
theorem gy_new {idx ci : Nat} {ty : Nat → FieldType} {fs : List Value} (hd : decode F.2.1 pc = .ok (.new idx, 3)) (hw : gz_nw P1 F idx ci ty fs) (hnc : nc + 1 ≤ D.2.2.2.1) (hns : ns + fs.length ≤ D.2.2.2.2.1)
    (k : ∀ M', M' n = some (.inr (ci, fs)) → (∀ j, j ≠ n → M' j = M j) → GZ l P1 D F K (pc + 3) gl (.ref n :: gst) M' (n + 1) (nc + 1) (ns + fs.length)) : GZ l P1 D F K pc gl gst M n nc ns := gz_new hd hw hnc hns (k _ gz_up_s (fun _ h => gz_up_n h))
theorem gy_aastoreO {k0 kd len i k1 ci : Nat} {f : Nat → Value} {fs : List Value} {r : vw_C} {C : String} {x : Int32} (hd : decode F.2.1 pc = .ok (.aastore, 1)) (hk : P1.2.2.1[kd]? = some (.object C)) (hci : P1.2.1[ci]? = some r) (hca : Cond.castable r.1 C ∈ P1.1) (hM : M k0 = some (.inl (kd, len, f))) (hM1 : M k1 = some (.inr (ci, fs))) (hx : x = nI i) (hi : i < len) (hn : len < 2 ^ 31) (hk0 : kd ≠ 0)
    (k : ∀ M', M' k0 = some (.inl (kd, len, updV f i (.ref k1))) → (∀ j, j ≠ k0 → M' j = M j) → GZ l P1 D F K (pc + 1) gl gst M' n nc ns) : GZ l P1 D F K pc gl (.ref k1 :: .int x :: .ref k0 :: gst) M n nc ns := gz_aastoreO hd hk hci hca hM hM1 hx hi hn hk0 (k _ gz_up_s (fun _ h => gz_up_n h))
theorem gy_aastoreN {k0 kd len i : Nat} {f : Nat → Value} {C : String} {x : Int32} (hd : decode F.2.1 pc = .ok (.aastore, 1)) (hk : P1.2.2.1[kd]? = some (.object C)) (hM : M k0 = some (.inl (kd, len, f))) (hx : x = nI i) (hi : i < len) (hn : len < 2 ^ 31) (hk0 : kd ≠ 0)
    (k : ∀ M', M' k0 = some (.inl (kd, len, updV f i .null)) → (∀ j, j ≠ k0 → M' j = M j) → GZ l P1 D F K (pc + 1) gl gst M' n nc ns) : GZ l P1 D F K pc gl (.null :: .int x :: .ref k0 :: gst) M n nc ns := gz_aastoreN hd hk hM hx hi hn hk0 (k _ gz_up_s (fun _ h => gz_up_n h))
theorem gy_iastore {k0 kd len i : Nat} {f : Nat → Value} {y : Int32} {x : Int32} (hd : decode F.2.1 pc = .ok (.iastore, 1)) (hk : P1.2.2.1[kd]? = some .int) (hM : M k0 = some (.inl (kd, len, f))) (hx : x = nI i) (hi : i < len) (hn : len < 2 ^ 31) (hk0 : kd ≠ 0) (k : ∀ M', M' k0 = some (.inl (kd, len, updV f i (.int y))) → (∀ j, j ≠ k0 → M' j = M j) → GZ l P1 D F K (pc + 1) gl gst M' n nc ns) : GZ l P1 D F K pc gl (.int y :: .int x :: .ref k0 :: gst) M n nc ns := gz_iastore hd hk hM hx hi hn hk0 (k _ gz_up_s (fun _ h => gz_up_n h))
theorem gy_anewarray {idx kd N : Nat} {x : Int32} {C : String} (hd : decode F.2.1 pc = .ok (.anewarray idx, 3)) (hk : P1.2.2.1[kd]? = some (.object C)) (hcl : Cond.classLink F.1.cls idx C ∈ P1.1) (hov : Cond.arrayOver (.object C) ∈ P1.1) (hx : x = nI N) (hN : N * 4 ≤ 536870912) (hnc : nc + 1 ≤ D.2.2.2.1) (hns : ns + N ≤ D.2.2.2.2.1)
    (k : ∀ M', M' n = some (.inl (kd, N, fun _ => .null)) → (∀ j, j ≠ n → M' j = M j) → GZ l P1 D F K (pc + 3) gl (.ref n :: gst) M' (n + 1) (nc + 1) (ns + N)) (hk0 : kd ≠ 0 := by decide) : GZ l P1 D F K pc gl (.int x :: gst) M n nc ns := gz_anewarray hd hk hcl hov hx hN hnc hns (k _ gz_up_s (fun _ h => gz_up_n h)) hk0
theorem gq_getf {idx k0 ci j : Nat} {fs : List Value} {x y : Value} (hd : decode F.2.1 pc = .ok (.getfield idx, 3)) (hf : gz_fl P1 F.1.cls idx ci j) (hM : M k0 = some (.inr (ci, fs))) (hv : fs[j]? = some x) (he : x = y) (k : GZ l P1 D F K (pc + 3) gl (y :: gst) M n nc ns) : GZ l P1 D F K pc gl (.ref k0 :: gst) M n nc ns := gz_getf hd hf hM (hv.trans (congrArg some he)) k
theorem gz_ldcw {i : Nat} {x : Int32} (hd : decode F.2.1 pc = .ok (.ldc_w i, 3)) (hw : Cond.constant F.1.cls i x ∈ P1.1) (k : GZ l P1 D F K (pc + 3) gl (.int x :: gst) M n nc ns) : GZ l P1 D F K pc gl gst M n nc ns :=
  GZ.pure (fun p e R s m args below meth c H locs cells slots Q q ls st hC hl hs hH kk => by
    exact lv_ldcw hC.1 hC.2.1 hC.2.2.2.1 (hC.2.2.2.2.2.2.2.1 _ hw) hd (kk ls _ hl ⟨_, _, rfl, rfl, hs⟩)) rfl k
end RC3
theorem gz_slen1 {a0 : Value} {m : Nat} (h0 : a0.category = 1) (hm : 1 ≤ m) : (gz_sl [a0]).length ≤ m := by
  rw [show gz_sl [a0] = [some a0] by simp [gz_sl, h0]]
  exact hm
theorem gz_ent1 {a0 : Value} {m : Nat} (h0 : a0.category = 1) : gz_ent [a0] m = [some a0] ++ List.replicate (m - 1) none := by
  have e : gz_sl [a0] = [some a0] := by simp [gz_sl, h0]
  unfold gz_ent
  rw [e]
  rfl
theorem gz_slen2 {a0 a1 : Value} {m : Nat} (h0 : a0.category = 1) (h1 : a1.category = 1) (hm : 2 ≤ m) : (gz_sl [a0, a1]).length ≤ m := by
  rw [show gz_sl [a0, a1] = [some a0, some a1] by simp [gz_sl, h0, h1]]
  exact hm
theorem gz_ent2 {a0 a1 : Value} {m : Nat} (h0 : a0.category = 1) (h1 : a1.category = 1) : gz_ent [a0, a1] m = [some a0, some a1] ++ List.replicate (m - 2) none := by
  have e : gz_sl [a0, a1] = [some a0, some a1] := by simp [gz_sl, h0, h1]
  unfold gz_ent
  rw [e]
  rfl
theorem gz_slen3 {a0 a1 a2 : Value} {m : Nat} (h0 : a0.category = 1) (h1 : a1.category = 1) (h2 : a2.category = 1) (hm : 3 ≤ m) : (gz_sl [a0, a1, a2]).length ≤ m := by
  rw [show gz_sl [a0, a1, a2] = [some a0, some a1, some a2] by simp [gz_sl, h0, h1, h2]]
  exact hm
theorem gz_ent3 {a0 a1 a2 : Value} {m : Nat} (h0 : a0.category = 1) (h1 : a1.category = 1) (h2 : a2.category = 1) : gz_ent [a0, a1, a2] m = [some a0, some a1, some a2] ++ List.replicate (m - 3) none := by
  have e : gz_sl [a0, a1, a2] = [some a0, some a1, some a2] := by simp [gz_sl, h0, h1, h2]
  unfold gz_ent
  rw [e]
  rfl
theorem gz_slen4 {a0 a1 a2 a3 : Value} {m : Nat} (h0 : a0.category = 1) (h1 : a1.category = 1) (h2 : a2.category = 1) (h3 : a3.category = 1) (hm : 4 ≤ m) : (gz_sl [a0, a1, a2, a3]).length ≤ m := by
  rw [show gz_sl [a0, a1, a2, a3] = [some a0, some a1, some a2, some a3] by simp [gz_sl, h0, h1, h2, h3]]
  exact hm
theorem gz_ent4 {a0 a1 a2 a3 : Value} {m : Nat} (h0 : a0.category = 1) (h1 : a1.category = 1) (h2 : a2.category = 1) (h3 : a3.category = 1) : gz_ent [a0, a1, a2, a3] m = [some a0, some a1, some a2, some a3] ++ List.replicate (m - 4) none := by
  have e : gz_sl [a0, a1, a2, a3] = [some a0, some a1, some a2, some a3] := by simp [gz_sl, h0, h1, h2, h3]
  unfold gz_ent
  rw [e]
  rfl
theorem gz_slen5 {a0 a1 a2 a3 a4 : Value} {m : Nat} (h0 : a0.category = 1) (h1 : a1.category = 1) (h2 : a2.category = 1) (h3 : a3.category = 1) (h4 : a4.category = 1) (hm : 5 ≤ m) : (gz_sl [a0, a1, a2, a3, a4]).length ≤ m := by
  rw [show gz_sl [a0, a1, a2, a3, a4] = [some a0, some a1, some a2, some a3, some a4] by simp [gz_sl, h0, h1, h2, h3, h4]]
  exact hm
theorem gz_ent5 {a0 a1 a2 a3 a4 : Value} {m : Nat} (h0 : a0.category = 1) (h1 : a1.category = 1) (h2 : a2.category = 1) (h3 : a3.category = 1) (h4 : a4.category = 1) : gz_ent [a0, a1, a2, a3, a4] m = [some a0, some a1, some a2, some a3, some a4] ++ List.replicate (m - 5) none := by
  have e : gz_sl [a0, a1, a2, a3, a4] = [some a0, some a1, some a2, some a3, some a4] := by simp [gz_sl, h0, h1, h2, h3, h4]
  unfold gz_ent
  rw [e]
  rfl
theorem gz_slen6 {a0 a1 a2 a3 a4 a5 : Value} {m : Nat} (h0 : a0.category = 1) (h1 : a1.category = 1) (h2 : a2.category = 1) (h3 : a3.category = 1) (h4 : a4.category = 1) (h5 : a5.category = 1) (hm : 6 ≤ m) : (gz_sl [a0, a1, a2, a3, a4, a5]).length ≤ m := by
  rw [show gz_sl [a0, a1, a2, a3, a4, a5] = [some a0, some a1, some a2, some a3, some a4, some a5] by simp [gz_sl, h0, h1, h2, h3, h4, h5]]
  exact hm
theorem gz_ent6 {a0 a1 a2 a3 a4 a5 : Value} {m : Nat} (h0 : a0.category = 1) (h1 : a1.category = 1) (h2 : a2.category = 1) (h3 : a3.category = 1) (h4 : a4.category = 1) (h5 : a5.category = 1) : gz_ent [a0, a1, a2, a3, a4, a5] m = [some a0, some a1, some a2, some a3, some a4, some a5] ++ List.replicate (m - 6) none := by
  have e : gz_sl [a0, a1, a2, a3, a4, a5] = [some a0, some a1, some a2, some a3, some a4, some a5] := by simp [gz_sl, h0, h1, h2, h3, h4, h5]
  unfold gz_ent
  rw [e]
  rfl
