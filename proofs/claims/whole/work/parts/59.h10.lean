/-! The class: move, precinct. Printed by wip/whole/h10.py -/
theorem hm_post {T : CT} {z : Nat → Nat} {y : List (Nat × Int32 × Nat × Nat × Nat)} : (T.w_home z).w_post y = (T.w_post y).w_home z := by
  simp only [CT.w_home, CT.w_post, CT.there, CT.home, CT.reg, CT.last, CT.vs, CT.num, CT.vote, CT.mark, CT.draft, CT.up, CT.par, CT.ep, CT.shown, CT.src, CT.ow, CT.line, CT.tk, CT.wt, CT.post, CT.hg, CT.fl, CT.code]
theorem hm_line {T : CT} {z : Nat → Nat} {y : Nat → List (Nat × Nat)} : (T.w_home z).w_line y = (T.w_line y).w_home z := by
  simp only [CT.w_home, CT.w_line, CT.there, CT.home, CT.reg, CT.last, CT.vs, CT.num, CT.vote, CT.mark, CT.draft, CT.up, CT.par, CT.ep, CT.shown, CT.src, CT.ow, CT.line, CT.tk, CT.wt, CT.post, CT.hg, CT.fl, CT.code]
theorem hm_shown {T : CT} {z : Nat → Nat} {y : Nat → Nat → Nat} : (T.w_home z).w_shown y = (T.w_shown y).w_home z := by
  simp only [CT.w_home, CT.w_shown, CT.there, CT.home, CT.reg, CT.last, CT.vs, CT.num, CT.vote, CT.mark, CT.draft, CT.up, CT.par, CT.ep, CT.shown, CT.src, CT.ow, CT.line, CT.tk, CT.wt, CT.post, CT.hg, CT.fl, CT.code]
theorem hm_src {T : CT} {z : Nat → Nat} {y : Nat → Nat → Option Nat} : (T.w_home z).w_src y = (T.w_src y).w_home z := by
  simp only [CT.w_home, CT.w_src, CT.there, CT.home, CT.reg, CT.last, CT.vs, CT.num, CT.vote, CT.mark, CT.draft, CT.up, CT.par, CT.ep, CT.shown, CT.src, CT.ow, CT.line, CT.tk, CT.wt, CT.post, CT.hg, CT.fl, CT.code]
theorem hm_ow {T : CT} {z : Nat → Nat} {y : Nat → Nat → Bool} : (T.w_home z).w_ow y = (T.w_ow y).w_home z := by
  simp only [CT.w_home, CT.w_ow, CT.there, CT.home, CT.reg, CT.last, CT.vs, CT.num, CT.vote, CT.mark, CT.draft, CT.up, CT.par, CT.ep, CT.shown, CT.src, CT.ow, CT.line, CT.tk, CT.wt, CT.post, CT.hg, CT.fl, CT.code]
theorem hm_wt {T : CT} {z : Nat → Nat} {y : Nat → List (Nat × Nat)} : (T.w_home z).w_wt y = (T.w_wt y).w_home z := by
  simp only [CT.w_home, CT.w_wt, CT.there, CT.home, CT.reg, CT.last, CT.vs, CT.num, CT.vote, CT.mark, CT.draft, CT.up, CT.par, CT.ep, CT.shown, CT.src, CT.ow, CT.line, CT.tk, CT.wt, CT.post, CT.hg, CT.fl, CT.code]
theorem hm_send {T : CT} {z : Nat → Nat} {o k : Nat} {x : Nat × Nat} : y_send (T.w_home z) o k x = (y_send T o k x).w_home z := by
  unfold y_send
  rw [show (T.w_home z).post = T.post from rfl, show (T.w_home z).ep = T.ep from rfl]
  by_cases h : T.post.length < 500
  · rw [if_pos h, if_pos h, hm_post]
  · rw [if_neg h, if_neg h]
theorem hm_tell {T : CT} {z : Nat → Nat} {o p v : Nat} : y_tell (T.w_home z) o p v = (y_tell T o p v).w_home z := by
  unfold y_tell
  rw [← hm_send, ← hm_line, show (T.w_home z).line = T.line from rfl]
theorem hm_put {T : CT} {z : Nat → Nat} {o p v : Nat} {s : Option Nat} : y_put (T.w_home z) o p v s = (y_put T o p v s).w_home z := by
  unfold y_put
  rw [← hm_src, ← hm_shown, show (T.w_home z).shown = T.shown from rfl, show (T.w_home z).src = T.src from rfl]
theorem hm_set {T : CT} {z : Nat → Nat} {o p v : Nat} {s : Option Nat} : y_set (T.w_home z) o p v s = (y_set T o p v s).w_home z := by
  unfold y_set
  rw [show (T.w_home z).par o = T.par o from rfl]
  split
  · rw [hm_put, hm_tell]
  · exact hm_put
theorem hm_unset {T : CT} {z : Nat → Nat} {o p j : Nat} : y_unset (T.w_home z) o p j = (y_unset T o p j).w_home z := by
  unfold y_unset
  rw [show (T.w_home z).src o p = T.src o p from rfl]
  split
  · exact hm_set
  · rfl
theorem hm_own {T : CT} {z : Nat → Nat} {o p : Nat} : y_own (T.w_home z) o p = (y_own T o p).w_home z := by
  unfold y_own
  rw [show y_may (T.w_home z) o p o = y_may T o p o from rfl]
  split
  · rw [show (T.w_home z).ow = T.ow from rfl, hm_ow, show (T.w_home z).last p = T.last p from rfl, hm_set]
  · rw [show (T.w_home z).ow = T.ow from rfl, hm_ow]
theorem hm_first {T : CT} {z : Nat → Nat} {o c : Nat} : y_first (T.w_home z) o c = (y_first T o c).map (fun t => CT.w_home t z) := by
  unfold y_first
  rw [show (T.w_home z).wt c = T.wt c from rfl]
  cases T.wt c with
  | nil => rfl
  | cons x xs =>
    show (if y_may (T.w_home z) o x.1 c = true then some (y_set ((T.w_home z).w_wt (ct1 (T.w_home z).wt c xs)) o x.1 x.2 (some c)) else none) = Option.map (fun t => CT.w_home t z) (if y_may T o x.1 c = true then some (y_set (T.w_wt (ct1 T.wt c xs)) o x.1 x.2 (some c)) else none)
    rw [show y_may (T.w_home z) o x.1 c = y_may T o x.1 c from rfl, show (T.w_home z).wt = T.wt from rfl, hm_wt, hm_set]
    split
    · rfl
    · rfl
theorem hm_r1 {T : CT} {z : Nat → Nat} {o : Nat} : ∀ i, y_r1 (T.w_home z) o i = ((y_r1 T o i).1.w_home z, (y_r1 T o i).2)
  | 0 => rfl
  | i + 1 => by
    have ih := hm_r1 (T := T) (z := z) (o := o) i
    simp only [y_r1]
    rw [ih]
    dsimp only
    rw [show ((y_r1 T o i).1.w_home z).ow = (y_r1 T o i).1.ow from rfl, show y_may ((y_r1 T o i).1.w_home z) o i o = y_may (y_r1 T o i).1 o i o from rfl, hm_own]
    split
    · rfl
    · rfl
theorem hm_wh {z : Nat → Nat} {o c : Nat} : ∀ (k : Nat) (T : CT) (m : Bool), y_wh o c k (T.w_home z) m = ((y_wh o c k T m).1.w_home z, (y_wh o c k T m).2)
  | 0, T, m => rfl
  | k + 1, T, m => by
    simp only [y_wh]
    rw [hm_first]
    cases y_first T o c with
    | none => rfl
    | some T' => exact hm_wh k T' true
theorem hm_r2 {R : CT × Bool} {z : Nat → Nat} {o : Nat} : ∀ i, y_r2 (R.1.w_home z, R.2) o i = ((y_r2 R o i).1.w_home z, (y_r2 R o i).2)
  | 0 => rfl
  | i + 1 => by
    have ih := hm_r2 (R := R) (z := z) (o := o) i
    simp only [y_r2]
    rw [ih]
    dsimp only
    rw [show ((y_r2 R o i).1.w_home z).par = (y_r2 R o i).1.par from rfl, show ((y_r2 R o i).1.w_home z).wt = (y_r2 R o i).1.wt from rfl, hm_wh]
    split
    · rfl
    · rfl
theorem hm_rd {T : CT} {z : Nat → Nat} {o : Nat} : y_rd (T.w_home z) o = ((y_rd T o).1.w_home z, (y_rd T o).2) := by
  unfold y_rd
  rw [hm_r1, hm_r2]
theorem hm_all {z : Nat → Nat} {o : Nat} : ∀ (k : Nat) (T : CT), y_all o k (T.w_home z) = (y_all o k T).w_home z
  | 0, T => rfl
  | k + 1, T => by
    have ih := hm_all (z := z) (o := o) k (y_rd T o).1
    simp only [y_all]
    rw [hm_rd]
    dsimp only
    by_cases c : (y_rd T o).2 = true
    · rw [if_pos c, if_pos c]
      exact ih
    · rw [if_neg c, if_neg c]
theorem hm_try {T : CT} {z : Nat → Nat} {o : Nat} : y_try (T.w_home z) o = (y_try T o).w_home z := by
  unfold y_try
  rw [show y_waits (T.w_home z) o = y_waits T o from rfl, hm_all]
theorem sN_0 {f : Nat → Nat} : ∀ {n : Nat}, (∀ i, i < n → f i = 0) → sN n f = 0
  | 0, _ => rfl
  | n + 1, h => by
    show sN n f + f n = 0
    rw [sN_0 (fun i hi => h i (by omega)), h n (by omega)]
theorem waits_0 {T : CT} {h : Nat} (h1 : ∀ p, p < 40 → T.ow h p = false) (h2 : ∀ c, c < 12 → T.par c ≠ some h) : y_waits T h = 0 := by
  unfold y_waits
  rw [sN_0 (fun i hi => by show bN (T.ow h i) = 0; rw [h1 i hi]; rfl), sN_0 (fun i hi => if_neg (h2 i hi))]
def y_gv (T : CT) (h p : Nat) : CT := y_try (y_unset (T.p_ow h p false) h p h) h
theorem gv_home {T : CT} {h p x o : Nat} : (y_gv T h p).p_home x o = y_gv (T.p_home x o) h p := by
  have e : (y_gv T h p).home = T.home := by
    unfold y_gv
    rw [try_home, y_unset_home]
    rfl
  show (y_gv T h p).w_home (ct1 (y_gv T h p).home x o) = y_gv (T.w_home (ct1 T.home x o)) h p
  rw [e]
  unfold y_gv
  rw [show (T.w_home (ct1 T.home x o)).p_ow h p false = (T.p_ow h p false).w_home (ct1 T.home x o) from hm_ow, hm_unset, hm_try]
theorem gv_give {T : CT} {h p : Nat} (hu : T.up h = true) : y_gv T h p = y_give T h p := by
  unfold y_gv y_give
  rw [if_pos hu]
theorem RC.ow_back {M0 : gzM} {b : Nat} {v : gV} {g : gG} {T : CT} {M : gzM} {n nc ns : Nat} {o p : Nat} (h : RC M0 b v g (T.p_ow o p false) M n nc ns) (hw : T.ow o p = false) : RC M0 b v g T M n nc ns := by
  have e : T.ow = (T.p_ow o p false).ow := by
    show T.ow = ct2 T.ow o p false
    funext x y
    unfold ct2
    by_cases c : x = o ∧ y = p
    · rw [if_pos c, c.1, c.2, hw]
    · rw [if_neg c]
  exact ⟨h.1.ofT rfl rfl rfl rfl rfl rfl rfl rfl rfl rfl rfl e rfl rfl rfl, h.2.1.ofT rfl rfl rfl rfl rfl rfl rfl rfl rfl rfl rfl, h.2.2.ofT e rfl⟩
/-- an office that is down: nothing to give up -/
theorem gv_down {T : CT} {h p : Nat} (hs : T.src h p ≠ some h) (hw : y_waits (T.p_ow h p false) h = 0) : y_gv T h p = T.p_ow h p false := by
  unfold y_gv
  rw [show y_unset (T.p_ow h p false) h p h = T.p_ow h p false from if_neg hs]
  unfold y_try
  rw [hw]
  show y_all h (0 + 1) (T.p_ow h p false) = _
  simp only [y_all, rd_0 hw]
  simp
theorem gv_there {T : CT} {h p x : Nat} : (y_gv T h p).there x = T.there x := by
  unfold y_gv
  rw [try_there, y_unset_there]
  rfl
theorem gv_last {T : CT} {h p : Nat} : (y_gv T h p).last = T.last := by
  unfold y_gv
  rw [try_last, y_unset_last]
  rfl
theorem pow_SO {T : CT} {h p : Nat} {z : Bool} : SO h T (T.p_ow h p z) := fun x q hx => ⟨rfl, rfl, if_neg (fun e => hx e.1)⟩
theorem gv_SO {T : CT} {h p : Nat} : SO h T (y_gv T h p) := by
  unfold y_gv
  exact SO.trans (SO.trans pow_SO SO.unset) SO.try
theorem gv_up {T : CT} {h p : Nat} : (y_gv T h p).up = T.up := by
  unfold y_gv
  rw [try_up, y_unset_up]
  rfl
theorem gv_homef {T : CT} {h p : Nat} : (y_gv T h p).home = T.home := by
  unfold y_gv
  rw [try_home, y_unset_home]
  rfl
theorem gv_code {T : CT} {h p : Nat} : (y_gv T h p).code = T.code := by
  unfold y_gv
  rw [try_code, y_unset_code]
  rfl
theorem gv_J {T : CT} {h p : Nat} (hI : JI T) (hh : h < 12) (hp : p < 40) (hP : pot T < 9000) : JI (y_gv T h p) ∧ pot (y_gv T h p) ≤ pot T + 1 := by
  obtain ⟨j1, j2⟩ := hI.p_ow0 hh hp
  have j3 := j1.unset (j := h) hh hp (by omega)
  have j4 := pot_unset (T := T.p_ow h p false) (p := p) (j := h) hh
  have j5 := pot_try (T := y_unset (T.p_ow h p false) h p h) hh
  exact ⟨try_JI j3 hh, by unfold y_gv; omega⟩
theorem give_cases {T : CT} {h p : Nat} : (T.up h = true ∧ y_give T h p = y_gv T h p) ∨ (T.up h = false ∧ y_give T h p = T) := by
  unfold y_give y_gv
  cases e : T.up h
  · exact Or.inr ⟨rfl, if_neg Bool.false_ne_true⟩
  · exact Or.inl ⟨rfl, if_pos rfl⟩
theorem give_fr {T : CT} {h p : Nat} : SO h T (y_give T h p) ∧ (y_give T h p).up = T.up ∧ (y_give T h p).home = T.home ∧ (y_give T h p).last = T.last ∧ (y_give T h p).there = T.there ∧ (y_give T h p).code = T.code := by
  rcases give_cases (T := T) (h := h) (p := p) with ⟨-, e⟩ | ⟨-, e⟩
  · rw [e]
    exact ⟨gv_SO, gv_up, gv_homef, gv_last, funext fun x => gv_there, gv_code⟩
  · rw [e]
    exact ⟨fun x q _ => ⟨rfl, rfl, rfl⟩, rfl, rfl, rfl, rfl, rfl⟩
theorem own_src {T : CT} {o p : Nat} : (y_own T o p).src o p = if y_may T o p o = true then some o else T.src o p := by
  unfold y_own
  split
  · rw [y_set_src]
    exact if_pos ⟨rfl, rfl⟩
  · rfl
theorem offer_94 {G : CT} {p o : Nat} (eo : G.home p = o) (hl : ¬ G.last p = 0) (hs : G.src o p ≠ some o) : y_offer G p = (z_94 G p o).2 ∧ (((y_offer G p).src o p = some o) ↔ (z_94 G p o).1 = true) ∧ (z_94 G p o).2.code = G.code := by
  unfold y_offer z_94
  rw [eo]
  by_cases hu : G.up o = true
  · rw [if_pos hu, if_pos hu, if_neg hl]
    refine ⟨rfl, ?_, y_own_code⟩
    rw [own_src]
    show _ ↔ y_may G o p o = true
    cases e : y_may G o p o
    · rw [if_neg Bool.false_ne_true]
      exact ⟨fun z => absurd z hs, fun z => by cases z⟩
    · rw [if_pos rfl]
      exact ⟨fun _ => rfl, fun _ => rfl⟩
  · rw [if_neg hu, if_neg hu]
    exact ⟨rfl, ⟨fun z => absurd z hs, fun z => by cases z⟩, rfl⟩
theorem none_94 {G : CT} {p o : Nat} (hl : G.last p = 0) : z_94 G p o = (false, G) := by
  unfold z_94
  rw [if_pos hl]
  split <;> rfl
theorem offer_bd {G : CT} {p o : Nat} (hB : Bd G) (ho : o < 12) (hp : p < 40) : ∀ j, (y_offer G p).src o p = some j → j < 12 := by
  intro j hj
  unfold y_offer at hj
  split at hj
  · by_cases e : o = G.home p
    · rw [← e, own_src] at hj
      split at hj
      · cases hj; exact ho
      · exact hB.src o p j ho hp hj
    · rw [(SO.own (T := G) (o := G.home p) (p := p) o p e).2.1] at hj
      exact hB.src o p j ho hp hj
  · exact hB.src o p j ho hp hj
theorem h_move {l : Launch} {D : gzD} {K : gzK} {M : gzM} {n nc ns : Nat} {M0 : gzM} {b : Nat} {v : gV} {g : gG} {T : CT} (hC : RC M0 b v g T M n nc ns)(hD : RM D) (hb : b + 1000 ≤ 300000) (hls : l.stackTraces = false) {xp xo : Int32} (hI : JI T) (hTL : TL T) (hP : pot T + 2 ≤ 9000) (hsh : ∀ o p, o < 12 → p < 40 → T.src o p = some o → T.home p = o) (hown : ∀ o p, o < 12 → p < 40 → y_may T o p o = true → T.ow o p = false) (hdn : ∀ h, h < 12 → T.up h = false → (∀ p, p < 40 → T.shown h p = 0 ∧ T.ow h p = false) ∧ ∀ c, c < 12 → T.par c ≠ some h) (k : ∀ v g M n nc ns, RC M0 (b + 560) v g ((z_move T xp xo).2) M n nc ns → ((z_move T xp xo).2).code = 0 → K (.inl (some (.int (bI (z_move T xp xo).1)))) M n nc ns) (kx : ∀ e ci g M n nc ns, RC M0 (b + 560) v g ((z_move T xp xo).2) M n nc ns → M e = some (.inr (ci, [])) → (((z_move T xp xo).2).code, ci) ∈ ([(1, 8), (2, 10)] : List (Int32 × Nat)) → K (.inr e) M n nc ns) : GZ l P1 D F_H_move K 0 [some (.ref 3), some (.int xp), some (.int xo), none] [] M n nc ns := by
  replace hC := hC.code 0
  refine gz_aload_n gd_H_move_0 rfl rfl (gz_isr.r _) ?_
  refine gz_iload_n gd_H_move_1 rfl rfl ?_
  refine gz_virtual1 gd_H_move_2 hC.1.house rfl rfl gs_H_move_2 (Nat.le_of_ble_eq_true rfl) (Nat.le_of_ble_eq_true rfl) ?_
  refine h_precT (T := T.w_code 0) hC hD (by omega) hls (fun p hp e0 ht => ?_) (fun ep ex M1 n1 nc1 ns1 hC hx => GT.out rfl ?_)
  ·
    subst e0
    have ep := isP_s hp ht
    replace ep : isP T (nI p) = some p := ep
    refine gz_astore_n gd_H_move_5 rfl (Nat.le_of_ble_eq_true rfl) rfl (gz_isr.r _) ?_
    refine gz_iload_n gd_H_move_6 rfl rfl ?_
    refine gz_static1 gd_H_move_7 gs_H_move_7 (Nat.le_of_ble_eq_true rfl) (Nat.le_of_ble_eq_true rfl) ?_
    refine h_reqOffice hC hD (by omega) hls (fun o ho e0 => ?_) (fun eo ex M1 n1 nc1 ns1 hC hx => GT.out rfl ?_)
    ·
      subst e0
      have eo := inR_s ho (show 12 < 2 ^ 31 by decide)
      refine gz_aload_n gd_H_move_10 rfl rfl (gz_isr.r _) ?_
      refine gq_getf (y := .int (nI (T.home p))) gd_H_move_11 gf_H_167 (hC.2.1.pobj p (by omega) ht) rfl rfl ?_
      refine gz_iload_n gd_H_move_14 rfl rfl ?_
      refine gz_icmp_ne (tgt := 28) gd_H_move_15 (by decide) (fun h15 => ?_) (fun h15 => ?_)
      ·
        replace h15 := mt (nI_eq (a := T.home p) (b := o) (by have := hI.1.home p hp; omega) (by have := hI.1.home p hp; omega)).2 h15
        refine gz_aload_n gd_H_move_28 rfl rfl (gz_isr.r _) ?_
        refine gz_aload_n gd_H_move_29 rfl rfl (gz_isr.r _) ?_
        refine gq_getf (y := .ref (5)) gd_H_move_30 gf_H_17 hC.1.house rfl rfl ?_
        refine gz_aload_n gd_H_move_33 rfl rfl (gz_isr.r _) ?_
        refine gq_getf (y := .int (nI (T.home p))) gd_H_move_34 gf_H_167 (hC.2.1.pobj p (by omega) ht) rfl rfl ?_
        have hh := hI.1.home p hp
        refine rc_offs (o := T.home p) gd_H_move_37 hC (by omega) ?_
        refine gz_iload_n gd_H_move_38 rfl rfl ?_
        refine gz_virtual2 gd_H_move_39 hC.1.house rfl rfl gs_H_move_39 (Nat.le_of_ble_eq_true rfl) (Nat.le_of_ble_eq_true rfl) ?_
        have hh := hI.1.home p hp
        replace hC : RC M0 (b + 2) v g (T.w_code 0) M n nc ns := hC.le (by omega)
        refine h_giveUp hC hD (by omega) hh hp (JI.code (v := 0) hI) (hTL.of rfl rfl) (show pot T < 9000 by omega) (fun g1 M1 n1 nc1 ns1 hC => ?_)
        replace hC : RC M0 (b + 4) v g1 (y_gv (T.w_code 0) (T.home p) p) M1 n1 nc1 ns1 := hC
        have htG : (y_gv (T.w_code 0) (T.home p) p).there p = true := gv_there.trans ht
        refine gz_aload_n gd_H_move_42 rfl rfl (gz_isr.r _) ?_
        refine gz_iload_n gd_H_move_43 rfl rfl ?_
        refine rp_home (x := o) gd_H_move_44 gf_H_167 gr_H_move_4_1 hC (by omega) htG (fun M hC => ?_)
        have hhne : o ≠ T.home p := fun e => h15 e.symm
        replace hC : RC M0 (b + 4) v g1 (y_gv ((T.w_code 0).p_home p o) (T.home p) p) M n1 nc1 ns1 := by
          rw [← gv_home]
          exact hC
        have hJh : JI ((T.w_code 0).p_home p o) := (JI.code (v := 0) hI).p_home ho
        replace hC : RC M0 (b + 4) v g1 (y_give ((T.w_code 0).p_home p o) (T.home p) p) M n1 nc1 ns1 := by
          rcases give_cases (T := (T.w_code 0).p_home p o) (h := T.home p) (p := p) with ⟨-, e⟩ | ⟨hup, e⟩
          · rw [e]
            exact hC
          · rw [e]
            obtain ⟨d1, d2⟩ := hdn (T.home p) hh hup
            have d3 : y_waits (((T.w_code 0).p_home p o).p_ow (T.home p) p false) (T.home p) = 0 := waits_0 (fun q hq => by
              show ct2 T.ow (T.home p) p false (T.home p) q = false
              unfold ct2
              split
              · rfl
              · exact (d1 q hq).2) d2
            rw [gv_down (T := (T.w_code 0).p_home p o) (by show T.src (T.home p) p ≠ _; rw [(hI.1.srcN _ p hh hp).1 (d1 p hp).1]; exact fun z => by cases z) d3] at hC
            exact hC.ow_back (d1 p hp).2
        obtain ⟨hGS, hGu, hGh, hGl, hGt, hGc⟩ := give_fr (T := (T.w_code 0).p_home p o) (h := T.home p) (p := p)
        have hGJ : JI (y_give ((T.w_code 0).p_home p o) (T.home p) p) ∧ pot (y_give ((T.w_code 0).p_home p o) (T.home p) p) ≤ pot T + 1 := by
          rcases give_cases (T := (T.w_code 0).p_home p o) (h := T.home p) (p := p) with ⟨-, e⟩ | ⟨hup, e⟩
          · rw [e]
            exact gv_J hJh hh hp (show pot T < 9000 by omega)
          · rw [e]
            exact ⟨hJh, Nat.le_succ _⟩
        have hsrc : (y_give ((T.w_code 0).p_home p o) (T.home p) p).src o p ≠ some o := by
          rw [(hGS o p hhne).2.1]
          exact fun e => h15 (hsh o p ho hp e)
        have how : y_may (y_give ((T.w_code 0).p_home p o) (T.home p) p) o p o = true → (y_give ((T.w_code 0).p_home p o) (T.home p) p).ow o p = false := by
          intro e
          rw [(hGS o p hhne).2.2]
          have e2 : y_may T o p o = true := by
            rw [← e]
            unfold y_may
            rw [(hGS o p hhne).1, (hGS o p hhne).2.1]
            rfl
          exact hown o p ho hp e2
        have eoG : (y_give ((T.w_code 0).p_home p o) (T.home p) p).home p = o := by rw [hGh]; exact if_pos rfl
        have htG : (y_give ((T.w_code 0).p_home p o) (T.home p) p).there p = true := by rw [hGt]; exact ht
        have hlG : (y_give ((T.w_code 0).p_home p o) (T.home p) p).last p = T.last p := by rw [hGl]; rfl
        simp only [z_move, ep, eo, if_neg h15] at k
        generalize hgg : (y_give ((T.w_code 0).p_home p o) (T.home p) p) = G at hC hGS hGu hGJ hsrc how eoG htG hlG hGc k
        refine gz_aload_n gd_H_move_47 rfl rfl (gz_isr.r _) ?_
        refine gq_getf (y := vref v (G.last p)) gd_H_move_48 gf_H_103 (hC.2.1.pobj p (by omega) htG) rfl rfl ?_
        skip
        refine rc_nullV (tgt := 60) gd_H_move_51 (by decide) (fun h51 => ?_) (fun h51 => ?_)
        ·
          try rw [vref_0 h51]
          refine gz_aload_n gd_H_move_60 rfl rfl (gz_isr.r _) ?_
          refine gq_getf (y := .ref (5)) gd_H_move_61 gf_H_17 hC.1.house rfl rfl ?_
          refine gz_iload_n gd_H_move_64 rfl rfl ?_
          refine rc_offs (o := o) gd_H_move_65 hC (by omega) ?_
          refine gq_getf (y := .ref (13 + 6 * o)) gd_H_move_66 gf_H_179 (hC.1.off o (by omega)) rfl rfl ?_
          refine gz_iload_n gd_H_move_69 rfl rfl ?_
          refine rc_src (o := o) (p := p) gd_H_move_70 hC (by omega) (by omega) ?_
          refine gz_iload_n gd_H_move_71 rfl rfl ?_
          refine gz_icmp_ne (tgt := 79) gd_H_move_72 (by decide) (fun h72 => ?_) (fun h72 => ?_)
          ·
            replace h72 := mt (oI_eq (o := o) (fun j hj => hGJ.1.1.src o p j ho hp hj) (by omega)).2 h72
            refine gz_iconst (v := 0) gd_H_move_79 (by decide) ?_
            refine gz_ireturn gd_H_move_80 rfl rfl ?_
            rw [none_94 h51] at k
            exact k _ _ _ _ _ _ (hC.le (by omega)) hGc
          ·
            replace h72 := (oI_eq (o := o) (fun j hj => hGJ.1.1.src o p j ho hp hj) (by omega)).1 h72
            refine gz_iconst (v := 1) gd_H_move_75 (by decide) ?_
            refine gz_goto (tgt := 80) gd_H_move_76 (by decide) ?_
            refine gz_ireturn gd_H_move_80 rfl rfl ?_
            exact absurd h72 hsrc
        ·
          try rw [vref_s h51]
          refine gz_aload_n gd_H_move_54 rfl rfl (gz_isr.r _) ?_
          refine gz_iload_n gd_H_move_55 rfl rfl ?_
          refine gz_aload_n gd_H_move_56 rfl rfl (gz_isr.r _) ?_
          refine gz_virtual2 gd_H_move_57 hC.1.house rfl rfl gs_H_move_57 (Nat.le_of_ble_eq_true rfl) (Nat.le_of_ble_eq_true rfl) ?_
          refine h_offer hC hD (by omega) hp htG eoG hGJ.1.1 (JI.lroom (T := G) (by omega) ho) how (fun g2 M4 n2 nc2 ns2 hC => ?_)
          refine gz_aload_n gd_H_move_60 rfl rfl (gz_isr.r _) ?_
          refine gq_getf (y := .ref (5)) gd_H_move_61 gf_H_17 hC.1.house rfl rfl ?_
          refine gz_iload_n gd_H_move_64 rfl rfl ?_
          refine rc_offs (o := o) gd_H_move_65 hC (by omega) ?_
          refine gq_getf (y := .ref (13 + 6 * o)) gd_H_move_66 gf_H_179 (hC.1.off o (by omega)) rfl rfl ?_
          refine gz_iload_n gd_H_move_69 rfl rfl ?_
          refine rc_src (o := o) (p := p) gd_H_move_70 hC (by omega) (by omega) ?_
          refine gz_iload_n gd_H_move_71 rfl rfl ?_
          refine gz_icmp_ne (tgt := 79) gd_H_move_72 (by decide) (fun h72 => ?_) (fun h72 => ?_)
          ·
            replace h72 := mt (oI_eq (o := o) (offer_bd hGJ.1.1 ho hp) (by omega)).2 h72
            refine gz_iconst (v := 0) gd_H_move_79 (by decide) ?_
            refine gz_ireturn gd_H_move_80 rfl rfl ?_
            obtain ⟨e1, e2, e3⟩ := offer_94 eoG h51 hsrc
            rw [e1] at hC
            have e4 : (z_94 G p o).1 = false := by
              cases e : (z_94 G p o).1
              · rfl
              · exact absurd (e2.2 e) h72
            rw [e4] at k
            exact k _ _ _ _ _ _ (hC.le (by omega)) (e3.trans hGc)
          ·
            replace h72 := (oI_eq (o := o) (offer_bd hGJ.1.1 ho hp) (by omega)).1 h72
            refine gz_iconst (v := 1) gd_H_move_75 (by decide) ?_
            refine gz_goto (tgt := 80) gd_H_move_76 (by decide) ?_
            refine gz_ireturn gd_H_move_80 rfl rfl ?_
            obtain ⟨e1, e2, e3⟩ := offer_94 eoG h51 hsrc
            rw [e1] at hC
            rw [e2.1 h72] at k
            exact k _ _ _ _ _ _ (hC.le (by omega)) (e3.trans hGc)
      ·
        replace h15 := (nI_eq (a := T.home p) (b := o) (by have := hI.1.home p hp; omega) (by have := hI.1.home p hp; omega)).1 h15
        have hrx := hC.room hD (by omega)
        refine gz_throw hls gt_H_move_18 gd_H_move_18 gd_H_move_21 gd_H_move_22 gd_H_move_24 gd_H_move_27 rfl (Nat.le_of_ble_eq_true rfl) (Nat.le_of_ble_eq_true rfl) (by omega) (by omega) ?_
        simp only [z_move, ep, eo, if_pos h15] at kx
        exact kx _ _ _ _ _ _ _ ((((hC.alloc (fun j hj => gz_up_n hj) (by decide)).1).le (by omega)).recode 2) gz_up_s (by show ((2 : Int32), _) ∈ _; decide)
    ·
      simp only [z_move, ep, eo] at kx
      exact kx _ _ _ _ _ _ _ ((hC.le (by omega)).recode 1) hx (by show ((1 : Int32), _) ∈ _; decide)
  ·
    replace ep : isP T xp = none := ep
    simp only [z_move, ep] at kx
    exact kx _ _ _ _ _ _ _ ((hC.le (by omega)).recode 1) hx (by show ((1 : Int32), _) ∈ _; decide)

