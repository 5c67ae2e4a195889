/-! The invariant of a count over version, move, deliver; its start. Printed by wip/whole/inv6.py -/
theorem ver_eq {T : CT} {p : Nat} {x inv bal : Int32} (hd : T.last p ≤ T.vs) : y_ver (((T.w_code 0).w_code 0).w_vs (T.vs + 1)) p (T.last p) x inv bal = ((y_mark (T.reg p) bal (y_fa T (T.last p) 6) (y_al T inv 6)), y_offer (y_v1 (y_vl (((T.w_code 0).w_code 0).w_vs (T.vs + 1)) (T.last p) inv 6).1 p (y_vl (((T.w_code 0).w_code 0).w_vs (T.vs + 1)) (T.last p) inv 6).1.vs x (y_mark (T.reg p) bal (y_fa T (T.last p) 6) (y_al T inv 6))) p) := by
  obtain ⟨-, -, -, b4, b5⟩ := vl_vd (G := (((T.w_code 0).w_code 0).w_vs (T.vs + 1))) (d := T.last p) (inv := inv) (by rw [tv_vs]; omega) 6
  have emk : y_mark ((y_vl (((T.w_code 0).w_code 0).w_vs (T.vs + 1)) (T.last p) inv 6).1.reg p) bal (y_vl (((T.w_code 0).w_code 0).w_vs (T.vs + 1)) (T.last p) inv 6).2.1 (y_vl (((T.w_code 0).w_code 0).w_vs (T.vs + 1)) (T.last p) inv 6).2.2 = (y_mark (T.reg p) bal (y_fa T (T.last p) 6) (y_al T inv 6)) := by
    rw [b4, b5, fa_of (T := T) tv_f.2.2.2.2.2.1 tv_f.2.2.2.2.2.2.2.1, al_of (T := T) tv_f.2.2.2.2.2.2.2.1, (vl_fr 6).2.2.1, tv_f.2.2.1]
  unfold y_ver
  rw [emk]
theorem FZ.offer {G : CT} {p : Nat} : FZ G (y_offer G p) := by
  unfold y_offer
  split
  · exact FZ.own
  · exact FZ.refl
theorem JI.offer {G : CT} {p : Nat} (h : JI G) (hp : p < 40) (hP : pot G < 9000) (hl : 0 < G.last p) : JI (y_offer G p) ∧ pot (y_offer G p) ≤ pot G + 1 := by
  unfold y_offer
  split
  · have := pot_own (T := G) (o := G.home p) (p := p) (h.1.home p hp) hp
    exact ⟨h.own2 (h.1.home p hp) hp hP hl, by omega⟩
  · exact ⟨h, Nat.le_succ _⟩
theorem offer_tl {G : CT} {p : Nat} : (y_offer G p).there = G.there ∧ (y_offer G p).last = G.last := by
  unfold y_offer
  split
  · exact ⟨y_own_there, y_own_last⟩
  · exact ⟨rfl, rfl⟩
theorem IV.version {T : CT} {q : Nat} (h : IV T q) (hq : q ≤ 512) {a x inv bal : Int32} : IV (z_version T a x inv bal).2 (q + 1) := by
  have hb := h.pb hq
  unfold z_version
  split
  · exact h.code.next
  · rename_i p hp
    have hp2 : p < 40 ∧ T.there p = true := by
      unfold isP at hp
      split at hp
      · cases hp
      · rename_i z hz
        split at hp
        · rename_i ht
          cases hp
          exact ⟨(inR_some hz).1, ht⟩
        · cases hp
    obtain ⟨hp40, ht⟩ := hp2
    split
    · exact h.code.code.next
    · split
      · exact h.code.code.next
      · split
        · exact h.code.code.next
        · split
          · exact h.code.code.next
          · rename_i hvs
            have hvb := h.ji.1.vs
            have hlp := h.ji.1.last p hp40
            rw [ver_eq hlp]
            obtain ⟨⟨qthere, qhome, qreg, qhg, qfl, qup, qpar, qep, qtk, qshown, qsrc, qow, qline, qwt, qpost⟩, q1, q2, q3, q4, q5, q6, q7, q8, q9, q10⟩ := ver_G (T := T) (p := p) (x := x) (inv := inv) (bal := bal) hlp
            have hJV : JI (((T.w_code 0).w_code 0).w_vs (T.vs + 1)) := JI.w_vs (JI.code (v := 0) (JI.code (v := 0) h.ji)) (show T.vs + 1 ≤ 300 by omega)
            have hpv : pot (((T.w_code 0).w_code 0).w_vs (T.vs + 1)) = pot T := by rw [pot_wvs, pot_code, pot_code]
            obtain ⟨j1, j2, j3⟩ := vl_f (d := T.last p) (inv := inv) hJV 6
            have hJG : JI (y_v1 (y_vl (((T.w_code 0).w_code 0).w_vs (T.vs + 1)) (T.last p) inv 6).1 p (y_vl (((T.w_code 0).w_code 0).w_vs (T.vs + 1)) (T.last p) inv 6).1.vs x (y_mark (T.reg p) bal (y_fa T (T.last p) 6) (y_al T inv 6))) := j2.v1 (Nat.le_refl _) (by rw [j1]; exact Nat.succ_pos _)
            have hpg : pot (y_v1 (y_vl (((T.w_code 0).w_code 0).w_vs (T.vs + 1)) (T.last p) inv 6).1 p (y_vl (((T.w_code 0).w_code 0).w_vs (T.vs + 1)) (T.last p) inv 6).1.vs x (y_mark (T.reg p) bal (y_fa T (T.last p) 6) (y_al T inv 6))) = pot T := by
              have e1 : ∀ (G : CT) (w : Nat) (y : Int32), pot (G.p_num w y) = pot G := fun _ _ _ => rfl
              have e2 : ∀ (G : CT) (w : Nat) (y : Int32), pot (G.p_mark w y) = pot G := fun _ _ _ => rfl
              have e3 : ∀ (G : CT) (w y : Nat), pot (G.p_last w y) = pot G := fun _ _ _ => rfl
              unfold y_v1
              rw [e3, e2, e1, j3, hpv]
            generalize hMK : (y_mark (T.reg p) bal (y_fa T (T.last p) 6) (y_al T inv 6)) = mk at q7 q10 q1 q2 q3 q4 q5 q6 q8 q9 qthere qhome qreg qhg qfl qup qpar qep qtk qshown qsrc qow qline qwt qpost hJG hpg ⊢
            generalize (y_v1 (y_vl (((T.w_code 0).w_code 0).w_vs (T.vs + 1)) (T.last p) inv 6).1 p (y_vl (((T.w_code 0).w_code 0).w_vs (T.vs + 1)) (T.last p) inv 6).1.vs x mk) = G at q7 q10 q1 q2 q3 q4 q5 q6 q8 q9 qthere qhome qreg qhg qfl qup qpar qep qtk qshown qsrc qow qline qwt qpost hJG hpg ⊢
            have hlG : 0 < G.last p := by rw [q2, ct1_at]; exact Nat.succ_pos _
            obtain ⟨o1, o2⟩ := hJG.offer hp40 (by omega) hlG
            obtain ⟨t1, t2⟩ := offer_tl (G := G) (p := p)
            have f : FZ G (y_offer G p) := FZ.offer
            have hitG : IT G := h.it.of qshown qsrc qow qpar qhome qthere qup
            have hTG : TL G := by
              intro y hy hl
              rw [qthere]
              rw [q2] at hl
              by_cases e : y = p
              · rw [e]; exact ht
              · rw [ct1_ne e] at hl; exact h.tl y hy hl
            dsimp only
            refine ⟨o1, ?_, hTG.of t1 t2, hitG.offer hJG.1 hp40 (by rw [qthere]; exact ht) (by omega), ?_, ?_, fun k hk => ?_, fun w k hw hk => ?_, fun c => ?_⟩
            · have := h.pt
              rw [f.hg, f.fl, qhg, qfl]
              omega
            · rw [f.num, q4 0 (Nat.zero_le _)]; exact h.n0
            · rw [f.mark, q6 0 (Nat.zero_le _)]; exact h.m0
            · rw [f.draft, q3 k hk]; exact ⟨by decide, by decide⟩
            · rw [f.vote]
              rw [f.vs, q1] at hw
              by_cases e : w = T.vs + 1
              · rw [e, q9 k hk]; exact h.dr k hk
              · rw [q8 w k (by omega) hk]; exact h.vo w k (by omega) hk
            · have := f.wt c
              rw [qwt] at this
              have := h.ww c
              omega
theorem IV.move {T : CT} {q : Nat} (h : IV T q) (hq : q ≤ 512) {a b : Int32} : IV (z_move T a b).2 (q + 1) := by
  have hb := h.pb hq
  unfold z_move
  split
  · exact h.code.next
  · rename_i p hp
    have hp2 : p < 40 ∧ T.there p = true := by
      unfold isP at hp
      split at hp
      · cases hp
      · rename_i z hz
        split at hp
        · rename_i ht
          cases hp
          exact ⟨(inR_some hz).1, ht⟩
        · cases hp
    obtain ⟨hp40, ht⟩ := hp2
    split
    · exact h.code.next
    · rename_i o ho
      have ho2 := (inR_some ho).1
      split
      · exact h.code.next
      · have h0 := h.code (x := 0)
        have hh := h.ji.1.home p hp40
        have hit : IT (y_give ((T.w_code 0).p_home p o) (T.home p) p) := h0.it.give h0.ji h0.tl hp40 (by rw [pot_code]; omega)
        obtain ⟨-, g2, g3, g4, g5, -⟩ := give_fr (T := (T.w_code 0).p_home p o) (h := T.home p) (p := p)
        obtain ⟨j1, j2⟩ := give_J (T := (T.w_code 0).p_home p o) (h0.ji.p_home ho2) (u := T.home p) hh hp40 (by rw [pot_phome, pot_code]; omega)
        rw [pot_phome, pot_code] at j2
        have f : FZ (T.w_code 0) (y_give ((T.w_code 0).p_home p o) (T.home p) p) := FZ.p_home.trans FZ.give
        have hG1 : (y_give ((T.w_code 0).p_home p o) (T.home p) p).home p = o := by rw [g3]; exact ct1_at
        have hG2 : (y_give ((T.w_code 0).p_home p o) (T.home p) p).there = T.there := g5
        have hG3 : (y_give ((T.w_code 0).p_home p o) (T.home p) p).last = T.last := g4
        generalize y_give ((T.w_code 0).p_home p o) (T.home p) p = G at hit j1 j2 f hG1 hG2 hG3 ⊢
        have hTG : TL G := h.tl.of hG2 hG3
        unfold z_94
        split
        · split
          · exact h0.mk f j1 (d := 1) (by rw [pot_code]; exact j2) (by omega) hTG hit
          · rename_i hu hl
            have hw := pot_own (T := G) (o := o) (p := p) ho2 hp40
            exact h0.mk (f.trans FZ.own) (j1.own2 ho2 hp40 (by omega) (by omega)) (d := 2) (by rw [pot_code]; show pot (y_own G o p) ≤ _; omega) (by omega) (hTG.of y_own_there y_own_last) (hit.own ho2 hu hG1 (by rw [hG2]; exact ht) hl)
        · exact h0.mk f j1 (d := 1) (by rw [pot_code]; exact j2) (by omega) hTG hit
theorem JI.take {T : CT} {o c p v : Nat} (h : JI T) (ho : o < 12) (hc : c < 12) (hp : p < 40) (hv : v ≤ T.vs) (hP : pot T < 9000) (hW : (T.wt c).length < 2000) : JI (y_take T o c p v) ∧ pot (y_take T o c p v) ≤ pot T + 1 := by
  unfold y_take
  split
  · obtain ⟨j1, j2⟩ := h.filt (p := p) hc
    have j3 := pot_unset (T := T.w_wt (ct1 T.wt c ((T.wt c).filter (fun x => x.1 != p)))) (o := o) (p := p) (j := c) ho
    have j4 := pot_try (T := y_unset (T.w_wt (ct1 T.wt c ((T.wt c).filter (fun x => x.1 != p)))) o p c) ho
    exact ⟨try_JI (j1.unset ho hp (by omega)) ho, by omega⟩
  · rename_i h0
    split
    · have j3 := pot_set (T := T) (o := o) (p := p) (v := v) (s := some c) ho
      refine ⟨⟨h.1.set ho hp hv (fun j hj => by cases hj; exact hc) ⟨fun z => absurd z h0, fun z => by cases z⟩ (JI.lroom hP ho), by omega, ?_⟩, j3⟩
      rw [y_set_ow, y_set_last]
      exact h.2.2
    · have e : potW (T.w_wt (ct1 T.wt c (T.wt c ++ [(p, v)]))) + (T.wt c).length = potW T + (T.wt c ++ [(p, v)]).length := potW_u hc
      rw [List.length_append] at e
      have e1 : pot (T.w_wt (ct1 T.wt c (T.wt c ++ [(p, v)]))) = potL T + potW (T.w_wt (ct1 T.wt c (T.wt c ++ [(p, v)]))) + potO T := rfl
      have e2 : pot T = potL T + potW T + potO T := rfl
      have e3 : [(p, v)].length = 1 := rfl
      refine ⟨⟨h.1.w_wt (by rw [List.length_append]; show _ + 1 ≤ _; omega) (fun x hx => ?_), by omega, h.2.2⟩, by omega⟩
      rcases List.mem_append.mp hx with z | z
      · exact h.1.wt c x hc z
      · rw [List.mem_singleton.mp z]
        exact ⟨hp, Nat.pos_of_ne_zero h0, hv⟩
theorem IT.p_tk {G : CT} {o x : Nat} (h : IT G) : IT (G.p_tk o x) := h.of rfl rfl rfl rfl rfl rfl rfl
theorem IT.drop {G : CT} {i : Nat} (h : IT G) : IT (y_drop G i) := h.of rfl rfl rfl rfl rfl rfl rfl
theorem IV.drop1 {G : CT} {q i : Nat} (h : IV G q) : IV (y_drop G i) (q + 1) := h.mk FZ.w_post h.ji.drop (d := 0) (by rw [pot_drop]; exact Nat.le_refl _) (by omega) (h.tl.of rfl rfl) h.it.drop
theorem ptk_f {G : CT} {o x : Nat} : (G.p_tk o x).wt = G.wt ∧ (G.p_tk o x).par = G.par ∧ (G.p_tk o x).vs = G.vs ∧ (G.p_tk o x).there = G.there ∧ (G.p_tk o x).last = G.last := ⟨rfl, rfl, rfl, rfl, rfl⟩
theorem drop_f {G : CT} {i : Nat} : (y_drop G i).wt = G.wt ∧ (y_drop G i).par = G.par ∧ (y_drop G i).vs = G.vs ∧ (y_drop G i).there = G.there ∧ (y_drop G i).last = G.last := ⟨rfl, rfl, rfl, rfl, rfl⟩
theorem code_f {G : CT} {x : Int32} : (G.w_code x).wt = G.wt ∧ (G.w_code x).par = G.par ∧ (G.w_code x).vs = G.vs ∧ (G.w_code x).there = G.there ∧ (G.w_code x).last = G.last := ⟨rfl, rfl, rfl, rfl, rfl⟩
theorem IV.take1 {T G : CT} {q u : Nat} {y : Nat × Int32 × Nat × Nat × Nat} (h : IV T q) (hq : q < 512) (hb : pot T ≤ 8224) (hu2 : u < 12) (hyb : y.1 < 12 ∧ 0 < y.2.2.1 ∧ y.2.2.1 ≤ 9000 ∧ y.2.2.2.1 < 40 ∧ y.2.2.2.2 ≤ T.vs) (hJ : JI G) (hpt : pot G = pot T) (hit : IT G) (htl : TL G) (hw : ∀ c, (G.wt c).length ≤ q) (hpar : G.par y.1 = some u) (hvv : y.2.2.2.2 ≤ G.vs) (f : FZ (T.w_code 0) G) : IV (y_take G u y.1 y.2.2.2.1 y.2.2.2.2) (q + 1) := by
  have hww := hw y.1
  obtain ⟨t1, t2⟩ := hJ.take hu2 hyb.1 hyb.2.2.2.1 hvv (by omega) (by omega)
  have hti := hit.take (v := y.2.2.2.2) hJ htl hu2 hyb.1 hyb.2.2.2.1 hpar (by omega)
  have htt : (y_take G u y.1 y.2.2.2.1 y.2.2.2.2).there = G.there ∧ (y_take G u y.1 y.2.2.2.1 y.2.2.2.2).last = G.last := by
    unfold y_take
    split
    · exact ⟨try_there.trans (y_unset_there.trans rfl), try_last.trans (y_unset_last.trans rfl)⟩
    · split
      · exact ⟨y_set_there, y_set_last⟩
      · exact ⟨rfl, rfl⟩
  have hfz : (y_take G u y.1 y.2.2.2.1 y.2.2.2.2).num = G.num ∧ (y_take G u y.1 y.2.2.2.1 y.2.2.2.2).mark = G.mark ∧ (y_take G u y.1 y.2.2.2.1 y.2.2.2.2).vote = G.vote ∧ (y_take G u y.1 y.2.2.2.1 y.2.2.2.2).draft = G.draft ∧ (y_take G u y.1 y.2.2.2.1 y.2.2.2.2).vs = G.vs ∧ (y_take G u y.1 y.2.2.2.1 y.2.2.2.2).hg = G.hg ∧ (y_take G u y.1 y.2.2.2.1 y.2.2.2.2).fl = G.fl ∧ ∀ c, ((y_take G u y.1 y.2.2.2.1 y.2.2.2.2).wt c).length ≤ (G.wt c).length + 1 := by
    unfold y_take
    split
    · have f1 : FZ (G.w_wt (ct1 G.wt y.1 ((G.wt y.1).filter (fun x => x.1 != y.2.2.2.1)))) (y_try (y_unset (G.w_wt (ct1 G.wt y.1 ((G.wt y.1).filter (fun x => x.1 != y.2.2.2.1)))) u y.2.2.2.1 y.1) u) := FZ.unset.trans FZ.try
      refine ⟨f1.num, f1.mark, f1.vote, f1.draft, f1.vs, f1.hg, f1.fl, fun c => ?_⟩
      have z1 := f1.wt c
      have z2 : (ct1 G.wt y.1 ((G.wt y.1).filter (fun x => x.1 != y.2.2.2.1)) c).length ≤ (G.wt c).length := by
        by_cases e : c = y.1
        · rw [e, ct1_at]; exact List.length_filter_le _ _
        · rw [ct1_ne e]; exact Nat.le_refl _
      exact Nat.le_trans z1 (Nat.le_succ_of_le z2)
    · split
      · have f1 : FZ G (y_set G u y.2.2.2.1 y.2.2.2.2 (some y.1)) := FZ.set
        exact ⟨f1.num, f1.mark, f1.vote, f1.draft, f1.vs, f1.hg, f1.fl, fun c => Nat.le_succ_of_le (f1.wt c)⟩
      · refine ⟨rfl, rfl, rfl, rfl, rfl, rfl, rfl, fun c => ?_⟩
        show (ct1 G.wt y.1 (G.wt y.1 ++ [(y.2.2.2.1, y.2.2.2.2)]) c).length ≤ _
        by_cases e : c = y.1
        · rw [e, ct1_at, List.length_append]; exact Nat.le_refl _
        · rw [ct1_ne e]; exact Nat.le_succ _
  obtain ⟨z1, z2, z3, z4, z5, z6, z7, z8⟩ := hfz
  refine ⟨t1, ?_, htl.of htt.1 htt.2, hti, by rw [z1, f.num]; exact h.n0, by rw [z2, f.mark]; exact h.m0, by rw [z4, f.draft]; exact h.dr, by rw [z3, z5, f.vote, f.vs]; exact h.vo, fun c => ?_⟩
  · have := h.pt
    have e1 : (T.w_code 0).hg = T.hg := rfl
    have e2 : (T.w_code 0).fl = T.fl := rfl
    rw [z6, z7, f.hg, f.fl, e1, e2]
    omega
  · have := z8 c
    have := hw c
    omega
theorem IV.deliver {T : CT} {q : Nat} (h : IV T q) (hq : q < 512) {a : Int32} : IV (z_deliver T a).2 (q + 1) := by
  have hb := h.pb (Nat.le_of_lt hq)
  unfold z_deliver
  split
  · exact h.code.next
  · rename_i i hi
    split
    · exact h.next
    · rename_i y hy
      have hyb := h.ji.1.post y (List.mem_of_getElem? hy)
      have h0 := h.code (x := 0)
      have hd : IV (y_drop (T.w_code 0) i) (q + 1) := h0.drop1
      split
      · exact hd
      · rename_i u hu
        split
        · split
          · have hu2 := h.ji.1.par y.1 u hyb.1 hu
            have htk := h.ji.1.tk y.1 hyb.1
            rename_i hep hnum
            have hJ : JI ((y_drop (T.w_code 0) i).p_tk y.1 (T.tk y.1 + 1)) := h0.ji.drop.p_tk (by omega)
            have hpt : pot ((y_drop (T.w_code 0) i).p_tk y.1 (T.tk y.1 + 1)) = pot T := by rw [pot_ptk, pot_drop, pot_code]
            have hit : IT ((y_drop (T.w_code 0) i).p_tk y.1 (T.tk y.1 + 1)) := hd.it.p_tk
            have htl : TL ((y_drop (T.w_code 0) i).p_tk y.1 (T.tk y.1 + 1)) := hd.tl.of ptk_f.2.2.2.1 ptk_f.2.2.2.2
            have hw : ∀ c, (((y_drop (T.w_code 0) i).p_tk y.1 (T.tk y.1 + 1)).wt c).length ≤ q := by rw [ptk_f.1, drop_f.1, code_f.1]; exact h.ww
            have hpar : ((y_drop (T.w_code 0) i).p_tk y.1 (T.tk y.1 + 1)).par y.1 = some u := by rw [ptk_f.2.1, drop_f.2.1, code_f.2.1]; exact hu
            have hvv : y.2.2.2.2 ≤ ((y_drop (T.w_code 0) i).p_tk y.1 (T.tk y.1 + 1)).vs := by rw [ptk_f.2.2.1, drop_f.2.2.1, code_f.2.2.1]; exact hyb.2.2.2.2
            have f : FZ (T.w_code 0) ((y_drop (T.w_code 0) i).p_tk y.1 (T.tk y.1 + 1)) := FZ.w_post.trans FZ.p_tk
            exact h.take1 hq hb hu2 hyb hJ hpt hit htl hw hpar hvv f
          · exact hd
        · exact hd
/-- the start -/
theorem IV_0 : IV CT0 0 := by
  have hp : pot CT0 = 0 := by decide
  refine ⟨⟨⟨fun _ _ => (show 0 < 12 by decide), fun _ _ => Nat.le_refl _, Nat.zero_le _, fun o j _ hj => (by cases hj), fun _ _ _ _ => Nat.le_refl _, fun o p j _ _ hj => (by cases hj), fun _ _ _ _ => ⟨fun _ => rfl, fun _ => rfl⟩, fun o x _ hx => (by cases hx), fun _ _ => Nat.zero_le _, fun _ _ => Nat.zero_le _, fun o x _ hx => (by cases hx), fun _ _ => Nat.zero_le _, Nat.zero_le _, fun x hx => (by cases hx), Nat.zero_le _, Nat.zero_le _⟩, by rw [hp]; exact Nat.zero_le _, fun o p _ _ hw => (by cases hw)⟩, by rw [hp]; exact Nat.zero_le _, fun p _ hl => absurd hl (Nat.lt_irrefl _), ⟨fun _ _ _ _ _ _ => rfl, fun o p j _ _ hj => (by cases hj), fun o p _ _ hj => (by cases hj), fun o p _ _ hw => (by cases hw), fun o _ hd => (by cases hd), ⟨fun _ => 0, fun _ _ => (show 0 < 12 by decide), fun o u _ hu => (by cases hu)⟩⟩, rfl, rfl, fun _ _ => ⟨(show 0 ≤ (0 : Int32).toInt by decide), (show (0 : Int32).toInt ≤ 10000000 by decide)⟩, fun _ _ _ _ => ⟨(show 0 ≤ (0 : Int32).toInt by decide), (show (0 : Int32).toInt ≤ 10000000 by decide)⟩, fun _ => Nat.le_refl _⟩
