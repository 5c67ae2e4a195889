/-! The invariant of a count over the calls. Printed by wip/whole/inv5.py -/
def IV (T : CT) (q : Nat) : Prop :=
  (JI T) ∧
  (pot T ≤ 80 * T.hg + 80 * T.fl + 2 * q) ∧
  (TL T) ∧
  (IT T) ∧
  (T.num 0 = 0) ∧
  (T.mark 0 = 0) ∧
  (∀ k, k < 6 → 0 ≤ (T.draft k).toInt ∧ (T.draft k).toInt ≤ 10000000) ∧
  (∀ w k, w ≤ T.vs → k < 6 → 0 ≤ (T.vote w k).toInt ∧ (T.vote w k).toInt ≤ 10000000) ∧
  (∀ c, (T.wt c).length ≤ q)
theorem IV.ji {T : CT} {q : Nat} (h : IV T q) : JI T := h.1
theorem IV.pt {T : CT} {q : Nat} (h : IV T q) : pot T ≤ 80 * T.hg + 80 * T.fl + 2 * q := h.2.1
theorem IV.tl {T : CT} {q : Nat} (h : IV T q) : TL T := h.2.2.1
theorem IV.it {T : CT} {q : Nat} (h : IV T q) : IT T := h.2.2.2.1
theorem IV.n0 {T : CT} {q : Nat} (h : IV T q) : T.num 0 = 0 := h.2.2.2.2.1
theorem IV.m0 {T : CT} {q : Nat} (h : IV T q) : T.mark 0 = 0 := h.2.2.2.2.2.1
theorem IV.dr {T : CT} {q : Nat} (h : IV T q) : ∀ k, k < 6 → 0 ≤ (T.draft k).toInt ∧ (T.draft k).toInt ≤ 10000000 := h.2.2.2.2.2.2.1
theorem IV.vo {T : CT} {q : Nat} (h : IV T q) : ∀ w k, w ≤ T.vs → k < 6 → 0 ≤ (T.vote w k).toInt ∧ (T.vote w k).toInt ≤ 10000000 := h.2.2.2.2.2.2.2.1
theorem IV.ww {T : CT} {q : Nat} (h : IV T q) : ∀ c, (T.wt c).length ≤ q := h.2.2.2.2.2.2.2.2
theorem IV.code {T : CT} {q : Nat} (h : IV T q) {x : Int32} : IV (T.w_code x) q := ⟨h.ji.code, h.pt, h.tl, h.it.of rfl rfl rfl rfl rfl rfl rfl, h.n0, h.m0, h.dr, h.vo, h.ww⟩
theorem IV.next {T : CT} {q : Nat} (h : IV T q) : IV T (q + 1) := ⟨h.ji, by have := h.pt; omega, h.tl, h.it, h.n0, h.m0, h.dr, h.vo, fun c => by have := h.ww c; omega⟩
theorem IV.pb {T : CT} {q : Nat} (h : IV T q) (hq : q ≤ 512) : pot T ≤ 8224 := by
  have := h.pt
  have := h.ji.1.hg
  have := h.ji.1.fl
  omega
/-- a state whose other parts are as they were -/
theorem IV.mk {T U : CT} {q d : Nat} (h : IV T q) (f : FZ T U) (ji : JI U) (hp : pot U ≤ pot T + d) (hd : d ≤ 2) (tl : TL U) (it : IT U) : IV U (q + 1) := by
  refine ⟨ji, ?_, tl, it, by rw [f.num]; exact h.n0, by rw [f.mark]; exact h.m0, by rw [f.draft]; exact h.dr, ?_, fun c => ?_⟩
  · have := h.pt
    rw [f.hg, f.fl]
    omega
  · rw [f.vote, f.vs]; exact h.vo
  · have := h.ww c
    have := f.wt c
    omega
theorem IV.mk80 {T U V : CT} {q : Nat} (h : IV T q) (f : FZ V U) (e : V.num = T.num ∧ V.mark = T.mark ∧ V.vote = T.vote ∧ V.draft = T.draft ∧ V.vs = T.vs ∧ V.wt = T.wt ∧ V.hg + V.fl = T.hg + T.fl + 1) (ji : JI U) (hp : pot U ≤ pot T + 80) (tl : TL U) (it : IT U) : IV U (q + 1) := by
  obtain ⟨e1, e2, e3, e4, e5, e6, e7⟩ := e
  refine ⟨ji, ?_, tl, it, by rw [f.num, e1]; exact h.n0, by rw [f.mark, e2]; exact h.m0, by rw [f.draft, e4]; exact h.dr, ?_, fun c => ?_⟩
  · have := h.pt
    rw [f.hg, f.fl]
    omega
  · rw [f.vote, f.vs, e3, e5]; exact h.vo
  · have := h.ww c
    have := f.wt c
    rw [e6] at this
    omega
theorem IV.votes {T : CT} {q : Nat} (h : IV T q) {a v : Int32} : IV (z_votes T a v).2 (q + 1) := by
  unfold z_votes
  split
  · exact h.code.next
  · split
    · exact h.code.next
    · rename_i k hk hv
      have hc := cnt_ok hv
      have h1 := (h.code (x := 0)).next
      refine ⟨⟨h1.ji.1.w_draft, h1.ji.2.1, h1.ji.2.2⟩, h1.pt, h1.tl, h1.it.of rfl rfl rfl rfl rfl rfl rfl, h1.n0, h1.m0, fun z hz => ?_, h1.vo, h1.ww⟩
      show 0 ≤ (ct1 T.draft k v z).toInt ∧ (ct1 T.draft k v z).toInt ≤ 10000000
      by_cases e : z = k
      · rw [e, ct1_at]; exact hc
      · rw [ct1_ne e]; exact h.dr z hz
theorem IV.precinct {T : CT} {q : Nat} (h : IV T q) {a b r : Int32} : IV (z_precinct T a b r) (q + 1) := by
  unfold z_precinct
  split
  · exact h.code.next
  · rename_i p hp
    split
    · exact h.code.next
    · rename_i o ho
      split
      · exact h.code.next
      · split
        · exact h.code.next
        · rename_i hnt
          have hp2 := (inR_some hp).1
          have ho2 := (inR_some ho).1
          have h1 := (h.code (x := 0)).next
          have hs : ∀ x, x < 12 → T.src x p ≠ some x := fun x hx e => hnt (h.it.sh x p hx hp2 e).2
          have hw : ∀ x, x < 12 → T.ow x p = false := by
            intro x hx
            cases e : T.ow x p
            · rfl
            · exact absurd (h.tl p hp2 (h.ji.2.2 x p hx hp2 e)) hnt
          have hA : IT ((T.w_code 0).p_there p true) := by
            refine ⟨h1.it.ow, h1.it.sc, fun x y hx hy hj => ⟨(h1.it.sh x y hx hy hj).1, ?_⟩, h1.it.oh, h1.it.dn, h1.it.rk⟩
            show ct1 T.there p true y = true
            by_cases e : y = p
            · rw [e, ct1_at]
            · rw [ct1_ne e]; exact (h1.it.sh x y hx hy hj).2
          have hB : IT (((T.w_code 0).p_there p true).p_home p o) := hA.p_home hs hw
          have hJ : JI ((T.w_code 0).p_there p true) := ⟨h1.ji.1.w_there, h1.ji.2.1, h1.ji.2.2⟩
          have hJ2 : JI (((T.w_code 0).p_there p true).p_home p o) := hJ.p_home ho2
          have hJ3 : JI ((((T.w_code 0).p_there p true).p_home p o).p_reg p r) := ⟨hJ2.1.w_reg, hJ2.2.1, hJ2.2.2⟩
          have hT3 : TL ((((T.w_code 0).p_there p true).p_home p o).p_reg p r) := by
            intro y hy hl
            show ct1 T.there p true y = true
            by_cases e : y = p
            · rw [e, ct1_at]
            · rw [ct1_ne e]; exact h.tl y hy hl
          have f : FZ (T.w_code 0) ((((T.w_code 0).p_there p true).p_home p o).p_reg p r) := by
            have a1 : ∀ (G : CT) (x : Bool), FZ G (G.p_there p x) := fun _ _ => ⟨rfl, rfl, rfl, rfl, rfl, rfl, rfl, fun _ => Nat.le_refl _⟩
            have a2 : ∀ (G : CT) (x : Int32), FZ G (G.p_reg p x) := fun _ _ => ⟨rfl, rfl, rfl, rfl, rfl, rfl, rfl, fun _ => Nat.le_refl _⟩
            exact ((a1 _ _).trans FZ.p_home).trans (a2 _ _)
          have e1 : ∀ (G : CT) (x : Bool), pot (G.p_there p x) = pot G := fun _ _ => rfl
          have e2 : ∀ (G : CT) (x : Int32), pot (G.p_reg p x) = pot G := fun _ _ => rfl
          exact (h.code (x := 0)).mk f hJ3 (d := 0) (by rw [e2, pot_phome, e1]; exact Nat.le_refl _) (by omega) hT3 (hB.of rfl rfl rfl rfl rfl rfl rfl)
theorem JI.w_post {T : CT} (h : JI T) {xs : List (Nat × Int32 × Nat × Nat × Nat)} (h1 : xs.length ≤ 500) (h2 : ∀ x, x ∈ xs → x.1 < 12 ∧ 0 < x.2.2.1 ∧ x.2.2.1 ≤ 9000 ∧ x.2.2.2.1 < 40 ∧ x.2.2.2.2 ≤ T.vs) : JI (T.w_post xs) := ⟨h.1.w_post h1 h2, h.2.1, h.2.2⟩
theorem pot_wpost {T : CT} {xs : List (Nat × Int32 × Nat × Nat × Nat)} : pot (T.w_post xs) = pot T := rfl
theorem IV.drop {T : CT} {q : Nat} (h : IV T q) {a : Int32} : IV (z_drop T a).2 (q + 1) := by
  unfold z_drop
  split
  · exact h.code.next
  · exact (h.code (x := 0)).mk FZ.w_post (h.ji.code.drop) (d := 0) (by rw [pot_drop]; exact Nat.le_refl _) (by omega) h.tl (h.it.of rfl rfl rfl rfl rfl rfl rfl)
theorem IV.twin {T : CT} {q : Nat} (h : IV T q) {a : Int32} : IV (z_twin T a).2 (q + 1) := by
  unfold z_twin
  split
  · exact h.code.next
  · split
    · exact h.code.next
    · rename_i i hi hn
      unfold y_twin
      split
      · exact h.code.next
      · rename_i y hy
        have hN := h.ji.1.postN
        refine (h.code (x := 0)).mk FZ.w_post (JI.w_post h.ji.code (by rw [List.length_append]; show T.post.length + 1 ≤ 500; omega) (fun x hx => ?_)) (d := 0) (by rw [pot_wpost]; exact Nat.le_refl _) (by omega) h.tl (h.it.of rfl rfl rfl rfl rfl rfl rfl)
        rcases List.mem_append.mp hx with z | z
        · exact h.ji.1.post x z
        · rw [List.mem_singleton.mp z]
          exact h.ji.1.post y (List.mem_of_getElem? hy)
theorem rs_J {T : CT} {o : Nat} (h : JI T) (ho : o < 12) : ∀ i, i ≤ 9000 → JI (y_rs T o i).1 ∧ pot (y_rs T o i).1 = pot T ∧ (y_rs T o i).1.there = T.there ∧ (y_rs T o i).1.last = T.last ∧ (IT T → IT (y_rs T o i).1)
  | 0, _ => ⟨h, rfl, rfl, rfl, fun z => z⟩
  | i + 1, hi => by
    obtain ⟨a1, a2, a3, a4, a5⟩ := rs_J h ho i (by omega)
    have hfv : (y_rs T o i).1.vs = T.vs := (FZ.rs i).vs
    simp only [y_rs]
    split
    · exact ⟨a1, a2, a3, a4, a5⟩
    · split
      · exact ⟨a1, a2, a3, a4, a5⟩
      · rename_i x hx
        have hb := h.1.line o x ho (List.mem_of_getElem? hx)
        refine ⟨⟨a1.1.send ho (by omega) hi hb.1 (by rw [hfv]; exact hb.2), by rw [pot_send]; exact a1.2.1, by rw [y_send_ow, y_send_last]; exact a1.2.2⟩, by rw [pot_send]; exact a2, y_send_there.trans a3, y_send_last.trans a4, fun z => (a5 z).of y_send_shown y_send_src y_send_ow y_send_par y_send_home y_send_there y_send_up⟩
theorem IV.resend {T : CT} {q : Nat} (h : IV T q) {a : Int32} : IV (z_resend T a).2 (q + 1) := by
  unfold z_resend
  split
  · exact h.code.next
  · rename_i o ho
    split
    · exact h.code.next
    · have ho2 := (inR_some ho).1
      obtain ⟨a1, a2, a3, a4, a5⟩ := rs_J (T := T.w_code 0) h.ji.code ho2 (T.line o).length (h.ji.1.lineN o ho2)
      exact (h.code (x := 0)).mk (FZ.rs _) a1 (d := 0) (by rw [a2]; exact Nat.le_refl _) (by omega) (h.tl.of a3 a4) (a5 (h.it.of rfl rfl rfl rfl rfl rfl rfl))
theorem IV.revive {T : CT} {q : Nat} (h : IV T q) (hq : q ≤ 512) {a : Int32} : IV (z_revive T a).2 (q + 1) := by
  unfold z_revive
  split
  · exact h.code.next
  · rename_i o ho
    split
    · exact h.code.next
    · rename_i hu
      have ho2 := (inR_some ho).1
      have hd : T.up o = false := by
        cases e : T.up o
        · rfl
        · exact absurd e hu
      obtain ⟨d1, d2, d3⟩ := h.it.dn o ho2 hd
      have hb := h.pb hq
      have hI : JI ((T.w_code 0).p_up o true) := (JI.code (v := 0) h.ji).p_up
      have hpt : pot ((T.w_code 0).p_up o true) = pot T := rfl
      have hit : IT ((T.w_code 0).p_up o true) := IT.p_up (h.it.of rfl rfl rfl rfl rfl rfl rfl)
      obtain ⟨r1, r2, r3, r4, r5⟩ := rv_inv hit (h.tl.of rfl rfl) ho2 (show ct1 T.up o true o = true from ct1_at) d2 (fun p hp => (d1 p hp).1) 40 (Nat.le_refl _)
      exact (h.code (x := 0)).mk (FZ.p_up.trans (FZ.rv 40)) (rv_J hI ho2 (by rw [hpt]; omega) 40 (Nat.le_refl _)).1 (d := 0) (by rw [hpt] at r5; exact r5) (by omega) r4 r1
theorem hgV {T : CT} : ((T.w_code 0).w_hg (T.hg + 1)).num = T.num ∧ ((T.w_code 0).w_hg (T.hg + 1)).mark = T.mark ∧ ((T.w_code 0).w_hg (T.hg + 1)).vote = T.vote ∧ ((T.w_code 0).w_hg (T.hg + 1)).draft = T.draft ∧ ((T.w_code 0).w_hg (T.hg + 1)).vs = T.vs ∧ ((T.w_code 0).w_hg (T.hg + 1)).wt = T.wt ∧ ((T.w_code 0).w_hg (T.hg + 1)).hg + ((T.w_code 0).w_hg (T.hg + 1)).fl = T.hg + T.fl + 1 := ⟨rfl, rfl, rfl, rfl, rfl, rfl, by show T.hg + 1 + T.fl = _; omega⟩
theorem IV.hang {T : CT} {q : Nat} (h : IV T q) (hq : q ≤ 512) {a b : Int32} : IV (z_hang T a b).2 (q + 1) := by
  have hb := h.pb hq
  unfold z_hang
  split
  · exact h.code.next
  · rename_i o ho
    split
    · exact h.code.next
    · rename_i u hu
      have ho2 := (inR_some ho).1
      have hu2 := (inR_some hu).1
      split
      · exact h.code.next
      · split
        · exact h.code.next
        · split
          · rename_i h1
            split
            · rename_i h2
              split
              · exact h.code.code.next
              · rename_i h3
                split
                · exact h.code.code.next
                · rename_i h4
                  have hin : y_in T o 12 (some u) = false := by
                    cases e : y_in T o 12 (some u)
                    · rfl
                    · exact absurd (by rw [h.it.und h.ji.1 o u hu2, e]) h3
                  have hhg := h.ji.1.hg
                  rw [code_code]
                  have hJ : JI ((T.w_code 0).w_hg (T.hg + 1)) := (JI.code (v := 0) h.ji).w_hg (by omega)
                  have hpt : pot ((T.w_code 0).w_hg (T.hg + 1)) = pot T := by rw [pot_whg, pot_code]
                  have hit : IT ((T.w_code 0).w_hg (T.hg + 1)) := h.it.of rfl rfl rfl rfl rfl rfl rfl
                  have hin2 : y_in ((T.w_code 0).w_hg (T.hg + 1)) o 12 (some u) = false := by
                    have : ∀ k z, y_in ((T.w_code 0).w_hg (T.hg + 1)) o k z = y_in T o k z := by
                      intro k
                      induction k with
                      | zero => intro z; rfl
                      | succ k ih =>
                        intro z
                        cases z with
                        | none => rfl
                        | some z =>
                          show (if z = o then true else y_in ((T.w_code 0).w_hg (T.hg + 1)) o k (T.par z)) = (if z = o then true else y_in T o k (T.par z))
                          rw [ih]
                    rw [this]; exact hin
                  obtain ⟨j1, j2⟩ := hg_J (u := u) hJ ho2 hu2 (by rw [hpt]; omega)
                  obtain ⟨k1, k2⟩ := tl_J j1 ho2 (by omega) 40 (Nat.le_refl _)
                  obtain ⟨-, -, -, w3, w4, -⟩ := hit.away hJ (h.tl.of rfl rfl) ho2 (by rw [hpt]; omega)
                  have htl : TL (y_hang ((T.w_code 0).w_hg (T.hg + 1)) o u) := by
                    refine h.tl.of ((tl_f2 40).2.2.2.2.2.1.trans (hg_f.2.2.2.2.1.trans w3)) ?_
                    have e1 : ∀ i, (y_tl (y_hg ((T.w_code 0).w_hg (T.hg + 1)) o u) o i).last = (y_hg ((T.w_code 0).w_hg (T.hg + 1)) o u).last := by
                      intro i
                      induction i with
                      | zero => rfl
                      | succ i ih =>
                        simp only [y_tl]
                        split
                        · exact ih
                        · exact y_tell_last.trans ih
                    refine (e1 40).trans ?_
                    unfold y_hg
                    rw [pep_f.2.1, ppar_f.2]
                    exact w4
                  have hpu : pot (y_hang ((T.w_code 0).w_hg (T.hg + 1)) o u) ≤ pot T + 80 := by
                    unfold y_hang
                    rw [hpt] at j2
                    omega
                  have fz : FZ ((T.w_code 0).w_hg (T.hg + 1)) (y_hang ((T.w_code 0).w_hg (T.hg + 1)) o u) := FZ.hang
                  have hkJ : JI (y_hang ((T.w_code 0).w_hg (T.hg + 1)) o u) := k1
                  have hiT := hit.hang hJ (h.tl.of rfl rfl) ho2 hu2 (by rw [hpt]; omega) h1 h2 hin2
                  have eV := hgV (T := T)
                  generalize (T.w_code 0).w_hg (T.hg + 1) = V at fz hkJ hpu htl hiT eV ⊢
                  have res := h.mk80 fz eV hkJ hpu htl hiT
                  dsimp only
                  exact res
            · exact h.code.code.next
          · exact h.code.code.next
theorem JI.ch {T : CT} {o : Nat} (h : JI T) : ∀ i, i ≤ 12 → JI (y_ch T o i) ∧ pot (y_ch T o i) ≤ pot T
  | 0, _ => ⟨h, Nat.le_refl _⟩
  | i + 1, hi => by
    obtain ⟨a1, a2⟩ := JI.ch (o := o) h i (by omega)
    simp only [y_ch]
    split
    · have := pot_end (T := y_ch T o i) (o := i) (by omega)
      exact ⟨a1.end (by omega), by omega⟩
    · exact ⟨a1, a2⟩
theorem JI.clr {T : CT} {o : Nat} (h : JI T) (ho : o < 12) : ∀ i, i ≤ 40 → JI (y_clr T o i) ∧ pot (y_clr T o i) ≤ pot T
  | 0, _ => ⟨h, Nat.le_refl _⟩
  | i + 1, hi => by
    obtain ⟨a1, a2⟩ := JI.clr h ho i (by omega)
    simp only [y_clr]
    have hB : Bd (((y_clr T o i).p_shown o i 0).p_src o i none) := a1.1.put (o := o) (p := i) (v := 0) (s := none) (Nat.zero_le _) (fun j hj => by cases hj) ⟨fun _ => rfl, fun _ => rfl⟩
    have hp : ∀ (G : CT) (w : Nat), pot (G.p_shown o i w) = pot G := fun _ _ => rfl
    have hp2 : ∀ (G : CT) (w : Option Nat), pot (G.p_src o i w) = pot G := fun _ _ => rfl
    have f1 : ∀ (G : CT) (w : Nat), (G.p_shown o i w).ow = G.ow ∧ (G.p_shown o i w).last = G.last := fun _ _ => ⟨rfl, rfl⟩
    have f2 : ∀ (G : CT) (w : Option Nat), (G.p_src o i w).ow = G.ow ∧ (G.p_src o i w).last = G.last := fun _ _ => ⟨rfl, rfl⟩
    have hJ : JI (((y_clr T o i).p_shown o i 0).p_src o i none) := ⟨hB, by rw [hp2, hp]; exact a1.2.1, by rw [(f2 _ _).1, (f1 _ _).1, (f2 _ _).2, (f1 _ _).2]; exact a1.2.2⟩
    obtain ⟨b1, b2⟩ := hJ.p_ow0 (p := i) ho (by omega)
    rw [hp2, hp] at b2
    exact ⟨b1, by omega⟩
theorem IV.fail {T : CT} {q : Nat} (h : IV T q) (hq : q ≤ 512) {a : Int32} : IV (z_fail T a).2 (q + 1) := by
  have hb := h.pb hq
  unfold z_fail
  split
  · exact h.code.next
  · rename_i o ho
    split
    · split
      · exact h.code.next
      · have ho2 := (inR_some ho).1
        have hfl := h.ji.1.fl
        have hJ : JI ((T.w_code 0).w_fl (T.fl + 1)) := (JI.code (v := 0) h.ji).w_fl (by omega)
        have hpt : pot ((T.w_code 0).w_fl (T.fl + 1)) = pot T := by rw [pot_wfl, pot_code]
        have hit : IT ((T.w_code 0).w_fl (T.fl + 1)) := h.it.of rfl rfl rfl rfl rfl rfl rfl
        have hP : pot ((T.w_code 0).w_fl (T.fl + 1)) + 40 ≤ 9000 := by rw [hpt]; omega
        obtain ⟨i1, i2⟩ := hit.fail hJ (h.tl.of rfl rfl) ho2 hP
        have w1 := away_J hJ ho2 hP
        have w2 := pot_away hJ ho2 hP
        have w3 : JI (y_f0 ((T.w_code 0).w_fl (T.fl + 1)) o) := w1.p_up
        have w4 : ∀ (G : CT), pot (G.p_up o false) = pot G := fun _ => rfl
        have w5 : pot (y_f0 ((T.w_code 0).w_fl (T.fl + 1)) o) ≤ pot T + 40 := by
          unfold y_f0
          rw [w4]; rw [hpt] at w2; exact w2
        obtain ⟨c1, c2⟩ := w3.ch (o := o) 12 (Nat.le_refl _)
        obtain ⟨k1, k2⟩ := c1.clr ho2 40 (Nat.le_refl _)
        exact h.mk80 (V := (T.w_code 0).w_fl (T.fl + 1)) FZ.fail ⟨rfl, rfl, rfl, rfl, rfl, rfl, (by show T.hg + (T.fl + 1) = _; omega)⟩ k1 (by show pot (y_clr _ o 40) ≤ _; omega) i2 i1
    · exact h.code.next
