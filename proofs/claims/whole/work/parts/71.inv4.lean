/-! The invariant of a count: what stays; revive, offering, move, deliver. Printed by wip/whole/inv4.py -/
def FZ (T : CT) (U : CT) : Prop :=
  (U.num = T.num) ∧
  (U.mark = T.mark) ∧
  (U.vote = T.vote) ∧
  (U.draft = T.draft) ∧
  (U.vs = T.vs) ∧
  (U.hg = T.hg) ∧
  (U.fl = T.fl) ∧
  (∀ c, (U.wt c).length ≤ (T.wt c).length)
theorem FZ.num {T : CT} {U : CT} (h : FZ T U) : U.num = T.num := h.1
theorem FZ.mark {T : CT} {U : CT} (h : FZ T U) : U.mark = T.mark := h.2.1
theorem FZ.vote {T : CT} {U : CT} (h : FZ T U) : U.vote = T.vote := h.2.2.1
theorem FZ.draft {T : CT} {U : CT} (h : FZ T U) : U.draft = T.draft := h.2.2.2.1
theorem FZ.vs {T : CT} {U : CT} (h : FZ T U) : U.vs = T.vs := h.2.2.2.2.1
theorem FZ.hg {T : CT} {U : CT} (h : FZ T U) : U.hg = T.hg := h.2.2.2.2.2.1
theorem FZ.fl {T : CT} {U : CT} (h : FZ T U) : U.fl = T.fl := h.2.2.2.2.2.2.1
theorem FZ.wt {T : CT} {U : CT} (h : FZ T U) : ∀ c, (U.wt c).length ≤ (T.wt c).length := h.2.2.2.2.2.2.2
theorem FZ.refl {T : CT} : FZ T T := ⟨rfl, rfl, rfl, rfl, rfl, rfl, rfl, fun _ => Nat.le_refl _⟩
theorem FZ.trans {T U V : CT} (h : FZ T U) (k : FZ U V) : FZ T V := ⟨k.num.trans h.num, k.mark.trans h.mark, k.vote.trans h.vote, k.draft.trans h.draft, k.vs.trans h.vs, k.hg.trans h.hg, k.fl.trans h.fl, fun c => Nat.le_trans (k.wt c) (h.wt c)⟩
theorem FZ.set {T : CT} {o p w : Nat} {s : Option Nat} : FZ T (y_set T o p w s) := ⟨y_set_num, y_set_mark, y_set_vote, y_set_draft, y_set_vs, y_set_hg, y_set_fl, fun c => by rw [y_set_wt]; exact Nat.le_refl _⟩
theorem FZ.unset {T : CT} {o p j : Nat} : FZ T (y_unset T o p j) := ⟨y_unset_num, y_unset_mark, y_unset_vote, y_unset_draft, y_unset_vs, y_unset_hg, y_unset_fl, fun c => by rw [y_unset_wt]; exact Nat.le_refl _⟩
theorem FZ.own {T : CT} {o p : Nat} : FZ T (y_own T o p) := ⟨y_own_num, y_own_mark, y_own_vote, y_own_draft, y_own_vs, y_own_hg, y_own_fl, fun c => by rw [y_own_wt]; exact Nat.le_refl _⟩
theorem FZ.tell {T : CT} {o p v : Nat} : FZ T (y_tell T o p v) := ⟨y_tell_num, y_tell_mark, y_tell_vote, y_tell_draft, y_tell_vs, y_tell_hg, y_tell_fl, fun c => by rw [y_tell_wt]; exact Nat.le_refl _⟩
theorem FZ.send {T : CT} {o k : Nat} {x : Nat × Nat} : FZ T (y_send T o k x) := ⟨y_send_num, y_send_mark, y_send_vote, y_send_draft, y_send_vs, y_send_hg, y_send_fl, fun c => by rw [y_send_wt]; exact Nat.le_refl _⟩
theorem FZ.first {T U : CT} {o c : Nat} (h : y_first T o c = some U) : FZ T U := by
  refine ⟨y_first_num h, y_first_mark h, y_first_vote h, y_first_draft h, y_first_vs h, y_first_hg h, y_first_fl h, fun d => ?_⟩
  obtain ⟨x, xs, e1, -, e3, -⟩ := y_first_wt h
  rw [e3]
  by_cases e : d = c
  · rw [e, ct1_at, e1]; exact Nat.le_succ _
  · rw [ct1_ne e]; exact Nat.le_refl _
theorem FZ.try {T : CT} {o : Nat} : FZ T (y_try T o) := try_ind (Q := fun G => FZ T G) (fun G p _ h _ => h.trans FZ.own) (fun G c U _ h _ e => h.trans (FZ.first e)) FZ.refl
theorem FZ.e1 {T : CT} {o : Nat} : FZ T (y_e1 T o) := ⟨rfl, rfl, rfl, rfl, rfl, rfl, rfl, fun _ => Nat.le_refl _⟩
theorem FZ.e2 {T : CT} {o : Nat} : FZ T (y_e2 T o) := ⟨rfl, rfl, rfl, rfl, rfl, rfl, rfl, fun _ => Nat.le_refl _⟩
theorem FZ.e3 {T : CT} {o : Nat} : FZ T (y_e3 T o) := ⟨rfl, rfl, rfl, rfl, rfl, rfl, rfl, fun _ => Nat.le_refl _⟩
theorem FZ.e4 {T : CT} {o : Nat} : FZ T (y_e4 T o) := by
  refine ⟨rfl, rfl, rfl, rfl, rfl, rfl, rfl, fun c => ?_⟩
  show (ct1 T.wt o [] c).length ≤ _
  by_cases e : c = o
  · rw [e, ct1_at]; exact Nat.zero_le _
  · rw [ct1_ne e]; exact Nat.le_refl _
theorem FZ.end {T : CT} {o : Nat} : FZ T (y_end T o) := ((FZ.e1.trans FZ.e3).trans FZ.e2).trans FZ.e4
theorem FZ.un {T : CT} {a o : Nat} : ∀ i, FZ T (y_un T a o i)
  | 0 => FZ.refl
  | i + 1 => (FZ.un i).trans FZ.unset
theorem FZ.away {T : CT} {o : Nat} : FZ T (y_away T o) := by
  unfold y_away
  cases T.par o with
  | none => exact FZ.refl
  | some a => exact (FZ.end.trans (FZ.un 40)).trans FZ.try
theorem FZ.p_par {T : CT} {o : Nat} {x : Option Nat} : FZ T (T.p_par o x) := ⟨rfl, rfl, rfl, rfl, rfl, rfl, rfl, fun _ => Nat.le_refl _⟩
theorem FZ.p_ep {T : CT} {o : Nat} {x : Int32} : FZ T (T.p_ep o x) := ⟨rfl, rfl, rfl, rfl, rfl, rfl, rfl, fun _ => Nat.le_refl _⟩
theorem FZ.p_up {T : CT} {o : Nat} {x : Bool} : FZ T (T.p_up o x) := ⟨rfl, rfl, rfl, rfl, rfl, rfl, rfl, fun _ => Nat.le_refl _⟩
theorem FZ.p_tk {T : CT} {o x : Nat} : FZ T (T.p_tk o x) := ⟨rfl, rfl, rfl, rfl, rfl, rfl, rfl, fun _ => Nat.le_refl _⟩
theorem FZ.p_home {T : CT} {o x : Nat} : FZ T (T.p_home o x) := ⟨rfl, rfl, rfl, rfl, rfl, rfl, rfl, fun _ => Nat.le_refl _⟩
theorem FZ.p_ow {T : CT} {o p : Nat} {x : Bool} : FZ T (T.p_ow o p x) := ⟨rfl, rfl, rfl, rfl, rfl, rfl, rfl, fun _ => Nat.le_refl _⟩
theorem FZ.p_shown {T : CT} {o p x : Nat} : FZ T (T.p_shown o p x) := ⟨rfl, rfl, rfl, rfl, rfl, rfl, rfl, fun _ => Nat.le_refl _⟩
theorem FZ.p_src {T : CT} {o p : Nat} {x : Option Nat} : FZ T (T.p_src o p x) := ⟨rfl, rfl, rfl, rfl, rfl, rfl, rfl, fun _ => Nat.le_refl _⟩
theorem FZ.w_code {T : CT} {x : Int32} : FZ T (T.w_code x) := ⟨rfl, rfl, rfl, rfl, rfl, rfl, rfl, fun _ => Nat.le_refl _⟩
theorem FZ.w_post {T : CT} {x : List (Nat × Int32 × Nat × Nat × Nat)} : FZ T (T.w_post x) := ⟨rfl, rfl, rfl, rfl, rfl, rfl, rfl, fun _ => Nat.le_refl _⟩
theorem FZ.tl {T : CT} {o : Nat} : ∀ i, FZ T (y_tl T o i)
  | 0 => FZ.refl
  | i + 1 => by
    simp only [y_tl]
    split
    · exact FZ.tl i
    · exact (FZ.tl i).trans FZ.tell
theorem FZ.hang {T : CT} {o u : Nat} : FZ T (y_hang T o u) := ((FZ.away.trans FZ.p_par).trans FZ.p_ep).trans (FZ.tl 40)
theorem FZ.ch {T : CT} {o : Nat} : ∀ i, FZ T (y_ch T o i)
  | 0 => FZ.refl
  | i + 1 => by
    simp only [y_ch]
    split
    · exact (FZ.ch i).trans FZ.end
    · exact FZ.ch i
theorem FZ.clr {T : CT} {o : Nat} : ∀ i, FZ T (y_clr T o i)
  | 0 => FZ.refl
  | i + 1 => (((FZ.clr i).trans FZ.p_shown).trans FZ.p_src).trans FZ.p_ow
theorem FZ.fail {T : CT} {o : Nat} : FZ T (y_fail T o) := ((FZ.away.trans FZ.p_up).trans (FZ.ch 12)).trans (FZ.clr 40)
theorem FZ.rv {T : CT} {o : Nat} : ∀ i, FZ T (y_rv T o i).1
  | 0 => FZ.refl
  | i + 1 => by
    simp only [y_rv]
    split
    · split
      · split
        · exact FZ.rv i
        · exact (FZ.rv i).trans FZ.own
      · exact FZ.rv i
    · exact FZ.rv i
theorem FZ.gv {T : CT} {h p : Nat} : FZ T (y_gv T h p) := (FZ.p_ow.trans FZ.unset).trans FZ.try
theorem FZ.give {T : CT} {h p : Nat} : FZ T (y_give T h p) := by
  rcases give_cases (T := T) (h := h) (p := p) with ⟨-, e⟩ | ⟨-, e⟩
  · rw [e]; exact FZ.gv
  · rw [e]; exact FZ.refl
theorem FZ.rs {T : CT} {o : Nat} : ∀ i, FZ T (y_rs T o i).1
  | 0 => FZ.refl
  | i + 1 => by
    simp only [y_rs]
    split
    · exact FZ.rs i
    · split
      · exact FZ.rs i
      · exact (FZ.rs i).trans FZ.send
/-- reviving: what is at home goes in, and nobody is told -/
theorem pot_set0 {T : CT} {o p w : Nat} {s : Option Nat} (hp : T.par o = none) : pot (y_set T o p w s) = pot T := by
  unfold y_set
  rw [hp]
  rfl
theorem rv_inv {T : CT} {o : Nat} (h : IT T) (hTL : TL T) (ho : o < 12) (hu : T.up o = true) (hp : T.par o = none) (h0 : ∀ p, p < 40 → T.shown o p = 0) : ∀ i, i ≤ 40 → IT (y_rv T o i).1 ∧ (y_rv T o i).1.up = T.up ∧ (y_rv T o i).1.par = T.par ∧ TL (y_rv T o i).1 ∧ pot (y_rv T o i).1 ≤ pot T
  | 0, _ => ⟨h, rfl, rfl, hTL, Nat.le_refl _⟩
  | i + 1, hi => by
    obtain ⟨a1, a2, a3, a4, a5⟩ := rv_inv h hTL ho hu hp h0 i (by omega)
    obtain ⟨f1, -, -, -, -⟩ := rv_fr (T := T) (o := o) i
    simp only [y_rv]
    split
    · rename_i c1
      split
      · rename_i c2
        split
        · exact ⟨a1, a2, a3, a4, a5⟩
        · rename_i c3
          refine ⟨a1.own ho (by rw [a2]; exact hu) c2 c1 c3, y_own_up.trans a2, y_own_par.trans a3, a4.of y_own_there y_own_last, ?_⟩
          have hm : y_may (y_rv T o i).1 o i o = true := by
            unfold y_may
            rw [(f1 i (Nat.le_refl _)).1, h0 i (by omega)]
            rfl
          have e : y_own (y_rv T o i).1 o i = y_set ((y_rv T o i).1.w_ow (ct2 (y_rv T o i).1.ow o i false)) o i ((y_rv T o i).1.last i) (some o) := if_pos hm
          show pot (y_own (y_rv T o i).1 o i) ≤ _
          rw [e, pot_set0 (T := (y_rv T o i).1.w_ow (ct2 (y_rv T o i).1.ow o i false)) (show (y_rv T o i).1.par o = none by rw [a3]; exact hp)]
          have h1 : potO ((y_rv T o i).1.w_ow (ct2 (y_rv T o i).1.ow o i false)) + bN ((y_rv T o i).1.ow o i) = potO (y_rv T o i).1 + bN false := potO_u ho (by omega)
          have h2 : bN false = 0 := rfl
          have h3 : pot ((y_rv T o i).1.w_ow (ct2 (y_rv T o i).1.ow o i false)) = potL (y_rv T o i).1 + potW (y_rv T o i).1 + potO ((y_rv T o i).1.w_ow (ct2 (y_rv T o i).1.ow o i false)) := rfl
          have h4 : pot (y_rv T o i).1 = potL (y_rv T o i).1 + potW (y_rv T o i).1 + potO (y_rv T o i).1 := rfl
          omega
      · exact ⟨a1, a2, a3, a4, a5⟩
    · exact ⟨a1, a2, a3, a4, a5⟩
/-- giving up at home -/
theorem IT.gv {T : CT} {h p : Nat} (hT : IT T) (hI : JI T) (hTL : TL T) (hh : h < 12) (hp : p < 40) (hu : T.up h = true) (hP : pot T < 9000) : IT (y_gv T h p) ∧ (y_gv T h p).src h p ≠ some h ∧ (y_gv T h p).ow h p = false := by
  have hX : IX h (y_unset (T.p_ow h p false) h p h) := ((hT.ix h).ow0 (o := h) (p := p)).unset hh hu
  have hJ0 := hI.p_ow0 hh hp
  have hJ := hJ0.1.unset (j := h) hh hp (by omega)
  have hTX : TL (y_unset (T.p_ow h p false) h p h) := hTL.of (y_unset_there.trans rfl) (y_unset_last.trans rfl)
  refine ⟨hX.tryT hJ hTX hh (by rw [y_unset_up]; exact hu), ?_⟩
  have key := try_ind (o := h) (Q := fun G => G.ow h p = false ∧ G.src h p ≠ some h ∧ G.par = T.par) (T := y_unset (T.p_ow h p false) h p h) (fun G q hq z hw => ?_) (fun G c U hc z hpc hf => ?_) ⟨?_, ?_, ?_⟩
  · exact ⟨key.2.1, key.1⟩
  · have hne : p ≠ q := fun e => by rw [← e, z.1] at hw; cases hw
    refine ⟨(y_own_ow2 (fun y => hne y.2)).trans z.1, ?_, y_own_par.trans z.2.2⟩
    have e : (y_own G h q).src h p = G.src h p := by
      unfold y_own
      split
      · rw [y_set_src]; exact if_neg (fun y => hne y.2)
      · rfl
    rw [e]; exact z.2.1
  · obtain ⟨x, xs, -, -, -, e⟩ := y_first_wt hf
    refine ⟨(by rw [y_first_ow hf]; exact z.1), ?_, (y_first_par hf).trans z.2.2⟩
    rw [e, y_set_src]
    show ct2 G.src h x.1 (some c) h p ≠ some h
    by_cases d : p = x.1
    · rw [← d, ct2_s]
      intro y
      rw [z.2.2, Option.some.inj y] at hpc
      exact hT.ns hh hpc
    · rw [ct2_n (fun y => d y.2)]
      exact z.2.1
  · rw [y_unset_ow]; exact ct2_s
  · unfold y_unset
    split
    · rw [y_set_src, ct2_s]; exact fun y => by cases y
    · rename_i c; exact c
  · exact y_unset_par.trans rfl
theorem IT.p_home {T : CT} {p o : Nat} (h : IT T) (h1 : ∀ x, x < 12 → T.src x p ≠ some x) (h2 : ∀ x, x < 12 → T.ow x p = false) : IT (T.p_home p o) := by
  refine ⟨h.ow, h.sc, fun x q hx hq hj => ?_, fun x q hx hq hw => ?_, h.dn, h.rk⟩
  · have e : q ≠ p := fun e => h1 x hx (by rw [← e]; exact hj)
    obtain ⟨a1, a2⟩ := h.sh x q hx hq hj
    exact ⟨(ct1_ne e).trans a1, a2⟩
  · have e : q ≠ p := fun e => by
      have hw : T.ow x q = true := hw
      rw [e, h2 x hx] at hw; cases hw
    exact (ct1_ne e).trans (h.oh x q hx hq hw)
theorem IT.give {T : CT} {p o : Nat} (hT : IT T) (hI : JI T) (hTL : TL T) (hp : p < 40) (hP : pot T < 9000) : IT (y_give (T.p_home p o) (T.home p) p) := by
  have hh := hI.1.home p hp
  rcases give_cases (T := T.p_home p o) (h := T.home p) (p := p) with ⟨hu, e⟩ | ⟨hu, e⟩
  · rw [e, ← gv_home]
    obtain ⟨g1, g2, g3⟩ := hT.gv hI hTL hh hp hu hP
    have gh : (y_gv T (T.home p) p).home = T.home := gv_homef
    refine g1.p_home (fun x hx hs => ?_) (fun x hx => ?_)
    · have := (g1.sh x p hx hp hs).1
      rw [gh] at this
      rw [← this] at hs
      exact g2 hs
    · cases c : (y_gv T (T.home p) p).ow x p
      · rfl
      · have := g1.oh x p hx hp c
        rw [gh] at this
        rw [← this, g3] at c; cases c
  · rw [e]
    obtain ⟨d1, -, -⟩ := hT.dn (T.home p) hh hu
    refine hT.p_home (fun x hx hs => ?_) (fun x hx => ?_)
    · have := (hT.sh x p hx hp hs).1
      rw [← this, (hI.1.srcN _ p hh hp).1 (d1 p hp).1] at hs
      cases hs
    · cases c : T.ow x p
      · rfl
      · have := hT.oh x p hx hp c
        rw [← this, (d1 p hp).2] at c; cases c
theorem IT.offer {G : CT} {p : Nat} (h : IT G) (hB : Bd G) (hp : p < 40) (ht : G.there p = true) (hl : ¬ G.last p = 0) : IT (y_offer G p) := by
  unfold y_offer
  split
  · rename_i c
    exact h.own (hB.home p hp) c rfl ht hl
  · exact h
theorem IT.z94 {G : CT} {p o : Nat} (h : IT G) (ho : o < 12) (hh : G.home p = o) (ht : G.there p = true) : IT (z_94 G p o).2 := by
  unfold z_94
  split
  · rename_i c
    split
    · exact h
    · rename_i d
      exact h.own ho c hh ht d
  · exact h
theorem IT.take {T : CT} {o c p v : Nat} (h : IT T) (hI : JI T) (hTL : TL T) (ho : o < 12) (hc : c < 12) (hp : p < 40) (hpar : T.par c = some o) (hP : pot T < 9000) : IT (y_take T o c p v) := by
  have hu := h.upc ho hc hpar
  unfold y_take
  split
  · obtain ⟨j1, j2⟩ := hI.filt (p := p) hc
    have hX : IX o (y_unset (T.w_wt (ct1 T.wt c ((T.wt c).filter (fun x => x.1 != p)))) o p c) := ((h.ix o).w_wt).unset ho hu
    exact hX.tryT (j1.unset ho hp (by omega)) (hTL.of (y_unset_there.trans rfl) (y_unset_last.trans rfl)) ho (by rw [y_unset_up]; exact hu)
  · rename_i hv
    split
    · have hX : IX o (y_set T o p v (some c)) := (h.ix o).set ho hu (fun j hj => by cases hj; exact Or.inr ⟨fun z => h.ns ho (by rw [z] at hpar; exact hpar), hpar⟩)
      refine hX.it (fun _ q hq hm => ?_)
      rw [y_set_ow]
      by_cases e : q = p
      · subst e
        unfold y_may at hm
        rw [y_set_shown, y_set_src, ct2_s, ct2_s] at hm
        have hco : c ≠ o := fun z => h.ns ho (by rw [z] at hpar; exact hpar)
        simp [hv, hco] at hm
      · rw [may_of (T := T) (by rw [y_set_shown]; exact ct2_n (fun z => e z.2)) (by rw [y_set_src]; exact ct2_n (fun z => e z.2))] at hm
        exact h.ow o q ho hq (by omega) hm
    · exact IX.w_wt h
