/-! The invariant of a count: fail, revive, offering, move, deliver. Printed by wip/whole/inv3.py -/
theorem end_of {T : CT} {c : Nat} : (y_end T c).shown = T.shown ∧ (y_end T c).src = T.src ∧ (y_end T c).ow = T.ow ∧ (y_end T c).home = T.home ∧ (y_end T c).there = T.there ∧ (y_end T c).up = T.up ∧ (y_end T c).last = T.last := ⟨end_f.1, end_src, y_end_ow, end_f.2.1, end_f.2.2, end_upf, y_end_last⟩
theorem ch_f {T : CT} {o : Nat} : ∀ i, (y_ch T o i).shown = T.shown ∧ (y_ch T o i).src = T.src ∧ (y_ch T o i).ow = T.ow ∧ (y_ch T o i).home = T.home ∧ (y_ch T o i).there = T.there ∧ (y_ch T o i).last = T.last ∧ ∀ c, (y_ch T o i).par c = if c < i ∧ T.par c = some o then none else T.par c
  | 0 => ⟨rfl, rfl, rfl, rfl, rfl, rfl, fun c => by rw [if_neg (by omega)]; rfl⟩
  | i + 1 => by
    obtain ⟨a1, a2, a3, a4, a5, a6, a7⟩ := ch_f (T := T) (o := o) i
    have hi := a7 i
    rw [if_neg (by omega)] at hi
    simp only [y_ch]
    by_cases d : (y_ch T o i).par i = some o
    · rw [if_pos d]
      obtain ⟨b1, b2, b3, b4, b5, b6, b7⟩ := end_of (T := y_ch T o i) (c := i)
      refine ⟨b1.trans a1, b2.trans a2, b3.trans a3, b4.trans a4, b5.trans a5, b7.trans a6, fun c => ?_⟩
      rw [end_parf]
      by_cases e : c = i
      · rw [e, ct1_at, if_pos ⟨by omega, by rw [← hi]; exact d⟩]
      · rw [ct1_ne e, a7 c]
        by_cases f : c < i ∧ T.par c = some o
        · rw [if_pos f, if_pos ⟨by omega, f.2⟩]
        · rw [if_neg f, if_neg (fun z => f ⟨by omega, z.2⟩)]
    · rw [if_neg d]
      refine ⟨a1, a2, a3, a4, a5, a6, fun c => ?_⟩
      rw [a7 c]
      by_cases e : c = i
      · subst e
        rw [if_neg (by omega), if_neg (fun z => d (by rw [hi]; exact z.2))]
      · by_cases f : c < i ∧ T.par c = some o
        · rw [if_pos f, if_pos ⟨by omega, f.2⟩]
        · rw [if_neg f, if_neg (fun z => f ⟨by omega, z.2⟩)]
theorem c3_f {G : CT} {o p : Nat} : (((G.p_shown o p 0).p_src o p none).p_ow o p false).shown = ct2 G.shown o p 0 ∧ (((G.p_shown o p 0).p_src o p none).p_ow o p false).src = ct2 G.src o p none ∧ (((G.p_shown o p 0).p_src o p none).p_ow o p false).ow = ct2 G.ow o p false ∧ (((G.p_shown o p 0).p_src o p none).p_ow o p false).par = G.par ∧ (((G.p_shown o p 0).p_src o p none).p_ow o p false).home = G.home ∧ (((G.p_shown o p 0).p_src o p none).p_ow o p false).there = G.there ∧ (((G.p_shown o p 0).p_src o p none).p_ow o p false).last = G.last := by
  have a : ∀ (G : CT) (x : Bool), (G.p_ow o p x).shown = G.shown ∧ (G.p_ow o p x).src = G.src ∧ (G.p_ow o p x).ow = ct2 G.ow o p x ∧ (G.p_ow o p x).par = G.par ∧ (G.p_ow o p x).home = G.home ∧ (G.p_ow o p x).there = G.there ∧ (G.p_ow o p x).last = G.last := fun _ _ => ⟨rfl, rfl, rfl, rfl, rfl, rfl, rfl⟩
  have b : ∀ (G : CT) (x : Option Nat), (G.p_src o p x).shown = G.shown ∧ (G.p_src o p x).src = ct2 G.src o p x ∧ (G.p_src o p x).ow = G.ow ∧ (G.p_src o p x).par = G.par ∧ (G.p_src o p x).home = G.home ∧ (G.p_src o p x).there = G.there ∧ (G.p_src o p x).last = G.last := fun _ _ => ⟨rfl, rfl, rfl, rfl, rfl, rfl, rfl⟩
  have c : ∀ (G : CT) (x : Nat), (G.p_shown o p x).shown = ct2 G.shown o p x ∧ (G.p_shown o p x).src = G.src ∧ (G.p_shown o p x).ow = G.ow ∧ (G.p_shown o p x).par = G.par ∧ (G.p_shown o p x).home = G.home ∧ (G.p_shown o p x).there = G.there ∧ (G.p_shown o p x).last = G.last := fun _ _ => ⟨rfl, rfl, rfl, rfl, rfl, rfl, rfl⟩
  refine ⟨(a _ _).1.trans ((b _ _).1.trans (c _ _).1), (a _ _).2.1.trans ((b _ _).2.1.trans (by rw [(c _ _).2.1])), (a _ _).2.2.1.trans (by rw [(b _ _).2.2.1, (c _ _).2.2.1]), (a _ _).2.2.2.1.trans ((b _ _).2.2.2.1.trans (c _ _).2.2.2.1), (a _ _).2.2.2.2.1.trans ((b _ _).2.2.2.2.1.trans (c _ _).2.2.2.2.1), (a _ _).2.2.2.2.2.1.trans ((b _ _).2.2.2.2.2.1.trans (c _ _).2.2.2.2.2.1), (a _ _).2.2.2.2.2.2.trans ((b _ _).2.2.2.2.2.2.trans (c _ _).2.2.2.2.2.2)⟩
theorem clr_f {T : CT} {o : Nat} : ∀ i, (∀ x p, (y_clr T o i).shown x p = if x = o ∧ p < i then 0 else T.shown x p) ∧ (∀ x p, (y_clr T o i).src x p = if x = o ∧ p < i then none else T.src x p) ∧ (∀ x p, (y_clr T o i).ow x p = if x = o ∧ p < i then false else T.ow x p) ∧ (y_clr T o i).par = T.par ∧ (y_clr T o i).home = T.home ∧ (y_clr T o i).there = T.there ∧ (y_clr T o i).last = T.last
  | 0 => ⟨fun x p => by rw [if_neg (by omega)]; rfl, fun x p => by rw [if_neg (by omega)]; rfl, fun x p => by rw [if_neg (by omega)]; rfl, rfl, rfl, rfl, rfl⟩
  | i + 1 => by
    obtain ⟨a1, a2, a3, a4, a5, a6, a7⟩ := clr_f (T := T) (o := o) i
    obtain ⟨b1, b2, b3, b4, b5, b6, b7⟩ := c3_f (G := y_clr T o i) (o := o) (p := i)
    simp only [y_clr]
    refine ⟨fun x p => ?_, fun x p => ?_, fun x p => ?_, b4.trans a4, b5.trans a5, b6.trans a6, b7.trans a7⟩
    · rw [b1]
      by_cases e : x = o ∧ p = i
      · rw [e.1, e.2, ct2_s, if_pos (by omega)]
      · rw [ct2_n e, a1 x p]
        by_cases f : x = o ∧ p < i
        · rw [if_pos f, if_pos (by omega)]
        · rw [if_neg f, if_neg (by omega)]
    · rw [b2]
      by_cases e : x = o ∧ p = i
      · rw [e.1, e.2, ct2_s, if_pos (by omega)]
      · rw [ct2_n e, a2 x p]
        by_cases f : x = o ∧ p < i
        · rw [if_pos f, if_pos (by omega)]
        · rw [if_neg f, if_neg (by omega)]
    · rw [b3]
      by_cases e : x = o ∧ p = i
      · rw [e.1, e.2, ct2_s, if_pos (by omega)]
      · rw [ct2_n e, a3 x p]
        by_cases f : x = o ∧ p < i
        · rw [if_pos f, if_pos (by omega)]
        · rw [if_neg f, if_neg (by omega)]
theorem IT.fail {T : CT} {o : Nat} (h : IT T) (hI : JI T) (hTL : TL T) (ho : o < 12) (hP : pot T + 40 ≤ 9000) : IT (y_fail T o) ∧ TL (y_fail T o) := by
  obtain ⟨hA, a1, a2, a3, a4, a5⟩ := h.away hI hTL ho hP
  have ap := away_par hI ho hP
  unfold y_fail
  obtain ⟨c1, c2, c3, c4, c5, c6, c7⟩ := ch_f (T := y_f0 T o) (o := o) 12
  obtain ⟨k1, k2, k3, k4, k5, k6, k7⟩ := clr_f (T := y_ch (y_f0 T o) o 12) (o := o) 40
  have f0 : (y_f0 T o).shown = (y_away T o).shown ∧ (y_f0 T o).src = (y_away T o).src ∧ (y_f0 T o).ow = (y_away T o).ow ∧ (y_f0 T o).par = (y_away T o).par ∧ (y_f0 T o).home = (y_away T o).home ∧ (y_f0 T o).there = (y_away T o).there ∧ (y_f0 T o).last = (y_away T o).last ∧ (y_f0 T o).up = ct1 (y_away T o).up o false := by
    have a : ∀ (G : CT) (x : Bool), (G.p_up o x).shown = G.shown ∧ (G.p_up o x).src = G.src ∧ (G.p_up o x).ow = G.ow ∧ (G.p_up o x).par = G.par ∧ (G.p_up o x).home = G.home ∧ (G.p_up o x).there = G.there ∧ (G.p_up o x).last = G.last ∧ (G.p_up o x).up = ct1 G.up o x := fun _ _ => ⟨rfl, rfl, rfl, rfl, rfl, rfl, rfl, rfl⟩
    exact a _ _
  obtain ⟨g1, g2, g3, g4, g5, g6, g7, g8⟩ := f0
  have hup : (y_clr (y_ch (y_f0 T o) o 12) o 40).up = ct1 T.up o false := by rw [clr_upf, ch_upf, g8, a1]
  have hpar : ∀ c, c < 12 → (y_clr (y_ch (y_f0 T o) o 12) o 40).par c = if (y_away T o).par c = some o then none else (y_away T o).par c := by
    intro c hc
    rw [k4, c7 c, g4]
    by_cases e : (y_away T o).par c = some o
    · rw [if_pos ⟨hc, e⟩, if_pos e]
    · rw [if_neg (fun z => e z.2), if_neg e]
  have hsh : ∀ x p, p < 40 → (y_clr (y_ch (y_f0 T o) o 12) o 40).shown x p = if x = o then 0 else (y_away T o).shown x p := by
    intro x p hp
    rw [k1 x p, c1, g1]
    by_cases e : x = o
    · rw [if_pos ⟨e, hp⟩, if_pos e]
    · rw [if_neg (fun z => e z.1), if_neg e]
  have hsr : ∀ x p, p < 40 → (y_clr (y_ch (y_f0 T o) o 12) o 40).src x p = if x = o then none else (y_away T o).src x p := by
    intro x p hp
    rw [k2 x p, c2, g2]
    by_cases e : x = o
    · rw [if_pos ⟨e, hp⟩, if_pos e]
    · rw [if_neg (fun z => e z.1), if_neg e]
  have how : ∀ x p, p < 40 → (y_clr (y_ch (y_f0 T o) o 12) o 40).ow x p = if x = o then false else (y_away T o).ow x p := by
    intro x p hp
    rw [k3 x p, c3, g3]
    by_cases e : x = o
    · rw [if_pos ⟨e, hp⟩, if_pos e]
    · rw [if_neg (fun z => e z.1), if_neg e]
  have hho : (y_clr (y_ch (y_f0 T o) o 12) o 40).home = T.home := k5.trans (c4.trans (g5.trans a2))
  have hth : (y_clr (y_ch (y_f0 T o) o 12) o 40).there = T.there := k6.trans (c5.trans (g6.trans a3))
  have hla : (y_clr (y_ch (y_f0 T o) o 12) o 40).last = T.last := k7.trans (c6.trans (g7.trans a4))
  refine ⟨⟨fun x p hx hp _ hm => ?_, fun x p j hx hp hj => ?_, fun x p hx hp hj => ?_, fun x p hx hp hw => ?_, fun x hx hd => ?_, ?_⟩, hTL.of hth hla⟩
  · rw [how x p hp]
    by_cases e : x = o
    · rw [if_pos e]
    · rw [if_neg e]
      rw [may_of (T := y_away T o) (by rw [hsh x p hp, if_neg e]) (by rw [hsr x p hp, if_neg e])] at hm
      exact hA.ow x p hx hp (by omega) hm
  · rw [hsr x p hp] at hj
    by_cases e : x = o
    · rw [if_pos e] at hj; cases hj
    · rw [if_neg e] at hj
      rcases hA.sc x p j hx hp hj with z | z
      · exact Or.inl z
      · have hj2 : j < 12 := (away_J hI ho hP).1.src x p j hx hp hj
        rw [hpar j hj2, if_neg (by rw [z]; exact fun y => e (Option.some.inj y))]
        exact Or.inr z
  · rw [hsr x p hp] at hj
    by_cases e : x = o
    · rw [if_pos e] at hj; cases hj
    · rw [if_neg e] at hj
      rw [hho, hth, ← a2, ← a3]
      exact hA.sh x p hx hp hj
  · rw [how x p hp] at hw
    by_cases e : x = o
    · rw [if_pos e] at hw; cases hw
    · rw [if_neg e] at hw
      rw [hho, ← a2]
      exact hA.oh x p hx hp hw
  · by_cases e : x = o
    · subst e
      refine ⟨fun p hp => by rw [hsh x p hp, how x p hp, if_pos rfl, if_pos rfl]; exact ⟨rfl, rfl⟩, ?_, fun c hc => ?_⟩
      · rw [hpar x hx, ap x, if_pos rfl, if_neg (fun z => by cases z)]
      · rw [hpar c hc]
        by_cases d : (y_away T x).par c = some x
        · rw [if_pos d]; exact fun z => by cases z
        · rw [if_neg d]; exact d
    · rw [hup, ct1_ne e] at hd
      obtain ⟨d1, d2, d3⟩ := hA.dn x hx (by rw [a1]; exact hd)
      refine ⟨fun p hp => by rw [hsh x p hp, how x p hp, if_neg e, if_neg e]; exact d1 p hp, ?_, fun c hc => ?_⟩
      · rw [hpar x hx, d2, if_neg (fun z => by cases z)]
      · rw [hpar c hc]
        by_cases d : (y_away T o).par c = some o
        · rw [if_pos d]; exact fun z => by cases z
        · rw [if_neg d]; exact d3 c hc
  · obtain ⟨r, r1, r2⟩ := hA.rk
    refine ⟨r, r1, fun x y hx hy => ?_⟩
    rw [hpar x hx] at hy
    by_cases d : (y_away T o).par x = some o
    · rw [if_pos d] at hy; cases hy
    · rw [if_neg d] at hy; exact r2 x y hx hy
theorem IT.p_up {T : CT} {o : Nat} (h : IT T) : IT (T.p_up o true) := by
  refine ⟨h.ow, h.sc, h.sh, h.oh, fun x hx hd => ?_, h.rk⟩
  have hd : ct1 T.up o true x = false := hd
  by_cases e : x = o
  · rw [e, ct1_at] at hd; cases hd
  · rw [ct1_ne e] at hd; exact h.dn x hx hd
