/-! The invariant of a count: what the calls do to the tree. Printed by wip/whole/inv2.py -/
theorem IT.of {T T' : CT} (h : IT T) (e1 : T'.shown = T.shown) (e2 : T'.src = T.src) (e3 : T'.ow = T.ow) (e4 : T'.par = T.par) (e5 : T'.home = T.home) (e6 : T'.there = T.there) (e7 : T'.up = T.up) : IT T' := IX.of h e1 e2 e3 e4 e5 e6 e7
theorem end_f {T : CT} {o : Nat} : (y_end T o).shown = T.shown ∧ (y_end T o).home = T.home ∧ (y_end T o).there = T.there := by
  have a : ∀ (G : CT), (y_e1 G o).shown = G.shown ∧ (y_e1 G o).home = G.home ∧ (y_e1 G o).there = G.there := fun _ => ⟨rfl, rfl, rfl⟩
  have b : ∀ (G : CT), (y_e2 G o).shown = G.shown ∧ (y_e2 G o).home = G.home ∧ (y_e2 G o).there = G.there := fun _ => ⟨rfl, rfl, rfl⟩
  have c : ∀ (G : CT), (y_e3 G o).shown = G.shown ∧ (y_e3 G o).home = G.home ∧ (y_e3 G o).there = G.there := fun _ => ⟨rfl, rfl, rfl⟩
  have d : ∀ (G : CT), (y_e4 G o).shown = G.shown ∧ (y_e4 G o).home = G.home ∧ (y_e4 G o).there = G.there := fun _ => ⟨rfl, rfl, rfl⟩
  unfold y_end
  rw [(d _).1, (b _).1, (c _).1, (a _).1, (d _).2.1, (b _).2.1, (c _).2.1, (a _).2.1, (d _).2.2, (b _).2.2, (c _).2.2, (a _).2.2]
  exact ⟨rfl, rfl, rfl⟩
/-- what is above an office loses it -/
theorem IT.away {T : CT} {o : Nat} (h : IT T) (hI : JI T) (hTL : TL T) (ho : o < 12) (hP : pot T + 40 ≤ 9000) : IT (y_away T o) ∧ (y_away T o).up = T.up ∧ (y_away T o).home = T.home ∧ (y_away T o).there = T.there ∧ (y_away T o).last = T.last ∧ TL (y_away T o) := by
  unfold y_away
  cases e : T.par o with
  | none => exact ⟨h, rfl, rfl, rfl, rfl, hTL⟩
  | some a =>
    have ha := hI.1.par o a ho e
    have hao : a ≠ o := fun z => h.ns ho (by rw [e, z])
    have hua : T.up a = true := h.upc ha ho e
    have hP2 : pot (y_end T o) + 40 ≤ 9000 := by have := pot_end (T := T) ho; omega
    obtain ⟨u1, u2, u3, u4, u5⟩ := un_src (T := y_end T o) (a := a) (o := o) 40
    have hJ := (un_J (hI.end ho) ha hP2 (o := o) 40 (Nat.le_refl _)).1
    obtain ⟨f1, f2, f3⟩ := un_fr (T := y_end T o) (a := a) (o := o) 40
    obtain ⟨g1, g2, g3⟩ := end_f (T := T) (o := o)
    have hpar : (y_un (y_end T o) a o 40).par = ct1 T.par o none := by rw [f3, end_parf]
    have hpn : ∀ c, c ≠ o → (y_un (y_end T o) a o 40).par c = T.par c := fun c hc => by rw [hpar]; exact ct1_ne hc
    have hpo : (y_un (y_end T o) a o 40).par o = none := by rw [hpar]; exact ct1_at
    have hup : (y_un (y_end T o) a o 40).up = T.up := u4.trans end_upf
    have hho : (y_un (y_end T o) a o 40).home = T.home := u3.trans g2
    have hth : (y_un (y_end T o) a o 40).there = T.there := f1.trans g3
    have hla : (y_un (y_end T o) a o 40).last = T.last := f2.trans y_end_last
    have how : (y_un (y_end T o) a o 40).ow = T.ow := u5.trans y_end_ow
    have hTX : TL (y_un (y_end T o) a o 40) := hTL.of hth hla
    have hsa : ∀ p, p < 40 → ∀ j, (y_un (y_end T o) a o 40).src a p = some j → T.src a p = some j ∧ j ≠ o := by
      intro p hp j hj
      rw [u1 p, end_src] at hj
      by_cases c : p < 40 ∧ T.src a p = some o
      · rw [if_pos c] at hj; cases hj
      · rw [if_neg c] at hj
        exact ⟨hj, fun z => c ⟨hp, by rw [hj, z]⟩⟩
    have hSx : ∀ x p, x ≠ a → (y_un (y_end T o) a o 40).shown x p = T.shown x p ∧ (y_un (y_end T o) a o 40).src x p = T.src x p := by
      intro x p hx
      obtain ⟨b1, b2, -⟩ := u2 x p hx
      exact ⟨b1.trans (by rw [g1]), b2.trans (by rw [end_src])⟩
    have hX : IX a (y_un (y_end T o) a o 40) := by
      refine ⟨fun x p hx hp hne hm => ?_, fun x p j hx hp hj => ?_, fun x p hx hp hj => ?_, fun x p hx hp hw => ?_, fun x hx hd => ?_, ?_⟩
      · rw [may_of (T := T) (hSx x p hne).1 (hSx x p hne).2] at hm
        rw [how]
        exact h.ow x p hx hp (by omega) hm
      · by_cases c : x = a
        · subst c
          obtain ⟨q1, q2⟩ := hsa p hp j hj
          rw [hpn j q2]
          exact h.sc x p j hx hp q1
        · rw [(hSx x p c).2] at hj
          rcases h.sc x p j hx hp hj with z | z
          · exact Or.inl z
          · by_cases d : j = o
            · rw [d, e] at z
              exact absurd (Option.some.inj z).symm c
            · rw [hpn j d]; exact Or.inr z
      · rw [hho, hth]
        by_cases c : x = a
        · subst c
          exact h.sh x p hx hp (hsa p hp x hj).1
        · rw [(hSx x p c).2] at hj
          exact h.sh x p hx hp hj
      · rw [how] at hw
        rw [hho]
        exact h.oh x p hx hp hw
      · rw [hup] at hd
        obtain ⟨d1, d2, d3⟩ := h.dn x hx hd
        have hne : x ≠ a := fun z => by rw [z, hua] at hd; cases hd
        refine ⟨fun p hp => ?_, ?_, fun c hc => ?_⟩
        · rw [(hSx x p hne).1, how]; exact d1 p hp
        · by_cases c : x = o
          · rw [c]; exact hpo
          · rw [hpn x c]; exact d2
        · by_cases c2 : c = o
          · rw [c2, hpo]; exact fun z => by cases z
          · rw [hpn c c2]; exact d3 c hc
      · obtain ⟨r, r1, r2⟩ := h.rk
        refine ⟨r, r1, fun x y hx hy => ?_⟩
        by_cases c : x = o
        · rw [c, hpo] at hy; cases hy
        · rw [hpn x c] at hy; exact r2 x y hx hy
    refine ⟨hX.tryT hJ hTX ha (by rw [hup]; exact hua), ?_, ?_, ?_, ?_, ?_⟩
    · exact try_up.trans hup
    · exact try_home.trans hho
    · exact try_there.trans hth
    · exact try_last.trans hla
    · exact hTX.try
/-- ranks below twelve -/
theorem sN_mono {f g : Nat → Nat} : ∀ {n : Nat}, (∀ i, i < n → f i ≤ g i) → sN n f ≤ sN n g
  | 0, _ => Nat.le_refl _
  | n + 1, h => by
    show sN n f + f n ≤ sN n g + g n
    have := sN_mono (n := n) (fun j hj => h j (by omega))
    have := h n (by omega)
    omega
theorem sN_lt {f g : Nat → Nat} : ∀ {n : Nat}, (∀ i, i < n → f i ≤ g i) → (∃ i, i < n ∧ f i < g i) → sN n f < sN n g
  | 0, _, ⟨_, h, _⟩ => absurd h (Nat.not_lt_zero _)
  | n + 1, h, ⟨i, hi, hl⟩ => by
    show sN n f + f n < sN n g + g n
    by_cases c : i = n
    · subst c
      have : sN i f ≤ sN i g := sN_mono (fun j hj => h j (by omega))
      omega
    · have := sN_lt (n := n) (fun j hj => h j (by omega)) ⟨i, by omega, hl⟩
      have := h n (by omega)
      omega
theorem rk_small {P : Nat → Option Nat} {r : Nat → Nat} (hb : ∀ o u, o < 12 → P o = some u → u < 12) (h : ∀ o u, o < 12 → P o = some u → r u < r o) : ∃ r : Nat → Nat, (∀ o, o < 12 → r o < 12) ∧ ∀ o u, o < 12 → P o = some u → r u < r o := by
  refine ⟨fun x => sN 12 (fun y => if r y < r x then 1 else 0), fun o ho => ?_, fun o u ho hu => ?_⟩
  · have h1 : sN 12 (fun y => if r y < r o then 1 else 0) < sN 12 (fun _ => 1) := sN_lt (fun i _ => by show (if r i < r o then 1 else 0) ≤ 1; split <;> omega) ⟨o, ho, by show (if r o < r o then 1 else 0) < 1; rw [if_neg (by omega)]; omega⟩
    exact h1
  · have hu2 := hb o u ho hu
    have hr := h o u ho hu
    refine sN_lt (fun i _ => ?_) ⟨u, hu2, ?_⟩
    · show (if r i < r u then 1 else 0) ≤ (if r i < r o then 1 else 0)
      by_cases c : r i < r u
      · rw [if_pos c, if_pos (by omega)]; omega
      · rw [if_neg c]; omega
    · show (if r u < r u then 1 else 0) < (if r u < r o then 1 else 0)
      rw [if_neg (by omega), if_pos hr]; omega
/-- the walk upwards ends -/
theorem und_in {T : CT} {top : Nat} {r : Nat → Nat} (hb : ∀ o u, o < 12 → T.par o = some u → u < 12) (h : ∀ o u, o < 12 → T.par o = some u → r u < r o) : ∀ k a, a < 12 → r a < k → y_und T top (k + 1) (some a) = some (y_in T top k (some a))
  | 0, a, _, hr => absurd hr (Nat.not_lt_zero _)
  | k + 1, a, ha, hr => by
    simp only [y_und, y_in]
    by_cases c : a = top
    · rw [if_pos c, if_pos c]
    · rw [if_neg c, if_neg c]
      cases e : T.par a with
      | none =>
        cases k with
        | zero => rfl
        | succ k => rfl
      | some u =>
        have := h a u ha e
        exact und_in hb h k u (hb a u ha e) (by omega)
theorem in_more {T : CT} {top : Nat} {r : Nat → Nat} (hb : ∀ o u, o < 12 → T.par o = some u → u < 12) (h : ∀ o u, o < 12 → T.par o = some u → r u < r o) : ∀ k a, a < 12 → r a < k → y_in T top (k + 1) (some a) = y_in T top k (some a)
  | 0, a, _, hr => absurd hr (Nat.not_lt_zero _)
  | k + 1, a, ha, hr => by
    have e1 : y_in T top (k + 1 + 1) (some a) = if a = top then true else y_in T top (k + 1) (T.par a) := rfl
    have e2 : y_in T top (k + 1) (some a) = if a = top then true else y_in T top k (T.par a) := rfl
    rw [e1, e2]
    by_cases c : a = top
    · rw [if_pos c, if_pos c]
    · rw [if_neg c, if_neg c]
      cases e : T.par a with
      | none =>
        cases k with
        | zero => rfl
        | succ k => rfl
      | some u =>
        have := h a u ha e
        exact in_more hb h k u (hb a u ha e) (by omega)
theorem IT.und {T : CT} (h : IT T) (hB : Bd T) : ∀ o u, u < 12 → y_und T o 13 (some u) = some (y_in T o 12 (some u)) := by
  obtain ⟨r, r1, r2⟩ := h.rk
  intro o u hu
  exact und_in (fun a b ha hb => hB.par a b ha hb) r2 12 u hu (r1 u hu)
theorem tl_f2 {T : CT} {o : Nat} : ∀ i, (y_tl T o i).shown = T.shown ∧ (y_tl T o i).src = T.src ∧ (y_tl T o i).ow = T.ow ∧ (y_tl T o i).par = T.par ∧ (y_tl T o i).home = T.home ∧ (y_tl T o i).there = T.there ∧ (y_tl T o i).up = T.up
  | 0 => ⟨rfl, rfl, rfl, rfl, rfl, rfl, rfl⟩
  | i + 1 => by
    have ih := tl_f2 (T := T) (o := o) i
    simp only [y_tl]
    split
    · exact ih
    · exact ⟨y_tell_shown.trans ih.1, y_tell_src.trans ih.2.1, y_tell_ow.trans ih.2.2.1, y_tell_par.trans ih.2.2.2.1, y_tell_home.trans ih.2.2.2.2.1, y_tell_there.trans ih.2.2.2.2.2.1, y_tell_up.trans ih.2.2.2.2.2.2⟩
theorem hg_f {T : CT} {o u : Nat} : (y_hg T o u).shown = (y_away T o).shown ∧ (y_hg T o u).src = (y_away T o).src ∧ (y_hg T o u).ow = (y_away T o).ow ∧ (y_hg T o u).home = (y_away T o).home ∧ (y_hg T o u).there = (y_away T o).there ∧ (y_hg T o u).up = (y_away T o).up ∧ (y_hg T o u).par = ct1 (y_away T o).par o (some u) := by
  have a : ∀ (G : CT) (x : Option Nat), (G.p_par o x).shown = G.shown ∧ (G.p_par o x).src = G.src ∧ (G.p_par o x).ow = G.ow ∧ (G.p_par o x).home = G.home ∧ (G.p_par o x).there = G.there ∧ (G.p_par o x).up = G.up ∧ (G.p_par o x).par = ct1 G.par o x := fun _ _ => ⟨rfl, rfl, rfl, rfl, rfl, rfl, rfl⟩
  have b : ∀ (G : CT) (x : Int32), (G.p_ep o x).shown = G.shown ∧ (G.p_ep o x).src = G.src ∧ (G.p_ep o x).ow = G.ow ∧ (G.p_ep o x).home = G.home ∧ (G.p_ep o x).there = G.there ∧ (G.p_ep o x).up = G.up ∧ (G.p_ep o x).par = G.par := fun _ _ => ⟨rfl, rfl, rfl, rfl, rfl, rfl, rfl⟩
  unfold y_hg
  exact ⟨(b _ _).1.trans (a _ _).1, (b _ _).2.1.trans (a _ _).2.1, (b _ _).2.2.1.trans (a _ _).2.2.1, (b _ _).2.2.2.1.trans (a _ _).2.2.2.1, (b _ _).2.2.2.2.1.trans (a _ _).2.2.2.2.1, (b _ _).2.2.2.2.2.1.trans (a _ _).2.2.2.2.2.1, (b _ _).2.2.2.2.2.2.trans (a _ _).2.2.2.2.2.2⟩
theorem IT.hang {T : CT} {o u : Nat} (h : IT T) (hI : JI T) (hTL : TL T) (ho : o < 12) (hu : u < 12) (hP : pot T + 40 ≤ 9000) (h1 : T.up o = true) (h2 : T.up u = true) (hin : y_in T o 12 (some u) = false) : IT (y_hang T o u) := by
  obtain ⟨hA, a1, a2, a3, -, -⟩ := h.away hI hTL ho hP
  have ap := away_par hI ho hP
  obtain ⟨t1, t2, t3, t4, t5, t6, t7⟩ := tl_f2 (T := y_hg T o u) (o := o) 40
  obtain ⟨g1, g2, g3, g4, g5, g6, g7⟩ := hg_f (T := T) (o := o) (u := u)
  have pn : ∀ c, c ≠ o → (y_hg T o u).par c = T.par c := fun c hc => by rw [g7, ct1_ne hc, ap c, if_neg hc]
  have po : (y_hg T o u).par o = some u := by rw [g7]; exact ct1_at
  refine IT.of (T := y_hg T o u) ?_ t1 t2 t3 t4 t5 t6 t7
  refine ⟨fun x p hx hp _ hm => ?_, fun x p j hx hp hj => ?_, fun x p hx hp hj => ?_, fun x p hx hp hw => ?_, fun x hx hd => ?_, ?_⟩
  · rw [may_of (T := y_away T o) (by rw [g1]) (by rw [g2])] at hm
    rw [g3]
    exact hA.ow x p hx hp (by omega) hm
  · rw [g2] at hj
    rcases hA.sc x p j hx hp hj with z | z
    · exact Or.inl z
    · by_cases c : j = o
      · rw [c, ap o, if_pos rfl] at z; cases z
      · rw [ap j, if_neg c] at z
        rw [pn j c]; exact Or.inr z
  · rw [g2] at hj
    rw [g4, g5]
    exact hA.sh x p hx hp hj
  · rw [g3] at hw
    rw [g4]
    exact hA.oh x p hx hp hw
  · rw [g6] at hd
    obtain ⟨d1, d2, d3⟩ := hA.dn x hx hd
    have hxo : x ≠ o := fun z => by rw [a1, z, h1] at hd; cases hd
    have hxu : x ≠ u := fun z => by rw [a1, z, h2] at hd; cases hd
    refine ⟨fun p hp => by rw [g1, g3]; exact d1 p hp, ?_, fun c hc => ?_⟩
    · rw [g7, ct1_ne hxo]; exact d2
    · rw [g7]
      by_cases c2 : c = o
      · rw [c2, ct1_at]; exact fun z => hxu (Option.some.inj z).symm
      · rw [ct1_ne c2]; exact d3 c hc
  · obtain ⟨r, r1, r2⟩ := h.rk
    have hb : ∀ a b, a < 12 → T.par a = some b → b < 12 := fun a b ha hb => hI.1.par a b ha hb
    refine rk_small (r := fun x => if y_in T o 12 (some x) = true then r x + 12 else r x) (fun x y hx hy => ?_) (fun x y hx hy => ?_)
    · by_cases c : x = o
      · rw [c, po] at hy; cases hy; exact hu
      · rw [pn x c] at hy; exact hb x y hx hy
    · show (if y_in T o 12 (some y) = true then r y + 12 else r y) < (if y_in T o 12 (some x) = true then r x + 12 else r x)
      by_cases c : x = o
      · subst c
        rw [po] at hy
        cases hy
        rw [if_neg (by rw [hin]; exact Bool.false_ne_true), if_pos (show y_in T x 12 (some x) = true from if_pos rfl)]
        have := r1 u hu
        omega
      · rw [pn x c] at hy
        have hr := r2 x y hx hy
        have hy2 := hb x y hx hy
        have e : y_in T o 12 (some x) = y_in T o 12 (some y) := by
          have e1 : y_in T o 12 (some x) = if x = o then true else y_in T o 11 (T.par x) := rfl
          have := r1 x hx
          rw [e1, if_neg c, hy, in_more hb r2 11 y hy2 (by omega)]
        rw [e]
        split <;> omega
