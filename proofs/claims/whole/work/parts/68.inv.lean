/-! The invariant of a count: the tree and what is included. Printed by wip/whole/inv.py -/
def IX (x : Nat) (T : CT) : Prop :=
  (∀ o p, o < 12 → p < 40 → o ≠ x → y_may T o p o = true → T.ow o p = false) ∧
  (∀ o p j, o < 12 → p < 40 → T.src o p = some j → j = o ∨ T.par j = some o) ∧
  (∀ o p, o < 12 → p < 40 → T.src o p = some o → T.home p = o ∧ T.there p = true) ∧
  (∀ o p, o < 12 → p < 40 → T.ow o p = true → T.home p = o) ∧
  (∀ o, o < 12 → T.up o = false → (∀ p, p < 40 → T.shown o p = 0 ∧ T.ow o p = false) ∧ T.par o = none ∧ ∀ c, c < 12 → T.par c ≠ some o) ∧
  (∃ r : Nat → Nat, (∀ o, o < 12 → r o < 12) ∧ ∀ o u, o < 12 → T.par o = some u → r u < r o)
theorem IX.ow {x : Nat} {T : CT} (h : IX x T) : ∀ o p, o < 12 → p < 40 → o ≠ x → y_may T o p o = true → T.ow o p = false := h.1
theorem IX.sc {x : Nat} {T : CT} (h : IX x T) : ∀ o p j, o < 12 → p < 40 → T.src o p = some j → j = o ∨ T.par j = some o := h.2.1
theorem IX.sh {x : Nat} {T : CT} (h : IX x T) : ∀ o p, o < 12 → p < 40 → T.src o p = some o → T.home p = o ∧ T.there p = true := h.2.2.1
theorem IX.oh {x : Nat} {T : CT} (h : IX x T) : ∀ o p, o < 12 → p < 40 → T.ow o p = true → T.home p = o := h.2.2.2.1
theorem IX.dn {x : Nat} {T : CT} (h : IX x T) : ∀ o, o < 12 → T.up o = false → (∀ p, p < 40 → T.shown o p = 0 ∧ T.ow o p = false) ∧ T.par o = none ∧ ∀ c, c < 12 → T.par c ≠ some o := h.2.2.2.2.1
theorem IX.rk {x : Nat} {T : CT} (h : IX x T) : ∃ r : Nat → Nat, (∀ o, o < 12 → r o < 12) ∧ ∀ o u, o < 12 → T.par o = some u → r u < r o := h.2.2.2.2.2
def OW (o : Nat) (T : CT) : Prop := ∀ p, p < 40 → y_may T o p o = true → T.ow o p = false
def IT (T : CT) : Prop := IX 12 T
theorem IT.ix {T : CT} (h : IT T) (x : Nat) : IX x T := ⟨fun o p ho hp _ => h.ow o p ho hp (by omega), h.sc, h.sh, h.oh, h.dn, h.rk⟩
theorem IX.it {x : Nat} {T : CT} (h : IX x T) (hO : x < 12 → OW x T) : IT T := by
  refine ⟨fun o p ho hp _ hm => ?_, h.sc, h.sh, h.oh, h.dn, h.rk⟩
  by_cases e : o = x
  · subst e
    exact hO ho p hp hm
  · exact h.ow o p ho hp e hm
theorem may_of {T T' : CT} {o p j : Nat} (h1 : T'.shown o p = T.shown o p) (h2 : T'.src o p = T.src o p) : y_may T' o p j = y_may T o p j := by
  unfold y_may
  rw [h1, h2]
theorem IX.of {x : Nat} {T T' : CT} (h : IX x T) (e1 : T'.shown = T.shown) (e2 : T'.src = T.src) (e3 : T'.ow = T.ow) (e4 : T'.par = T.par) (e5 : T'.home = T.home) (e6 : T'.there = T.there) (e7 : T'.up = T.up) : IX x T' := by
  unfold IX y_may
  rw [e1, e2, e3, e4, e5, e6, e7]
  exact h
theorem IX.ns {x : Nat} {T : CT} (h : IX x T) {o : Nat} (ho : o < 12) : T.par o ≠ some o := by
  obtain ⟨r, -, h2⟩ := h.rk
  intro e
  exact Nat.lt_irrefl _ (h2 o o ho e)
theorem IX.upc {x : Nat} {T : CT} (h : IX x T) {o c : Nat} (ho : o < 12) (hc : c < 12) (hp : T.par c = some o) : T.up o = true := by
  cases e : T.up o
  · exact absurd hp ((h.dn o ho e).2.2 c hc)
  · rfl
theorem IX.set {T : CT} {o p w : Nat} {s : Option Nat} (h : IX o T) (ho : o < 12) (hu : T.up o = true) (hs : ∀ j, s = some j → (j = o ∧ T.home p = o ∧ T.there p = true) ∨ (j ≠ o ∧ T.par j = some o)) : IX o (y_set T o p w s) := by
  have hS := SO.set (T := T) (o := o) (p := p) (w := w) (s := s)
  have e1 : ∀ q, (y_set T o p w s).src o q = if q = p then s else T.src o q := by
    intro q
    rw [y_set_src]
    by_cases c : q = p
    · rw [if_pos c, c]; exact if_pos ⟨rfl, rfl⟩
    · rw [if_neg c]; exact if_neg (fun z => c z.2)
  refine ⟨fun x q hx hq hne hm => ?_, fun x q j hx hq hj => ?_, fun x q hx hq hj => ?_, fun x q hx hq hw => ?_, fun x hx hd => ?_, ?_⟩
  · obtain ⟨a1, a2, a3⟩ := hS x q hne
    rw [may_of a1 a2] at hm
    rw [a3]
    exact h.ow x q hx hq hne hm
  · rw [y_set_par]
    by_cases c : x = o
    · subst c
      rw [e1 q] at hj
      by_cases c2 : q = p
      · rw [if_pos c2] at hj
        rcases hs j hj with z | z
        · exact Or.inl z.1
        · exact Or.inr z.2
      · rw [if_neg c2] at hj
        exact h.sc x q j hx hq hj
    · rw [(hS x q c).2.1] at hj
      exact h.sc x q j hx hq hj
  · rw [y_set_home, y_set_there]
    by_cases c : x = o
    · subst c
      rw [e1 q] at hj
      by_cases c2 : q = p
      · rw [if_pos c2] at hj
        rcases hs x hj with z | z
        · rw [c2]; exact z.2
        · exact absurd rfl z.1
      · rw [if_neg c2] at hj
        exact h.sh x q hx hq hj
    · rw [(hS x q c).2.1] at hj
      exact h.sh x q hx hq hj
  · rw [y_set_ow] at hw
    rw [y_set_home]
    exact h.oh x q hx hq hw
  · rw [y_set_up] at hd
    obtain ⟨d1, d2, d3⟩ := h.dn x hx hd
    have hne : x ≠ o := fun e => by rw [e, hu] at hd; cases hd
    refine ⟨fun q hq => ?_, by rw [y_set_par]; exact d2, by rw [y_set_par]; exact d3⟩
    obtain ⟨a1, a2, a3⟩ := hS x q hne
    rw [a1, a3]
    exact d1 q hq
  · rw [y_set_par]; exact h.rk
theorem IX.w_wt {x : Nat} {T : CT} (h : IX x T) {z : Nat → List (Nat × Nat)} : IX x (T.w_wt z) := h.of rfl rfl rfl rfl rfl rfl rfl
theorem IX.ow0 {x : Nat} {T : CT} (h : IX x T) {o p : Nat} : IX x (T.w_ow (ct2 T.ow o p false)) := by
  have e : ∀ y q, (T.w_ow (ct2 T.ow o p false)).ow y q = true → T.ow y q = true := by
    intro y q hy
    have hy : ct2 T.ow o p false y q = true := hy
    unfold ct2 at hy
    split at hy
    · cases hy
    · exact hy
  have e2 : ∀ y q, T.ow y q = false → (T.w_ow (ct2 T.ow o p false)).ow y q = false := by
    intro y q hy
    cases c : (T.w_ow (ct2 T.ow o p false)).ow y q
    · rfl
    · rw [e y q c] at hy; cases hy
  exact ⟨fun y q hy hq hne hm => e2 y q (h.ow y q hy hq hne hm), h.sc, h.sh, fun y q hy hq hw => h.oh y q hy hq (e y q hw), fun y hy hd => ⟨fun q hq => ⟨((h.dn y hy hd).1 q hq).1, e2 y q ((h.dn y hy hd).1 q hq).2⟩, (h.dn y hy hd).2⟩, h.rk⟩
theorem IX.ow1 {T : CT} {o p : Nat} (h : IX o T) (hu : T.up o = true) (hh : T.home p = o) : IX o (T.w_ow (ct2 T.ow o p true)) := by
  have e : ∀ y q, y ≠ o → (T.w_ow (ct2 T.ow o p true)).ow y q = T.ow y q := fun y q hy => if_neg (fun z => hy z.1)
  refine ⟨fun y q hy hq hne hm => (e y q hne).trans (h.ow y q hy hq hne hm), h.sc, h.sh, fun y q hy hq hw => ?_, fun y hy hd => ?_, h.rk⟩
  · have hw : ct2 T.ow o p true y q = true := hw
    unfold ct2 at hw
    split at hw
    · rename_i c
      rw [c.1, c.2]; exact hh
    · exact h.oh y q hy hq hw
  · have hne : y ≠ o := fun z => by rw [z] at hd; rw [show T.up o = false from hd] at hu; cases hu
    exact ⟨fun q hq => ⟨((h.dn y hy hd).1 q hq).1, (e y q hne).trans ((h.dn y hy hd).1 q hq).2⟩, (h.dn y hy hd).2⟩
theorem IX.own {T : CT} {o p : Nat} (h : IX o T) (ho : o < 12) (hu : T.up o = true) (hh : T.home p = o) (ht : T.there p = true) : IX o (y_own T o p) := by
  unfold y_own
  split
  · exact h.ow0.set ho hu (fun j hj => by cases hj; exact Or.inl ⟨rfl, hh, ht⟩)
  · exact h.ow1 hu hh
theorem IX.unset {T : CT} {o p j : Nat} (h : IX o T) (ho : o < 12) (hu : T.up o = true) : IX o (y_unset T o p j) := by
  unfold y_unset
  split
  · exact h.set ho hu (fun j hj => by cases hj)
  · exact h
theorem IX.first {T T' : CT} {o c : Nat} (h : IX o T) (ho : o < 12) (hc : c < 12) (hp : T.par c = some o) (hf : y_first T o c = some T') : IX o T' := by
  obtain ⟨x, xs, -, -, -, e⟩ := y_first_wt hf
  rw [e]
  exact (h.w_wt (z := ct1 T.wt c xs)).set ho (h.upc ho hc hp) (fun j hj => by cases hj; exact Or.inr ⟨fun z => h.ns ho (by rw [z] at hp; exact hp), hp⟩)
theorem IX.try {T : CT} {o : Nat} (h : IX o T) (hI : JI T) (hTL : TL T) (ho : o < 12) (hu : T.up o = true) : IX o (y_try T o) :=
  (try_ind (Q := fun G => IX o G ∧ JI G ∧ TL G ∧ G.up o = true) (fun G p hp q hw => ⟨q.1.own ho q.2.2.2 (q.1.oh o p ho hp hw) (q.2.2.1 p hp (q.2.1.2.2 o p ho hp hw)), q.2.1.own ho hp hw, q.2.2.1.of y_own_there y_own_last, by rw [y_own_up]; exact q.2.2.2⟩) (fun G c T' hc q hp hf => ⟨q.1.first ho hc hp hf, q.2.1.first ho hc hf, q.2.2.1.of (y_first_there hf) (y_first_last hf), by rw [y_first_up hf]; exact q.2.2.2⟩) ⟨h, hI, hTL, hu⟩).1
theorem r1_nf {T : CT} {o : Nat} : ∀ i, (y_r1 T o i).2 = false → (y_r1 T o i).1.shown = T.shown ∧ (y_r1 T o i).1.src = T.src ∧ (y_r1 T o i).1.ow = T.ow ∧ ∀ p, p < i → T.ow o p = true → y_may T o p o = false
  | 0, _ => ⟨rfl, rfl, rfl, fun p hp => absurd hp (Nat.not_lt_zero _)⟩
  | i + 1, h => by
    cases e : (y_r1 T o i).1.ow o i
    · rw [r1_f e] at h ⊢
      obtain ⟨a1, a2, a3, a4⟩ := r1_nf i h
      refine ⟨a1, a2, a3, fun p hp hw => ?_⟩
      by_cases c : p = i
      · rw [c, ← a3, e] at hw; cases hw
      · exact a4 p (by omega) hw
    · rw [r1_t e] at h ⊢
      have h : ((y_r1 T o i).2 || y_may (y_r1 T o i).1 o i o) = false := h
      obtain ⟨h1, h2⟩ := Bool.or_eq_false_iff.1 h
      obtain ⟨a1, a2, a3, a4⟩ := r1_nf i h1
      have e0 : y_own (y_r1 T o i).1 o i = (y_r1 T o i).1.w_ow (ct2 (y_r1 T o i).1.ow o i true) := if_neg (by rw [h2]; exact Bool.false_ne_true)
      show (y_own (y_r1 T o i).1 o i).shown = _ ∧ (y_own (y_r1 T o i).1 o i).src = _ ∧ (y_own (y_r1 T o i).1 o i).ow = _ ∧ _
      rw [e0]
      refine ⟨a1, a2, ?_, fun p hp hw => ?_⟩
      · show ct2 (y_r1 T o i).1.ow o i true = T.ow
        rw [← a3]
        funext x y
        unfold ct2
        by_cases c : x = o ∧ y = i
        · rw [if_pos c, c.1, c.2, e]
        · rw [if_neg c]
      · by_cases c : p = i
        · rw [c, ← h2]
          exact (may_of (by rw [a1]) (by rw [a2])).symm
        · exact a4 p (by omega) hw
theorem wh_nf {o c : Nat} : ∀ (k : Nat) (T : CT) (m : Bool), (y_wh o c k T m).2 = false → y_wh o c k T m = (T, m)
  | 0, _, _, _ => rfl
  | k + 1, T, m, h => by
    cases e : y_first T o c with
    | none => simp only [y_wh, e]
    | some T' =>
      simp only [y_wh, e] at h
      rw [wh_m] at h
      simp at h
theorem r2_nf {R : CT × Bool} {o : Nat} : ∀ i, (y_r2 R o i).2 = false → y_r2 R o i = R
  | 0, _ => rfl
  | i + 1, h => by
    simp only [y_r2] at h ⊢
    by_cases c : (y_r2 R o i).1.par i = some o
    · rw [if_pos c] at h ⊢
      have e := wh_nf _ _ _ h
      rw [e] at h ⊢
      exact r2_nf i h
    · rw [if_neg c] at h ⊢
      exact r2_nf i h
theorem rd_ow {T : CT} {o : Nat} (h : (y_rd T o).2 = false) : OW o (y_rd T o).1 := by
  unfold y_rd at h ⊢
  have e := r2_nf 12 h
  rw [e] at h ⊢
  obtain ⟨a1, a2, a3, a4⟩ := r1_nf 40 h
  intro p hp hm
  rw [may_of (T := T) (T' := (y_r1 T o 40).1) (by rw [a1]) (by rw [a2])] at hm
  rw [a3]
  cases c : T.ow o p
  · rfl
  · rw [a4 p hp c] at hm; cases hm
theorem all_ow {o : Nat} (ho : o < 12) : ∀ (k : Nat) (T : CT), JI T → y_waits T o < k → OW o (y_all o k T)
  | 0, _, _, h => absurd h (Nat.not_lt_zero _)
  | k + 1, T, hI, h => by
    obtain ⟨j1, j2, -⟩ := rd_J hI ho
    simp only [y_all]
    cases e : (y_rd T o).2
    · rw [if_neg Bool.false_ne_true]
      exact rd_ow e
    · rw [if_pos rfl]
      have h4 : bN (y_rd T o).2 = 1 := by rw [e]; rfl
      exact all_ow ho k _ j1 (by omega)
theorem try_ow {T : CT} {o : Nat} (hI : JI T) (ho : o < 12) : OW o (y_try T o) := all_ow ho _ T hI (Nat.lt_succ_self _)
theorem IX.tryT {T : CT} {o : Nat} (h : IX o T) (hI : JI T) (hTL : TL T) (ho : o < 12) (hu : T.up o = true) : IT (y_try T o) := (h.try hI hTL ho hu).it (fun _ => try_ow hI ho)
theorem IT.own {T : CT} {o p : Nat} (h : IT T) (ho : o < 12) (hu : T.up o = true) (hh : T.home p = o) (ht : T.there p = true) (hl : ¬ T.last p = 0) : IT (y_own T o p) := by
  refine ((h.ix o).own ho hu hh ht).it (fun _ q hq hm => ?_)
  by_cases c : q = p
  · subst c
    rw [y_own_ow]
    show ct2 T.ow o q (!(y_may T o q o)) o q = false
    rw [show ct2 T.ow o q (!(y_may T o q o)) o q = !(y_may T o q o) from if_pos ⟨rfl, rfl⟩]
    cases e : y_may T o q o
    · have e0 : y_own T o q = T.w_ow (ct2 T.ow o q true) := if_neg (by rw [e]; exact Bool.false_ne_true)
      rw [e0, show y_may (T.w_ow (ct2 T.ow o q true)) o q o = y_may T o q o from rfl, e] at hm
      cases hm
    · rfl
  · rw [may_of (y_own_shown (fun z => c z.2)) ?_] at hm
    · rw [y_own_ow2 (fun z => c z.2)]
      exact h.ow o q ho hq (by omega) hm
    · unfold y_own
      split
      · rw [y_set_src]
        exact if_neg (fun z => c z.2)
      · rfl
theorem un_src {T : CT} {a o : Nat} : ∀ i, (∀ p, (y_un T a o i).src a p = if p < i ∧ T.src a p = some o then none else T.src a p) ∧ SO a T (y_un T a o i) ∧ (y_un T a o i).home = T.home ∧ (y_un T a o i).up = T.up ∧ (y_un T a o i).ow = T.ow
  | 0 => ⟨fun p => by rw [if_neg (by omega)]; rfl, fun x q _ => ⟨rfl, rfl, rfl⟩, rfl, rfl, rfl⟩
  | i + 1 => by
    obtain ⟨a1, a2, a3, a4, a5⟩ := un_src (T := T) (a := a) (o := o) i
    refine ⟨fun p => ?_, a2.trans SO.unset, y_unset_home.trans a3, y_unset_up.trans a4, y_unset_ow.trans a5⟩
    show (y_unset (y_un T a o i) a i o).src a p = _
    have hi := a1 i
    rw [if_neg (by omega)] at hi
    unfold y_unset
    by_cases c : p = i
    · subst c
      by_cases d : (y_un T a o p).src a p = some o
      · rw [if_pos d, y_set_src, if_pos ⟨by omega, by rw [← hi]; exact d⟩]
        exact if_pos ⟨rfl, rfl⟩
      · rw [if_neg d, hi, if_neg (fun z => d (by rw [hi]; exact z.2))]
    · have e : (if (y_un T a o i).src a i = some o then y_set (y_un T a o i) a i 0 none else y_un T a o i).src a p = (y_un T a o i).src a p := by
        split
        · rw [y_set_src]
          exact if_neg (fun z => c z.2)
        · rfl
      rw [e, a1 p]
      by_cases d : p < i ∧ T.src a p = some o
      · rw [if_pos d, if_pos ⟨by omega, d.2⟩]
      · rw [if_neg d, if_neg (fun z => d ⟨by omega, z.2⟩)]
