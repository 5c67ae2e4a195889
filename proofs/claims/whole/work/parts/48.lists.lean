/-! The class's lists at the level of the state. Printed by wip/whole/lists.py -/
def RM (D : gzD) : Prop := 560000 ≤ D.2.2.2.1 ∧ 4000000 ≤ D.2.2.2.2.1
theorem RC.caps {M0 : gzM} {b : Nat} {v : gV} {g : gG} {T : CT} {M : gzM} {n nc ns : Nat} (h : RC M0 b v g T M n nc ns) : sN 25 g.cap ≤ 199000 := by
  have hD := h.2.1
  have c0 := hD.capP.2
  have c1 : g.cap 1 ≤ 13510 := (hD.capL 0 (by omega)).2
  have c2 : g.cap 2 ≤ 13510 := (hD.capL 1 (by omega)).2
  have c3 : g.cap 3 ≤ 13510 := (hD.capL 2 (by omega)).2
  have c4 : g.cap 4 ≤ 13510 := (hD.capL 3 (by omega)).2
  have c5 : g.cap 5 ≤ 13510 := (hD.capL 4 (by omega)).2
  have c6 : g.cap 6 ≤ 13510 := (hD.capL 5 (by omega)).2
  have c7 : g.cap 7 ≤ 13510 := (hD.capL 6 (by omega)).2
  have c8 : g.cap 8 ≤ 13510 := (hD.capL 7 (by omega)).2
  have c9 : g.cap 9 ≤ 13510 := (hD.capL 8 (by omega)).2
  have c10 : g.cap 10 ≤ 13510 := (hD.capL 9 (by omega)).2
  have c11 : g.cap 11 ≤ 13510 := (hD.capL 10 (by omega)).2
  have c12 : g.cap 12 ≤ 13510 := (hD.capL 11 (by omega)).2
  have c13 : g.cap 13 ≤ 3010 := (hD.capW 0 (by omega)).2
  have c14 : g.cap 14 ≤ 3010 := (hD.capW 1 (by omega)).2
  have c15 : g.cap 15 ≤ 3010 := (hD.capW 2 (by omega)).2
  have c16 : g.cap 16 ≤ 3010 := (hD.capW 3 (by omega)).2
  have c17 : g.cap 17 ≤ 3010 := (hD.capW 4 (by omega)).2
  have c18 : g.cap 18 ≤ 3010 := (hD.capW 5 (by omega)).2
  have c19 : g.cap 19 ≤ 3010 := (hD.capW 6 (by omega)).2
  have c20 : g.cap 20 ≤ 3010 := (hD.capW 7 (by omega)).2
  have c21 : g.cap 21 ≤ 3010 := (hD.capW 8 (by omega)).2
  have c22 : g.cap 22 ≤ 3010 := (hD.capW 9 (by omega)).2
  have c23 : g.cap 23 ≤ 3010 := (hD.capW 10 (by omega)).2
  have c24 : g.cap 24 ≤ 3010 := (hD.capW 11 (by omega)).2
  simp only [sN]
  omega
theorem RC.room {M0 : gzM} {b : Nat} {v : gV} {g : gG} {T : CT} {M : gzM} {n nc ns : Nat} {D : gzD} (h : RC M0 b v g T M n nc ns) (hD : RM D) (hb : b ≤ 300000) : nc + 60000 ≤ D.2.2.2.1 ∧ ns + 100000 ≤ D.2.2.2.2.1 := by
  have h1 := h.caps
  have h2 := h.2.2.c
  have h3 := h.2.2.s
  obtain ⟨h4, h5⟩ := hD
  constructor <;> omega
theorem app_el {α : Type} {xs : List α} {x : α} {el e : Nat → Value} {z : Value} {Q : Value → α → Prop} (h : ∀ (i : Nat) y, xs[i]? = some y → Q (el i) y) (hx : Q z x) (he : ∀ i, i < xs.length → e i = el i) (hz : e xs.length = z) : ∀ (i : Nat) y, (xs ++ [x])[i]? = some y → Q (e i) y := by
  intro i y hy
  by_cases hi : i < xs.length
  · rw [List.getElem?_append_left hi] at hy
    rw [he i hi]
    exact h i y hy
  · rw [List.getElem?_append_right (by omega)] at hy
    have h0 : i - xs.length = 0 := by
      have := (List.getElem?_eq_some_iff.mp hy).1
      simp only [List.length_singleton] at this
      omega
    rw [h0] at hy
    cases hy
    rw [show i = xs.length by omega, hz]
    exact hx
theorem rem_el {α : Type} {xs : List α} {i : Nat} {el e : Nat → Value} {Q : Value → α → Prop} (h : ∀ (i : Nat) y, xs[i]? = some y → Q (el i) y) (hi : i < xs.length) (he : ∀ q, q < xs.length - 1 → e q = if q < i then el q else el (q + 1)) : ∀ (q : Nat) y, (xs.eraseIdx i)[q]? = some y → Q (e q) y := by
  intro q y hy
  have hq : q < xs.length - 1 := by
    have := (List.getElem?_eq_some_iff.mp hy).1
    rw [List.length_eraseIdx_of_lt hi] at this
    exact this
  rw [List.getElem?_eraseIdx] at hy
  rw [he q hq]
  by_cases c : q < i
  · rw [if_pos c] at hy ⊢
    exact h q y hy
  · rw [if_neg c] at hy ⊢
    exact h (q + 1) y hy
theorem rl_sizeP {l : Launch} {D : gzD} {K : gzK} {M : gzM} {n nc ns : Nat} {M0 : gzM} {b : Nat} {v : gV} {g : gG} {T : CT} (hC : RC M0 b v g T M n nc ns) (k : K (.inl (some (.int (nI T.post.length)))) M n nc ns) : GZ l P1 D F_JArrayList_size K 0 [some (.ref 6)] [] M n nc ns := by
  obtain ⟨mc, hO⟩ := hC.1.loP
  exact j_size hO k
theorem rl_isEmptyP {l : Launch} {D : gzD} {K : gzK} {M : gzM} {n nc ns : Nat} {M0 : gzM} {b : Nat} {v : gV} {g : gG} {T : CT} (hC : RC M0 b v g T M n nc ns) (k : K (.inl (some (.int (bI (decide (T.post.length = 0)))))) M n nc ns) : GZ l P1 D F_JArrayList_isEmpty K 0 [some (.ref 6)] [] M n nc ns := by
  obtain ⟨mc, hO⟩ := hC.1.loP
  have hcl := hC.2.1.capP
  exact j_isEmpty hO (by omega) k
theorem rl_getP {l : Launch} {D : gzD} {K : gzK} {M : gzM} {n nc ns : Nat} {M0 : gzM} {b : Nat} {v : gV} {g : gG} {T : CT} (hC : RC M0 b v g T M n nc ns) {i : Nat} {y : Nat × Int32 × Nat × Nat × Nat} (hy : T.post[i]? = some y) (k : ∀ kk, (∃ c, M kk = some (.inr (2, [.int (nI y.1), .int y.2.1, .int (nI y.2.2.1), .ref c])) ∧ M c = some (.inr (1, [.int (nI y.2.2.2.1), vref v y.2.2.2.2]))) → K (.inl (some (.ref kk))) M n nc ns) : GZ l P1 D F_JArrayList_get K 0 [some (.ref 6), some (.int (nI i))] [] M n nc ns := by
  obtain ⟨mc, hO⟩ := hC.1.loP
  have hj : 0 < 25 := by omega
  obtain ⟨hB, hz1, hz2⟩ := hC.2.1.la (0) hj
  have hcl := hC.2.1.capP
  have hn1 := hC.2.1.n114
  have hfr := hC.2.1.fresh
  have hsn : ∀ c, sN 25 (ct1 g.cap (0) c) + g.cap (0) = sN 25 g.cap + c := fun c => sN_u hj
  have hEc := hC.2.2.c
  have hEs := hC.2.2.s
  have han : g.aid (0) < n := by
    rcases Nat.lt_or_ge (g.aid (0)) n with z | z
    · exact z
    · rw [hfr _ z] at hB; cases hB
  obtain ⟨kk, c, e1, e2⟩ := hC.2.1.postE i y hy
  exact j_get hO hB (List.getElem?_eq_some_iff.mp hy).1 hcl.1 (by omega) e1 (k kk ⟨c, e2⟩)
theorem rl_addP {l : Launch} {D : gzD} {K : gzK} {M : gzM} {n nc ns : Nat} {M0 : gzM} {b : Nat} {v : gV} {g : gG} {T : CT} (hC : RC M0 b v g T M n nc ns) (hD : RM D) (hb : b ≤ 300000) {x c : Nat} {y : Nat × Int32 × Nat × Nat × Nat} (hx : M x = some (.inr (2, [.int (nI y.1), .int y.2.1, .int (nI y.2.2.1), .ref c]))) (hxc : M c = some (.inr (1, [.int (nI y.2.2.2.1), vref v y.2.2.2.2]))) (hl : T.post.length < 500) (k : ∀ g M' n nc ns, RC M0 b v g (T.w_post (T.post ++ [y])) M' n nc ns → Keep M M' → K (.inl (some (.int 1))) M' n nc ns) : GZ l P1 D F_JArrayList_add K 0 [some (.ref 6), some (.ref x)] [] M n nc ns := by
  obtain ⟨mc, hO⟩ := hC.1.loP
  have hj : 0 < 25 := by omega
  obtain ⟨hB, hz1, hz2⟩ := hC.2.1.la (0) hj
  have hcl := hC.2.1.capP
  have hn1 := hC.2.1.n114
  have hfr := hC.2.1.fresh
  have hsn : ∀ c, sN 25 (ct1 g.cap (0) c) + g.cap (0) = sN 25 g.cap + c := fun c => sN_u hj
  have hEc := hC.2.2.c
  have hEs := hC.2.2.s
  have han : g.aid (0) < n := by
    rcases Nat.lt_or_ge (g.aid (0)) n with z | z
    · exact z
    · rw [hfr _ z] at hB; cases hB
  have hr := hC.room hD hb
  have hcn := capN_le (g.cap (0))
  refine j_add hO hB (fun i hi => ?_) hx (Or.inr rfl) hcl.1 ⟨hz1, fun e => Classical.byContradiction fun z => by have := hz2 z; omega⟩ (by omega) (hfr n (Nat.le_refl _)) (fun e => ⟨by omega, by omega⟩) (fun hlt M' mc' hA hX hN => ?_) (fun heq M' mc' f' hA hX hY hZ hN => ?_)
  · obtain ⟨y, hy⟩ : ∃ y, T.post[i]? = some y := ⟨_, List.getElem?_eq_getElem hi⟩
    obtain ⟨q, c, e1, e2, -⟩ := hC.2.1.postE i y hy
    exact ⟨q, 2, _, e1, e2, Or.inr rfl⟩
  · have hpo : potW (T.w_post (T.post ++ [y])) = potW T := rfl
    have hsc := hsn (g.cap (0))
    obtain ⟨hC2, hK⟩ := hC.listP (xs := (T.post ++ [y])) (M' := M') (n' := n) (nc' := nc) (ns' := ns) (b' := b) (a := g.aid (0)) (c := g.cap (0)) (e := updV (g.el (0)) T.post.length (.ref x)) hN (Or.inl rfl) (fun e => by have := hz2 (by omega); omega) (fun _ => rfl) ⟨mc', by rw [List.length_append]; exact hA⟩ hX ⟨by rw [List.length_append]; exact hlt, hcl.2⟩ (app_el (Q := IsL v M) (fun i y hy => hC.2.1.postE i y hy) ⟨x, c, rfl, hx, hxc⟩ (fun i hi => by simp only [updV, if_neg (show ¬ i = T.post.length by omega)]) (by simp [updV])) (fun k hk => by rw [hN k (by omega) (by omega)]; exact hfr k hk) (Nat.le_refl _) ⟨by
      show _ + 2 * (potW (T.w_post (T.post ++ [y])) + potO T) ≤ b + sN 25 (ct1 g.cap (0) (g.cap (0)))
      omega, by
      show _ + 14 * (potW (T.w_post (T.post ++ [y])) + potO T) ≤ 300000 + 7 * (b) + 4 * sN 25 (ct1 g.cap (0) (g.cap (0)))
      omega⟩
    exact k _ _ _ _ _ hC2 hK
  · have hpo : potW (T.w_post (T.post ++ [y])) = potW T := rfl
    have hsc := hsn (capN (g.cap (0)))
    obtain ⟨hC2, hK⟩ := hC.listP (xs := (T.post ++ [y])) (M' := M') (n' := n + 1) (nc' := nc + 1) (ns' := ns + capN (g.cap (0))) (b' := b) (a := n) (c := capN (g.cap (0))) (e := f') hN (Or.inr ⟨rfl, by omega⟩) (fun e => by omega) (fun e => by omega) ⟨mc', by rw [List.length_append]; exact hA⟩ hX ⟨by rw [List.length_append]; show T.post.length + 1 ≤ _; omega, by omega⟩ (app_el (Q := IsL v M) (fun i y hy => hC.2.1.postE i y hy) ⟨x, c, rfl, hx, hxc⟩ (fun i hi => hY i (by omega)) hZ) (fun k hk => by rw [hN k (by omega) (by omega)]; exact hfr k (by omega)) (Nat.le_succ _) ⟨by
      show _ + 2 * (potW (T.w_post (T.post ++ [y])) + potO T) ≤ b + sN 25 (ct1 g.cap (0) (capN (g.cap (0))))
      omega, by
      show _ + 14 * (potW (T.w_post (T.post ++ [y])) + potO T) ≤ 300000 + 7 * (b) + 4 * sN 25 (ct1 g.cap (0) (capN (g.cap (0))))
      omega⟩
    exact k _ _ _ _ _ hC2 hK
theorem rl_remP {l : Launch} {D : gzD} {K : gzK} {M : gzM} {n nc ns : Nat} {M0 : gzM} {b : Nat} {v : gV} {g : gG} {T : CT} (hC : RC M0 b v g T M n nc ns) {i : Nat} (hi : i < T.post.length) (k : ∀ g M' n nc ns z, gz_isr z → RC M0 b v g (T.w_post (T.post.eraseIdx i)) M' n nc ns → Keep M M' → K (.inl (some z)) M' n nc ns) : GZ l P1 D F_JArrayList_remove K 0 [some (.ref 6), some (.int (nI i)), none, none] [] M n nc ns := by
  obtain ⟨mc, hO⟩ := hC.1.loP
  have hj : 0 < 25 := by omega
  obtain ⟨hB, hz1, hz2⟩ := hC.2.1.la (0) hj
  have hcl := hC.2.1.capP
  have hn1 := hC.2.1.n114
  have hfr := hC.2.1.fresh
  have hsn : ∀ c, sN 25 (ct1 g.cap (0) c) + g.cap (0) = sN 25 g.cap + c := fun c => sN_u hj
  have hEc := hC.2.2.c
  have hEs := hC.2.2.s
  have han : g.aid (0) < n := by
    rcases Nat.lt_or_ge (g.aid (0)) n with z | z
    · exact z
    · rw [hfr _ z] at hB; cases hB
  have hcn := capN_le (g.cap (0))
  have hpo : potW (T.w_post (T.post.eraseIdx i)) = potW T := rfl
  have hsc := hsn (g.cap (0))
  have hel : ∀ i, i < T.post.length → ∃ (q ci : Nat) (fs : List Value), g.el (0) i = .ref q ∧ M q = some (.inr (ci, fs)) ∧ (ci = 1 ∨ ci = 2) := by
    intro i hi
    obtain ⟨y, hy⟩ : ∃ y, T.post[i]? = some y := ⟨_, List.getElem?_eq_getElem hi⟩
    obtain ⟨q, c, e1, e2, -⟩ := hC.2.1.postE i y hy
    exact ⟨q, 2, _, e1, e2, Or.inr rfl⟩
  refine j_remove hO hB hi hcl.1 (by omega) hel (fun M' mc' f' hA hX hY hN => ?_)
  have hlen := List.length_eraseIdx_of_lt hi
  obtain ⟨hC2, hK⟩ := hC.listP (xs := (T.post.eraseIdx i)) (M' := M') (n' := n) (nc' := nc) (ns' := ns) (b' := b) (a := g.aid (0)) (c := g.cap (0)) (e := f') hN (Or.inl rfl) (fun e => by have := hz2 (by omega); omega) (fun _ => rfl) ⟨mc', by rw [hlen]; exact hA⟩ hX ⟨by rw [hlen]; omega, hcl.2⟩ (rem_el (Q := IsL v M) (fun i y hy => hC.2.1.postE i y hy) hi hY) (fun k hk => by rw [hN k (by omega) (by omega)]; exact hfr k hk) (Nat.le_refl _) ⟨by
      show _ + 2 * (potW (T.w_post (T.post.eraseIdx i)) + potO T) ≤ b + sN 25 (ct1 g.cap (0) (g.cap (0)))
      omega, by
      show _ + 14 * (potW (T.w_post (T.post.eraseIdx i)) + potO T) ≤ 300000 + 7 * (b) + 4 * sN 25 (ct1 g.cap (0) (g.cap (0)))
      omega⟩
  obtain ⟨q, _, _, e1, -, -⟩ := hel i hi
  rw [e1]
  exact k _ _ _ _ _ _ (gz_isr.r _) hC2 hK
theorem rl_sizeL {l : Launch} {D : gzD} {K : gzK} {M : gzM} {n nc ns : Nat} {M0 : gzM} {b : Nat} {v : gV} {g : gG} {T : CT} (hC : RC M0 b v g T M n nc ns) {o : Nat} (ho : o < 12) (k : K (.inl (some (.int (nI (T.line o).length)))) M n nc ns) : GZ l P1 D F_JArrayList_size K 0 [some (.ref (15 + 6 * o))] [] M n nc ns := by
  obtain ⟨mc, hO⟩ := hC.1.loL o ho
  exact j_size hO k
theorem rl_isEmptyL {l : Launch} {D : gzD} {K : gzK} {M : gzM} {n nc ns : Nat} {M0 : gzM} {b : Nat} {v : gV} {g : gG} {T : CT} (hC : RC M0 b v g T M n nc ns) {o : Nat} (ho : o < 12) (k : K (.inl (some (.int (bI (decide ((T.line o).length = 0)))))) M n nc ns) : GZ l P1 D F_JArrayList_isEmpty K 0 [some (.ref (15 + 6 * o))] [] M n nc ns := by
  obtain ⟨mc, hO⟩ := hC.1.loL o ho
  have hcl := hC.2.1.capL o ho
  exact j_isEmpty hO (by omega) k
theorem rl_getL {l : Launch} {D : gzD} {K : gzK} {M : gzM} {n nc ns : Nat} {M0 : gzM} {b : Nat} {v : gV} {g : gG} {T : CT} (hC : RC M0 b v g T M n nc ns) {o : Nat} (ho : o < 12) {i : Nat} {y : Nat × Nat} (hy : (T.line o)[i]? = some y) (k : ∀ kk, M kk = some (.inr (1, [.int (nI y.1), vref v y.2])) → K (.inl (some (.ref kk))) M n nc ns) : GZ l P1 D F_JArrayList_get K 0 [some (.ref (15 + 6 * o)), some (.int (nI i))] [] M n nc ns := by
  obtain ⟨mc, hO⟩ := hC.1.loL o ho
  have hj : 1 + o < 25 := by omega
  obtain ⟨hB, hz1, hz2⟩ := hC.2.1.la (1 + o) hj
  have hcl := hC.2.1.capL o ho
  have hn1 := hC.2.1.n114
  have hfr := hC.2.1.fresh
  have hsn : ∀ c, sN 25 (ct1 g.cap (1 + o) c) + g.cap (1 + o) = sN 25 g.cap + c := fun c => sN_u hj
  have hEc := hC.2.2.c
  have hEs := hC.2.2.s
  have han : g.aid (1 + o) < n := by
    rcases Nat.lt_or_ge (g.aid (1 + o)) n with z | z
    · exact z
    · rw [hfr _ z] at hB; cases hB
  obtain ⟨kk, e1, e2⟩ := hC.2.1.lineE o i y ho hy
  exact j_get hO hB (List.getElem?_eq_some_iff.mp hy).1 hcl.1 (by omega) e1 (k kk e2)
theorem rl_addL {l : Launch} {D : gzD} {K : gzK} {M : gzM} {n nc ns : Nat} {M0 : gzM} {b : Nat} {v : gV} {g : gG} {T : CT} (hC : RC M0 b v g T M n nc ns) (hD : RM D) (hb : b ≤ 300000) {o : Nat} (ho : o < 12) {x p w : Nat} (hx : M x = some (.inr (1, [.int (nI p), vref v w]))) (hl : (T.line o).length < 9000) (k : ∀ g M' n nc ns, RC M0 b v g (T.w_line (ct1 T.line o ((T.line o) ++ [(p, w)]))) M' n nc ns → Keep M M' → K (.inl (some (.int 1))) M' n nc ns) : GZ l P1 D F_JArrayList_add K 0 [some (.ref (15 + 6 * o)), some (.ref x)] [] M n nc ns := by
  obtain ⟨mc, hO⟩ := hC.1.loL o ho
  have hj : 1 + o < 25 := by omega
  obtain ⟨hB, hz1, hz2⟩ := hC.2.1.la (1 + o) hj
  have hcl := hC.2.1.capL o ho
  have hn1 := hC.2.1.n114
  have hfr := hC.2.1.fresh
  have hsn : ∀ c, sN 25 (ct1 g.cap (1 + o) c) + g.cap (1 + o) = sN 25 g.cap + c := fun c => sN_u hj
  have hEc := hC.2.2.c
  have hEs := hC.2.2.s
  have han : g.aid (1 + o) < n := by
    rcases Nat.lt_or_ge (g.aid (1 + o)) n with z | z
    · exact z
    · rw [hfr _ z] at hB; cases hB
  have hr := hC.room hD hb
  have hcn := capN_le (g.cap (1 + o))
  refine j_add hO hB (fun i hi => ?_) hx (Or.inl rfl) hcl.1 ⟨hz1, fun e => Classical.byContradiction fun z => by have := hz2 z; omega⟩ (by omega) (hfr n (Nat.le_refl _)) (fun e => ⟨by omega, by omega⟩) (fun hlt M' mc' hA hX hN => ?_) (fun heq M' mc' f' hA hX hY hZ hN => ?_)
  · obtain ⟨y, hy⟩ : ∃ y, (T.line o)[i]? = some y := ⟨_, List.getElem?_eq_getElem hi⟩
    obtain ⟨q, e1, e2⟩ := hC.2.1.lineE o i y ho hy
    exact ⟨q, 1, _, e1, e2, Or.inl rfl⟩
  · have hpo : potW (T.w_line (ct1 T.line o ((T.line o) ++ [(p, w)]))) = potW T := rfl
    have hsc := hsn (g.cap (1 + o))
    obtain ⟨hC2, hK⟩ := hC.listL ho (xs := ((T.line o) ++ [(p, w)])) (M' := M') (n' := n) (nc' := nc) (ns' := ns) (b' := b) (a := g.aid (1 + o)) (c := g.cap (1 + o)) (e := updV (g.el (1 + o)) (T.line o).length (.ref x)) hN (Or.inl rfl) (fun e => by have := hz2 (by omega); omega) (fun _ => rfl) ⟨mc', by rw [List.length_append]; exact hA⟩ hX ⟨by rw [List.length_append]; exact hlt, hcl.2⟩ (app_el (Q := IsC v M) (fun i y hy => hC.2.1.lineE o i y ho hy) ⟨x, rfl, hx⟩ (fun i hi => by simp only [updV, if_neg (show ¬ i = (T.line o).length by omega)]) (by simp [updV])) (fun k hk => by rw [hN k (by omega) (by omega)]; exact hfr k hk) (Nat.le_refl _) ⟨by
      show _ + 2 * (potW (T.w_line (ct1 T.line o ((T.line o) ++ [(p, w)]))) + potO T) ≤ b + sN 25 (ct1 g.cap (1 + o) (g.cap (1 + o)))
      omega, by
      show _ + 14 * (potW (T.w_line (ct1 T.line o ((T.line o) ++ [(p, w)]))) + potO T) ≤ 300000 + 7 * (b) + 4 * sN 25 (ct1 g.cap (1 + o) (g.cap (1 + o)))
      omega⟩
    exact k _ _ _ _ _ hC2 hK
  · have hpo : potW (T.w_line (ct1 T.line o ((T.line o) ++ [(p, w)]))) = potW T := rfl
    have hsc := hsn (capN (g.cap (1 + o)))
    obtain ⟨hC2, hK⟩ := hC.listL ho (xs := ((T.line o) ++ [(p, w)])) (M' := M') (n' := n + 1) (nc' := nc + 1) (ns' := ns + capN (g.cap (1 + o))) (b' := b) (a := n) (c := capN (g.cap (1 + o))) (e := f') hN (Or.inr ⟨rfl, by omega⟩) (fun e => by omega) (fun e => by omega) ⟨mc', by rw [List.length_append]; exact hA⟩ hX ⟨by rw [List.length_append]; show (T.line o).length + 1 ≤ _; omega, by omega⟩ (app_el (Q := IsC v M) (fun i y hy => hC.2.1.lineE o i y ho hy) ⟨x, rfl, hx⟩ (fun i hi => hY i (by omega)) hZ) (fun k hk => by rw [hN k (by omega) (by omega)]; exact hfr k (by omega)) (Nat.le_succ _) ⟨by
      show _ + 2 * (potW (T.w_line (ct1 T.line o ((T.line o) ++ [(p, w)]))) + potO T) ≤ b + sN 25 (ct1 g.cap (1 + o) (capN (g.cap (1 + o))))
      omega, by
      show _ + 14 * (potW (T.w_line (ct1 T.line o ((T.line o) ++ [(p, w)]))) + potO T) ≤ 300000 + 7 * (b) + 4 * sN 25 (ct1 g.cap (1 + o) (capN (g.cap (1 + o))))
      omega⟩
    exact k _ _ _ _ _ hC2 hK
theorem rl_clrL {l : Launch} {D : gzD} {K : gzK} {M : gzM} {n nc ns : Nat} {M0 : gzM} {b : Nat} {v : gV} {g : gG} {T : CT} (hC : RC M0 b v g T M n nc ns) {o : Nat} (ho : o < 12) (k : ∀ g M' n nc ns, RC M0 b v g (T.w_line (ct1 T.line o [])) M' n nc ns → Keep M M' → K (.inl none) M' n nc ns) : GZ l P1 D F_JArrayList_clear K 0 [some (.ref (15 + 6 * o)), none, none, none] [] M n nc ns := by
  obtain ⟨mc, hO⟩ := hC.1.loL o ho
  have hj : 1 + o < 25 := by omega
  obtain ⟨hB, hz1, hz2⟩ := hC.2.1.la (1 + o) hj
  have hcl := hC.2.1.capL o ho
  have hn1 := hC.2.1.n114
  have hfr := hC.2.1.fresh
  have hsn : ∀ c, sN 25 (ct1 g.cap (1 + o) c) + g.cap (1 + o) = sN 25 g.cap + c := fun c => sN_u hj
  have hEc := hC.2.2.c
  have hEs := hC.2.2.s
  have han : g.aid (1 + o) < n := by
    rcases Nat.lt_or_ge (g.aid (1 + o)) n with z | z
    · exact z
    · rw [hfr _ z] at hB; cases hB
  have hpo : potW (T.w_line (ct1 T.line o [])) = potW T := rfl
  have hsc := hsn (g.cap (1 + o))
  refine j_clear hO hB hcl.1 (by omega) (fun M' mc' f' hA hX h0 hN => ?_)
  obtain ⟨hC2, hK⟩ := hC.listL ho (xs := []) (M' := M') (n' := n) (nc' := nc) (ns' := ns) (b' := b) (a := g.aid (1 + o)) (c := g.cap (1 + o)) (e := f') hN (Or.inl rfl) (fun e => by
    rw [e] at h0
    refine h0 (Classical.byContradiction fun z => ?_)
    have := hz2 (by omega)
    omega) (fun _ => rfl) ⟨mc', hA⟩ hX ⟨Nat.zero_le _, hcl.2⟩ (fun i y hy => by cases hy) (fun k hk => by rw [hN k (by omega) (by omega)]; exact hfr k hk) (Nat.le_refl _) ⟨by
      show _ + 2 * (potW (T.w_line (ct1 T.line o [])) + potO T) ≤ b + sN 25 (ct1 g.cap (1 + o) (g.cap (1 + o)))
      omega, by
      show _ + 14 * (potW (T.w_line (ct1 T.line o [])) + potO T) ≤ 300000 + 7 * (b) + 4 * sN 25 (ct1 g.cap (1 + o) (g.cap (1 + o)))
      omega⟩
  exact k _ _ _ _ _ hC2 hK
theorem rl_sizeW {l : Launch} {D : gzD} {K : gzK} {M : gzM} {n nc ns : Nat} {M0 : gzM} {b : Nat} {v : gV} {g : gG} {T : CT} (hC : RC M0 b v g T M n nc ns) {o : Nat} (ho : o < 12) (k : K (.inl (some (.int (nI (T.wt o).length)))) M n nc ns) : GZ l P1 D F_JArrayList_size K 0 [some (.ref (16 + 6 * o))] [] M n nc ns := by
  obtain ⟨mc, hO⟩ := hC.1.loW o ho
  exact j_size hO k
theorem rl_isEmptyW {l : Launch} {D : gzD} {K : gzK} {M : gzM} {n nc ns : Nat} {M0 : gzM} {b : Nat} {v : gV} {g : gG} {T : CT} (hC : RC M0 b v g T M n nc ns) {o : Nat} (ho : o < 12) (k : K (.inl (some (.int (bI (decide ((T.wt o).length = 0)))))) M n nc ns) : GZ l P1 D F_JArrayList_isEmpty K 0 [some (.ref (16 + 6 * o))] [] M n nc ns := by
  obtain ⟨mc, hO⟩ := hC.1.loW o ho
  have hcl := hC.2.1.capW o ho
  exact j_isEmpty hO (by omega) k
theorem rl_getW {l : Launch} {D : gzD} {K : gzK} {M : gzM} {n nc ns : Nat} {M0 : gzM} {b : Nat} {v : gV} {g : gG} {T : CT} (hC : RC M0 b v g T M n nc ns) {o : Nat} (ho : o < 12) {i : Nat} {y : Nat × Nat} (hy : (T.wt o)[i]? = some y) (k : ∀ kk, M kk = some (.inr (1, [.int (nI y.1), vref v y.2])) → K (.inl (some (.ref kk))) M n nc ns) : GZ l P1 D F_JArrayList_get K 0 [some (.ref (16 + 6 * o)), some (.int (nI i))] [] M n nc ns := by
  obtain ⟨mc, hO⟩ := hC.1.loW o ho
  have hj : 13 + o < 25 := by omega
  obtain ⟨hB, hz1, hz2⟩ := hC.2.1.la (13 + o) hj
  have hcl := hC.2.1.capW o ho
  have hn1 := hC.2.1.n114
  have hfr := hC.2.1.fresh
  have hsn : ∀ c, sN 25 (ct1 g.cap (13 + o) c) + g.cap (13 + o) = sN 25 g.cap + c := fun c => sN_u hj
  have hEc := hC.2.2.c
  have hEs := hC.2.2.s
  have han : g.aid (13 + o) < n := by
    rcases Nat.lt_or_ge (g.aid (13 + o)) n with z | z
    · exact z
    · rw [hfr _ z] at hB; cases hB
  obtain ⟨kk, e1, e2⟩ := hC.2.1.wtE o i y ho hy
  exact j_get hO hB (List.getElem?_eq_some_iff.mp hy).1 hcl.1 (by omega) e1 (k kk e2)
theorem rl_addW {l : Launch} {D : gzD} {K : gzK} {M : gzM} {n nc ns : Nat} {M0 : gzM} {b : Nat} {v : gV} {g : gG} {T : CT} (hC : RC M0 b v g T M n nc ns) (hD : RM D) (hb : b ≤ 300000) {o : Nat} (ho : o < 12) {x p w : Nat} (hx : M x = some (.inr (1, [.int (nI p), vref v w]))) (hl : (T.wt o).length < 2000) (k : ∀ g M' n nc ns, RC M0 (b + 2) v g (T.w_wt (ct1 T.wt o ((T.wt o) ++ [(p, w)]))) M' n nc ns → Keep M M' → K (.inl (some (.int 1))) M' n nc ns) : GZ l P1 D F_JArrayList_add K 0 [some (.ref (16 + 6 * o)), some (.ref x)] [] M n nc ns := by
  obtain ⟨mc, hO⟩ := hC.1.loW o ho
  have hj : 13 + o < 25 := by omega
  obtain ⟨hB, hz1, hz2⟩ := hC.2.1.la (13 + o) hj
  have hcl := hC.2.1.capW o ho
  have hn1 := hC.2.1.n114
  have hfr := hC.2.1.fresh
  have hsn : ∀ c, sN 25 (ct1 g.cap (13 + o) c) + g.cap (13 + o) = sN 25 g.cap + c := fun c => sN_u hj
  have hEc := hC.2.2.c
  have hEs := hC.2.2.s
  have han : g.aid (13 + o) < n := by
    rcases Nat.lt_or_ge (g.aid (13 + o)) n with z | z
    · exact z
    · rw [hfr _ z] at hB; cases hB
  have hr := hC.room hD hb
  have hcn := capN_le (g.cap (13 + o))
  refine j_add hO hB (fun i hi => ?_) hx (Or.inl rfl) hcl.1 ⟨hz1, fun e => Classical.byContradiction fun z => by have := hz2 z; omega⟩ (by omega) (hfr n (Nat.le_refl _)) (fun e => ⟨by omega, by omega⟩) (fun hlt M' mc' hA hX hN => ?_) (fun heq M' mc' f' hA hX hY hZ hN => ?_)
  · obtain ⟨y, hy⟩ : ∃ y, (T.wt o)[i]? = some y := ⟨_, List.getElem?_eq_getElem hi⟩
    obtain ⟨q, e1, e2⟩ := hC.2.1.wtE o i y ho hy
    exact ⟨q, 1, _, e1, e2, Or.inl rfl⟩
  · have hpo : potW (T.w_wt (ct1 T.wt o ((T.wt o) ++ [(p, w)]))) + (T.wt o).length = potW T + ((T.wt o) ++ [(p, w)]).length := potW_u ho
    simp only [List.length_append, List.length_singleton] at hpo
    have hsc := hsn (g.cap (13 + o))
    obtain ⟨hC2, hK⟩ := hC.listW ho (xs := ((T.wt o) ++ [(p, w)])) (M' := M') (n' := n) (nc' := nc) (ns' := ns) (b' := b + 2) (a := g.aid (13 + o)) (c := g.cap (13 + o)) (e := updV (g.el (13 + o)) (T.wt o).length (.ref x)) hN (Or.inl rfl) (fun e => by have := hz2 (by omega); omega) (fun _ => rfl) ⟨mc', by rw [List.length_append]; exact hA⟩ hX ⟨by rw [List.length_append]; exact hlt, hcl.2⟩ (app_el (Q := IsC v M) (fun i y hy => hC.2.1.wtE o i y ho hy) ⟨x, rfl, hx⟩ (fun i hi => by simp only [updV, if_neg (show ¬ i = (T.wt o).length by omega)]) (by simp [updV])) (fun k hk => by rw [hN k (by omega) (by omega)]; exact hfr k hk) (Nat.le_refl _) ⟨by
      show _ + 2 * (potW (T.w_wt (ct1 T.wt o ((T.wt o) ++ [(p, w)]))) + potO T) ≤ b + 2 + sN 25 (ct1 g.cap (13 + o) (g.cap (13 + o)))
      omega, by
      show _ + 14 * (potW (T.w_wt (ct1 T.wt o ((T.wt o) ++ [(p, w)]))) + potO T) ≤ 300000 + 7 * (b + 2) + 4 * sN 25 (ct1 g.cap (13 + o) (g.cap (13 + o)))
      omega⟩
    exact k _ _ _ _ _ hC2 hK
  · have hpo : potW (T.w_wt (ct1 T.wt o ((T.wt o) ++ [(p, w)]))) + (T.wt o).length = potW T + ((T.wt o) ++ [(p, w)]).length := potW_u ho
    simp only [List.length_append, List.length_singleton] at hpo
    have hsc := hsn (capN (g.cap (13 + o)))
    obtain ⟨hC2, hK⟩ := hC.listW ho (xs := ((T.wt o) ++ [(p, w)])) (M' := M') (n' := n + 1) (nc' := nc + 1) (ns' := ns + capN (g.cap (13 + o))) (b' := b + 2) (a := n) (c := capN (g.cap (13 + o))) (e := f') hN (Or.inr ⟨rfl, by omega⟩) (fun e => by omega) (fun e => by omega) ⟨mc', by rw [List.length_append]; exact hA⟩ hX ⟨by rw [List.length_append]; show (T.wt o).length + 1 ≤ _; omega, by omega⟩ (app_el (Q := IsC v M) (fun i y hy => hC.2.1.wtE o i y ho hy) ⟨x, rfl, hx⟩ (fun i hi => hY i (by omega)) hZ) (fun k hk => by rw [hN k (by omega) (by omega)]; exact hfr k (by omega)) (Nat.le_succ _) ⟨by
      show _ + 2 * (potW (T.w_wt (ct1 T.wt o ((T.wt o) ++ [(p, w)]))) + potO T) ≤ b + 2 + sN 25 (ct1 g.cap (13 + o) (capN (g.cap (13 + o))))
      omega, by
      show _ + 14 * (potW (T.w_wt (ct1 T.wt o ((T.wt o) ++ [(p, w)]))) + potO T) ≤ 300000 + 7 * (b + 2) + 4 * sN 25 (ct1 g.cap (13 + o) (capN (g.cap (13 + o))))
      omega⟩
    exact k _ _ _ _ _ hC2 hK
theorem rl_remW {l : Launch} {D : gzD} {K : gzK} {M : gzM} {n nc ns : Nat} {M0 : gzM} {b : Nat} {v : gV} {g : gG} {T : CT} (hC : RC M0 (b + 2) v g T M n nc ns) {o : Nat} (ho : o < 12) {i : Nat} (hi : i < (T.wt o).length) (k : ∀ g M' n nc ns z, gz_isr z → RC M0 b v g (T.w_wt (ct1 T.wt o ((T.wt o).eraseIdx i))) M' n nc ns → Keep M M' → K (.inl (some z)) M' n nc ns) : GZ l P1 D F_JArrayList_remove K 0 [some (.ref (16 + 6 * o)), some (.int (nI i)), none, none] [] M n nc ns := by
  obtain ⟨mc, hO⟩ := hC.1.loW o ho
  have hj : 13 + o < 25 := by omega
  obtain ⟨hB, hz1, hz2⟩ := hC.2.1.la (13 + o) hj
  have hcl := hC.2.1.capW o ho
  have hn1 := hC.2.1.n114
  have hfr := hC.2.1.fresh
  have hsn : ∀ c, sN 25 (ct1 g.cap (13 + o) c) + g.cap (13 + o) = sN 25 g.cap + c := fun c => sN_u hj
  have hEc := hC.2.2.c
  have hEs := hC.2.2.s
  have han : g.aid (13 + o) < n := by
    rcases Nat.lt_or_ge (g.aid (13 + o)) n with z | z
    · exact z
    · rw [hfr _ z] at hB; cases hB
  have hcn := capN_le (g.cap (13 + o))
  have hpo : potW (T.w_wt (ct1 T.wt o ((T.wt o).eraseIdx i))) + (T.wt o).length = potW T + ((T.wt o).eraseIdx i).length := potW_u ho
  rw [List.length_eraseIdx_of_lt hi] at hpo
  have hsc := hsn (g.cap (13 + o))
  have hel : ∀ i, i < (T.wt o).length → ∃ (q ci : Nat) (fs : List Value), g.el (13 + o) i = .ref q ∧ M q = some (.inr (ci, fs)) ∧ (ci = 1 ∨ ci = 2) := by
    intro i hi
    obtain ⟨y, hy⟩ : ∃ y, (T.wt o)[i]? = some y := ⟨_, List.getElem?_eq_getElem hi⟩
    obtain ⟨q, e1, e2⟩ := hC.2.1.wtE o i y ho hy
    exact ⟨q, 1, _, e1, e2, Or.inl rfl⟩
  refine j_remove hO hB hi hcl.1 (by omega) hel (fun M' mc' f' hA hX hY hN => ?_)
  have hlen := List.length_eraseIdx_of_lt hi
  obtain ⟨hC2, hK⟩ := hC.listW ho (xs := ((T.wt o).eraseIdx i)) (M' := M') (n' := n) (nc' := nc) (ns' := ns) (b' := b) (a := g.aid (13 + o)) (c := g.cap (13 + o)) (e := f') hN (Or.inl rfl) (fun e => by have := hz2 (by omega); omega) (fun _ => rfl) ⟨mc', by rw [hlen]; exact hA⟩ hX ⟨by rw [hlen]; omega, hcl.2⟩ (rem_el (Q := IsC v M) (fun i y hy => hC.2.1.wtE o i y ho hy) hi hY) (fun k hk => by rw [hN k (by omega) (by omega)]; exact hfr k hk) (Nat.le_refl _) ⟨by
      show _ + 2 * (potW (T.w_wt (ct1 T.wt o ((T.wt o).eraseIdx i))) + potO T) ≤ b + sN 25 (ct1 g.cap (13 + o) (g.cap (13 + o)))
      omega, by
      show _ + 14 * (potW (T.w_wt (ct1 T.wt o ((T.wt o).eraseIdx i))) + potO T) ≤ 300000 + 7 * (b) + 4 * sN 25 (ct1 g.cap (13 + o) (g.cap (13 + o)))
      omega⟩
  obtain ⟨q, _, _, e1, -, -⟩ := hel i hi
  rw [e1]
  exact k _ _ _ _ _ _ (gz_isr.r _) hC2 hK
theorem rl_clrW {l : Launch} {D : gzD} {K : gzK} {M : gzM} {n nc ns : Nat} {M0 : gzM} {b : Nat} {v : gV} {g : gG} {T : CT} (hC : RC M0 b v g T M n nc ns) {o : Nat} (ho : o < 12) (k : ∀ g M' n nc ns, RC M0 b v g (T.w_wt (ct1 T.wt o [])) M' n nc ns → Keep M M' → K (.inl none) M' n nc ns) : GZ l P1 D F_JArrayList_clear K 0 [some (.ref (16 + 6 * o)), none, none, none] [] M n nc ns := by
  obtain ⟨mc, hO⟩ := hC.1.loW o ho
  have hj : 13 + o < 25 := by omega
  obtain ⟨hB, hz1, hz2⟩ := hC.2.1.la (13 + o) hj
  have hcl := hC.2.1.capW o ho
  have hn1 := hC.2.1.n114
  have hfr := hC.2.1.fresh
  have hsn : ∀ c, sN 25 (ct1 g.cap (13 + o) c) + g.cap (13 + o) = sN 25 g.cap + c := fun c => sN_u hj
  have hEc := hC.2.2.c
  have hEs := hC.2.2.s
  have han : g.aid (13 + o) < n := by
    rcases Nat.lt_or_ge (g.aid (13 + o)) n with z | z
    · exact z
    · rw [hfr _ z] at hB; cases hB
  have hpo : potW (T.w_wt (ct1 T.wt o [])) + (T.wt o).length = potW T + 0 := potW_u ho
  have hsc := hsn (g.cap (13 + o))
  refine j_clear hO hB hcl.1 (by omega) (fun M' mc' f' hA hX h0 hN => ?_)
  obtain ⟨hC2, hK⟩ := hC.listW ho (xs := []) (M' := M') (n' := n) (nc' := nc) (ns' := ns) (b' := b) (a := g.aid (13 + o)) (c := g.cap (13 + o)) (e := f') hN (Or.inl rfl) (fun e => by
    rw [e] at h0
    refine h0 (Classical.byContradiction fun z => ?_)
    have := hz2 (by omega)
    omega) (fun _ => rfl) ⟨mc', hA⟩ hX ⟨Nat.zero_le _, hcl.2⟩ (fun i y hy => by cases hy) (fun k hk => by rw [hN k (by omega) (by omega)]; exact hfr k hk) (Nat.le_refl _) ⟨by
      show _ + 2 * (potW (T.w_wt (ct1 T.wt o [])) + potO T) ≤ b + sN 25 (ct1 g.cap (13 + o) (g.cap (13 + o)))
      omega, by
      show _ + 14 * (potW (T.w_wt (ct1 T.wt o [])) + potO T) ≤ 300000 + 7 * (b) + 4 * sN 25 (ct1 g.cap (13 + o) (g.cap (13 + o)))
      omega⟩
  exact k _ _ _ _ _ hC2 hK
