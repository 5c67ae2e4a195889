/-! Rows of the ghost machine that read, write or make cells -/
section GZH
variable {l : Launch} {P : gzP} {D : gzD} {F : gzF} {K : gzK} {pc pc' : Nat} {gl : List (Option Value)} {gst gst' : List Value} {M M' : gzM} {n nc ns : Nat}
theorem GZ.store (h : ∀ (p : Program) (e : Env) (R : Room) (s : State) (m : MethodId) (args : Array Value) (below : List Frame) (meth : Method) (c : Code) (H : Heap) (locs : List Loc) (cells slots : Nat) (Q : State → Prop) (q : List Nat) (ls : Array Slot) (st : List Value),
      gz_C P D F gl.length p R s m args meth c → gz_s q gst st → gz_H P D q M n H → (∀ (H' : Heap) (L : List Loc) (st' : List Value), gz_H P D q M' n H' → gz_L D q L → gz_s q gst' st' → W p l e R s m args below meth c H' (locs ++ L) cells slots Q (F0 m pc' ls st')) → W p l e R s m args below meth c H locs cells slots Q (F0 m pc ls st))
    (k : GZ l P D F K pc' gl gst' M' n nc ns) : GZ l P D F K pc gl gst M n nc ns := by
  intro p e R s m args below meth c H locs cells slots q0 q ls st hC h0 hl hs hH hR hL
  refine h p e R s m args below meth c H locs cells slots _ q ls st hC hs hH (fun H' L st' hH' hL' hs' => k p e R s m args below meth c H' (locs ++ L) cells slots q0 q ls st' hC h0 hl hs' hH' hR (fun x hx => ?_))
  rcases List.mem_append.mp hx with z | z
  · exact hL x z
  · exact hL' x z
theorem GZ.alloc {en : gzE} {sz : Nat} (hnc : nc + 1 ≤ D.2.2.2.1) (hns : ns + sz ≤ D.2.2.2.2.1) (h : ∀ (p : Program) (e : Env) (R : Room) (s : State) (m : MethodId) (args : Array Value) (below : List Frame) (meth : Method) (c : Code) (H : Heap) (locs : List Loc) (cells slots : Nat) (Q : State → Prop) (q : List Nat) (ls : Array Slot) (st : List Value),
      gz_C P D F gl.length p R s m args meth c → gz_s q gst st → gz_H P D q M n H → cells + 1 ≤ R.cells → slots + sz ≤ R.slots → (∀ (H' : Heap) (st' : List Value), H'.size = H.size + 1 → (∀ b : Nat, b < H.size → H'[b]? = H[b]?) → gz_e P D (q ++ [H.size]) en H.size H' → gz_s (q ++ [H.size]) gst' st' → W p l e R s m args below meth c H' locs (cells + 1) (slots + sz) Q (F0 m pc' ls st')) → W p l e R s m args below meth c H locs cells slots Q (F0 m pc ls st))
    (k : GZ l P D F K pc' gl gst' (gz_up M n en) (n + 1) (nc + 1) (ns + sz)) : GZ l P D F K pc gl gst M n nc ns := by
  intro p e R s m args below meth c H locs cells slots q0 q ls st hC h0 hl hs hH hR hL
  obtain ⟨r1, r2, r3, r4⟩ := hR
  exact h p e R s m args below meth c H locs cells slots _ q ls st hC hs hH (by omega) (by omega) (fun H' st' hz hq he hs' => k p e R s m args below meth c H' locs (cells + 1) (slots + sz) q0 (q ++ [H.size]) ls st' hC (h0.trans (List.prefix_append _ _)) (hl.mono (List.prefix_append _ _)) hs' (hH.push hz hq he) ⟨by omega, by omega, by omega, by omega⟩ (fun x hx => ⟨List.mem_append_left _ (hL x hx).1, (hL x hx).2⟩))
/-- a link to a field: of objects of class ci, the j-th -/
def gz_fl (P : gzP) (own : String) (idx ci j : Nat) : Prop := ∃ (r : vw_C) (ref : String), P.2.1[ci]? = some r ∧ j < r.2.2 ∧ (∀ w ∈ u_ws r.1 r.2.1 r.2.2, w ∈ P.1) ∧ (Cond.fieldLink own idx ref (r.2.1 j).2.1 (r.2.1 j).2.2.1 ∈ P.1 ∨ ∃ host, Cond.fieldLinkNest own idx ref (r.2.1 j).2.1 (r.2.1 j).2.2.1 host ∈ P.1) ∧ (ref = (r.2.1 j).1 ∨ Cond.sameField ref (r.2.1 j).1 (r.2.1 j).2.1 (r.2.1 j).2.2.1 ∈ P.1)
/-- the types of the fields of a class -/
def gz_ct (P : gzP) (ci : Nat) (ty : Nat → FieldType) : Prop := ∃ r : vw_C, P.2.1[ci]? = some r ∧ (∀ w ∈ u_ws r.1 r.2.1 r.2.2, w ∈ P.1) ∧ (∀ k, k < r.2.2 → parseFieldDescriptor (r.2.1 k).2.2.1 = some (ty k)) ∧ ∀ a, a < r.2.2 → ∀ b, b < r.2.2 → a ≠ b → (r.2.1 a).2.1 ≠ (r.2.1 b).2.1
/-- a value that a field or an array of that type takes as it is -/
def gz_fits (ty : FieldType) (v : Value) : Prop := ∀ (q : List Nat) (w : Value), gz_v q v w → narrow ty w = w ∧ fits ty w = true
theorem gz_fits.i {x : Int32} : gz_fits .int (.int x) := fun q w h => by rw [show w = .int x from h]; exact ⟨rfl, rfl⟩
theorem gz_fits.j {x : Int64} : gz_fits .long (.long x) := fun q w h => by rw [show w = .long x from h]; exact ⟨rfl, rfl⟩
theorem gz_fits.z0 : gz_fits .boolean (.int 0) := fun q w h => by rw [show w = .int 0 from h]; exact ⟨rfl, rfl⟩
theorem gz_fits.z1 : gz_fits .boolean (.int 1) := fun q w h => by rw [show w = .int 1 from h]; exact ⟨rfl, rfl⟩
theorem gz_fits.o {v : Value} {C : String} (hv : gz_isr v) : gz_fits (.object C) v := fun q w h => by
  rcases hv with rfl | ⟨r, rfl⟩
  · rw [show w = .null from h]; exact ⟨rfl, rfl⟩
  · obtain ⟨a, -, h⟩ := h
    rw [h]; exact ⟨rfl, rfl⟩
theorem gz_fits.a {v : Value} {t : FieldType} (hv : gz_isr v) : gz_fits (.array t) v := fun q w h => by
  rcases hv with rfl | ⟨r, rfl⟩
  · rw [show w = .null from h]; exact ⟨rfl, rfl⟩
  · obtain ⟨a, -, h⟩ := h
    rw [h]; exact ⟨rfl, rfl⟩
theorem gz_getf {idx k0 ci j : Nat} {fs : List Value} {v : Value} (hd : decode F.2.1 pc = .ok (.getfield idx, 3)) (hf : gz_fl P F.1.cls idx ci j) (hM : M k0 = some (.inr (ci, fs))) (hv : fs[j]? = some v) (k : GZ l P D F K (pc + 3) gl (v :: gst) M n nc ns) : GZ l P D F K pc gl (.ref k0 :: gst) M n nc ns :=
  GZ.pure (fun p e R s m args below meth c H locs cells slots Q q ls st hC hl hs hH kk => by
    obtain ⟨a, st1, rfl, ha, hs1⟩ := hs.a
    obtain ⟨a', ha', r, g, hr, hlen, ⟨cell, o1, o2, o3, o4⟩, hg, -⟩ := hH.2.2.2 k0 _ hM
    cases ha.symm.trans ha'
    obtain ⟨r0, ref, hr0, hj, hin, hlk, hsm⟩ := hf
    have hrr : r = r0 := Option.some.inj (hr.symm.trans hr0)
    subst hrr
    have hts := hC.2.2.2.2.2.2.2.1
    obtain ⟨hS, hfc, kC, hkC, hkind⟩ := hC.2.2.2.2.2.2.2.2.2.1.1 ci _ hr
    obtain ⟨cf, kf, fi, f, hi, hsl⟩ := hS j hj
    have hsame : s.fieldFound? ref (r.2.1 j).2.1 (r.2.1 j).2.2.1 = some (cf, kf, fi, f) := by
      rcases hsm with e | h
      · rw [e]; exact hi
      · exact u_same (hts _ h) _ hi
    have hst := (u_facts hfc hkC (u_lays hts hin hj) hi).1
    have hval : cell.slots[f.slot]? = some (g j) := by rw [hsl, o4 j hj]
    have hw := hg j v hv
    rcases hlk with h | ⟨host, h⟩
    · exact W.getf hC.1 hC.2.1 hC.2.2.2.1 (hts _ h) hsame hst o1 (by rw [o3]; exact fun h => by cases h) hval rfl rfl hd (kk ls _ hl ⟨_, _, rfl, hw, hs1⟩)
    · exact va_Wgetf hC.1 hC.2.1 hC.2.2.2.1 (hts _ h) hsame hst o1 (by rw [o3]; exact fun h => by cases h) hval rfl rfl hd (kk ls _ hl ⟨_, _, rfl, hw, hs1⟩)) rfl k
theorem gz_apart {ci : Nat} {r : vw_C} {ty : Nat → FieldType} {args : Array Value} {s : State} (hts : ∀ w ∈ P.1, w.before args s = true) (hT : gz_T P D s) (hr : P.2.1[ci]? = some r) (hc : gz_ct P ci ty) : ∀ x y, x < r.2.2 → y < r.2.2 → x ≠ y → (D.2.1.2 ci) x ≠ (D.2.1.2 ci) y := by
  intro x y hx hy hne
  obtain ⟨r', hr', hin, hty, hnm⟩ := hc
  cases hr.symm.trans hr'
  obtain ⟨hS, -⟩ := hT.1 ci _ hr
  obtain ⟨_, _, _, fa, hia, ea⟩ := hS x hx
  obtain ⟨_, _, _, fb, hib, eb⟩ := hS y hy
  rw [← ea, ← eb]
  refine u_apart (u_lays hts hin hx) (u_lays hts hin hy) hia hib ?_
  rw [(State.fieldFound?_type hia (hty x hx)).1, (State.fieldFound?_type hib (hty y hy)).1]
  exact hnm x hx y hy hne
/-- what a field may be written by: it isn't final, or the constructor of its own class writes it -/
def gz_wr (P : gzP) (F : gzF) (ci j : Nat) : Prop := ∃ r : vw_C, P.2.1[ci]? = some r ∧ ((r.2.1 j).2.2.2 = false ∨ ((r.2.1 j).2.2.2 = true ∧ F.1.name = "<init>" ∧ (r.2.1 j).1 = F.1.cls))
theorem gz_putf {idx k0 ci j : Nat} {fs : List Value} {v : Value} {ty : Nat → FieldType} (hd : decode F.2.1 pc = .ok (.putfield idx, 3)) (hf : gz_fl P F.1.cls idx ci j) (hc : gz_ct P ci ty) (hwr : gz_wr P F ci j) (hM : M k0 = some (.inr (ci, fs))) (hfit : gz_fits (ty j) v)
    (k : GZ l P D F K (pc + 3) gl gst (gz_up M k0 (.inr (ci, fs.set j v))) n nc ns) : GZ l P D F K pc gl (v :: .ref k0 :: gst) M n nc ns :=
  GZ.store (fun p e R s m args below meth c H locs cells slots Q q ls st hC hs hH kk => by
    obtain ⟨w, st1, rfl, hw, hs1⟩ := hs
    obtain ⟨a, st2, rfl, ha, hs2⟩ := hs1.a
    obtain ⟨a', ha', r, g, hr, hlen, ⟨cell, o1, o2, o3, o4⟩, hg, hge⟩ := hH.2.2.2 k0 _ hM
    cases ha.symm.trans ha'
    obtain ⟨r0, ref, hr0, hj, hin, hlk, hsm⟩ := hf
    have hrr : r = r0 := Option.some.inj (hr.symm.trans hr0)
    subst hrr
    have hts := hC.2.2.2.2.2.2.2.1
    have hT := hC.2.2.2.2.2.2.2.2.2.1
    have hap := gz_apart hts hT hr hc
    obtain ⟨hS, hfc, kC, hkC, hkind⟩ := hT.1 ci _ hr
    obtain ⟨cf, kf, fi, f, hi, hsl⟩ := hS j hj
    obtain ⟨r2, hr2, -, hty, -⟩ := hc
    have hrr : r = r2 := Option.some.inj (hr.symm.trans hr2)
    subst hrr
    obtain ⟨hnar, hft⟩ := hfit q w hw
    have hsame : s.fieldFound? ref (r.2.1 j).2.1 (r.2.1 j).2.2.1 = some (cf, kf, fi, f) := by
      rcases hsm with e | h
      · rw [e]; exact hi
      · exact u_same (hts _ h) _ hi
    have hst := (u_facts hfc hkC (u_lays hts hin hj) hi).1
    have hlt : f.slot < cell.slots.size := by rw [hsl]; exact k2_hasslot (o4 j hj)
    have hlay := hts _ (hin _ (u_in_lay hj))
    have key : ∀ H' : Heap, H'[a]? = some (cell.setSlot f.slot w) → H'.size = H.size → (∀ b, b ≠ a → H'[b]? = H[b]?) → W p l e R s m args below meth c H' (locs ++ [⟨a, f.slot⟩]) cells slots Q (F0 m (pc + 3) ls st2) := by
      intro H' e1 e2 e3
      refine kk H' [⟨a, f.slot⟩] st2 (hH.set hM ha e2 e3 ⟨r, updV g j w, hr, by rw [List.length_set]; exact hlen, ⟨_, e1, o2, o3, fun i hi2 => ?_⟩, fun i v2 hv2 => ?_, hge⟩) (fun x hx => ?_) hs2
      · rw [hsl]
        exact t_set o4 hap hj w i hi2
      · by_cases hij : i = j
        · subst hij
          rw [List.getElem?_set_self (by rw [hlen]; exact hj)] at hv2
          cases hv2
          rw [show updV g i w i = w by simp [updV]]
          exact hw
        · rw [List.getElem?_set_ne (Ne.symm hij)] at hv2
          rw [show updV g j w i = g i by simp [updV, hij]]
          exact hg i v2 hv2
      · rw [List.mem_singleton.mp hx]
        exact ⟨List.mem_of_getElem? ha, hge⟩
    unfold u_lay at hlay
    obtain ⟨r3, hr3, hfin⟩ := hwr
    have hrr : r = r3 := Option.some.inj (hr.symm.trans hr3)
    subst hrr
    rcases hfin with hfin | ⟨hfin, hini, hown2⟩
    · rw [if_neg (by rw [hfin]; decide)] at hlay
      have h6 := u_store hfc hkC hkind hlay hi (hty j hj) hnar hft
      rcases hlk with h | ⟨host, h⟩
      · exact W.putK hC.1 hC.2.1 (f := f) ⟨hC.2.2.2.1, hts _ h, ⟨_, _, _, hsame⟩, hst⟩ (by rw [o2]; exact h6) o1 o3 hlt rfl rfl hd key
      · exact va_WputK hC.1 hC.2.1 (f := f) hC.2.2.2.1 (hts _ h) hsame hst (by rw [o2]; exact h6) o1 o3 hlt rfl rfl hd key
    · rw [if_pos hfin] at hlay
      have hcf : m.cls = cf := by
        obtain ⟨_, _, c', _, _, _, -, -, hf', -, -, -, hown3, -⟩ := Cond.laysFinal_spec hlay
        have e1 : c' = cf := by
          have := hi.symm.trans hf'
          simp at this
          exact this.1.symm
        rw [hown2] at hown3
        rw [← e1]
        exact Option.some.inj (hC.2.2.2.1.symm.trans hown3)
      have h6 := u_fits hfc hkC hkind (Or.inr hlay) hi (hty j hj) hnar hft
      rcases hlk with h | ⟨host, h⟩
      · exact W.putFinK hC.1 hC.2.1 hC.2.2.2.1 (hts _ h) hsame hst hcf (hC.2.2.2.2.1.trans hini) (by rw [o2]; exact h6) o1 o3 hlt rfl rfl hd key
      · refine va_Wputf hC.1 hC.2.1 hC.2.2.2.1 (hts _ h) hsame hst (Or.inr ⟨hcf, hC.2.2.2.2.1.trans hini⟩) o1 (by rw [o3]; exact fun h => by cases h) hlt h6.1 (by rw [o2, o3]; exact h6.2) rfl rfl hd ?_
        have hal : a < H.size := (Array.getElem?_eq_some_iff.mp o1).1
        exact key _ (by simp [Array.getElem?_setIfInBounds, hal]) (by simp) (fun b hb => by simp [Array.getElem?_setIfInBounds, Ne.symm hb])) k
theorem gz_iaload {k0 kd len i : Nat} {f : Nat → Value} {v : Value} {x : Int32} (hd : decode F.2.1 pc = .ok (.iaload, 1)) (hk : P.2.2.1[kd]? = some .int) (hM : M k0 = some (.inl (kd, len, f))) (hx : x = nI i) (hi : i < len) (hn : len < 2 ^ 31) (hv : f i = v) (k : GZ l P D F K (pc + 1) gl (v :: gst) M n nc ns) : GZ l P D F K pc gl (.int x :: .ref k0 :: gst) M n nc ns :=
  GZ.pure (fun p e R s m args below meth c H locs cells slots Q q ls st hC hl hs hH kk => by
    obtain ⟨st1, rfl, hs1⟩ := hs.i
    obtain ⟨a, st2, rfl, ha, hs2⟩ := hs1.a
    obtain ⟨a', ha', g, cl, o1, hA, hg, -⟩ := hH.2.2.2 k0 _ hM
    cases ha.symm.trans ha'
    subst hx
    have hw := hg i hi
    rw [hv] at hw
    exact W.iald hC.1 hC.2.1 o1 (hA.of (hC.2.2.2.2.2.2.2.2.2.1.2.1 kd _ hk).1) hA.2.2.2 (by rw [hA.size]; exact nI_in hi hn) (by rw [nI_clamp (by omega), hA.read hi]) rfl rfl hd (kk ls _ hl ⟨_, _, rfl, hw, hs2⟩)) rfl k
theorem gz_laload {k0 kd len i : Nat} {f : Nat → Value} {v : Value} {x : Int32} (hd : decode F.2.1 pc = .ok (.laload, 1)) (hk : P.2.2.1[kd]? = some .long) (hM : M k0 = some (.inl (kd, len, f))) (hx : x = nI i) (hi : i < len) (hn : len < 2 ^ 31) (hv : f i = v) (k : GZ l P D F K (pc + 1) gl (v :: gst) M n nc ns) : GZ l P D F K pc gl (.int x :: .ref k0 :: gst) M n nc ns :=
  GZ.pure (fun p e R s m args below meth c H locs cells slots Q q ls st hC hl hs hH kk => by
    obtain ⟨st1, rfl, hs1⟩ := hs.i
    obtain ⟨a, st2, rfl, ha, hs2⟩ := hs1.a
    obtain ⟨a', ha', g, cl, o1, hA, hg, -⟩ := hH.2.2.2 k0 _ hM
    cases ha.symm.trans ha'
    subst hx
    have hw := hg i hi
    rw [hv] at hw
    exact W.lald hC.1 hC.2.1 o1 (hA.of (hC.2.2.2.2.2.2.2.2.2.1.2.1 kd _ hk).1) hA.2.2.2 (by rw [hA.size]; exact nI_in hi hn) (by rw [nI_clamp (by omega), hA.read hi]) rfl rfl hd (kk ls _ hl ⟨_, _, rfl, hw, hs2⟩)) rfl k
theorem gz_zaload {k0 kd len i : Nat} {f : Nat → Value} {v : Value} {x : Int32} (hd : decode F.2.1 pc = .ok (.baload, 1)) (hk : P.2.2.1[kd]? = some .boolean) (hM : M k0 = some (.inl (kd, len, f))) (hx : x = nI i) (hi : i < len) (hn : len < 2 ^ 31) (hv : f i = v) (k : GZ l P D F K (pc + 1) gl (v :: gst) M n nc ns) : GZ l P D F K pc gl (.int x :: .ref k0 :: gst) M n nc ns :=
  GZ.pure (fun p e R s m args below meth c H locs cells slots Q q ls st hC hl hs hH kk => by
    obtain ⟨st1, rfl, hs1⟩ := hs.i
    obtain ⟨a, st2, rfl, ha, hs2⟩ := hs1.a
    obtain ⟨a', ha', g, cl, o1, hA, hg, -⟩ := hH.2.2.2 k0 _ hM
    cases ha.symm.trans ha'
    subst hx
    have hw := hg i hi
    rw [hv] at hw
    exact W.zald hC.1 hC.2.1 o1 (hA.of (hC.2.2.2.2.2.2.2.2.2.1.2.1 kd _ hk).1) hA.2.2.2 (by rw [hA.size]; exact nI_in hi hn) (by rw [nI_clamp (by omega), hA.read hi]) rfl rfl hd (kk ls _ hl ⟨_, _, rfl, hw, hs2⟩)) rfl k
theorem gz_aaload {k0 kd len i : Nat} {C : String} {f : Nat → Value} {v : Value} {x : Int32} (hd : decode F.2.1 pc = .ok (.aaload, 1)) (hk : P.2.2.1[kd]? = some (.object C)) (hM : M k0 = some (.inl (kd, len, f))) (hx : x = nI i) (hi : i < len) (hn : len < 2 ^ 31) (hv : f i = v) (k : GZ l P D F K (pc + 1) gl (v :: gst) M n nc ns) : GZ l P D F K pc gl (.int x :: .ref k0 :: gst) M n nc ns :=
  GZ.pure (fun p e R s m args below meth c H locs cells slots Q q ls st hC hl hs hH kk => by
    obtain ⟨st1, rfl, hs1⟩ := hs.i
    obtain ⟨a, st2, rfl, ha, hs2⟩ := hs1.a
    obtain ⟨a', ha', g, cl, o1, hA, hg, -⟩ := hH.2.2.2 k0 _ hM
    cases ha.symm.trans ha'
    subst hx
    have hw := hg i hi
    rw [hv] at hw
    exact W.aald hC.1 hC.2.1 o1 (hA.of (hC.2.2.2.2.2.2.2.2.2.1.2.1 kd _ hk).1) rfl hA.2.2.2 (by rw [hA.size]; exact nI_in hi hn) (by rw [nI_clamp (by omega), hA.read hi]) rfl rfl hd (kk ls _ hl ⟨_, _, rfl, hw, hs2⟩)) rfl k
theorem gz_iastore {k0 kd len i : Nat} {f : Nat → Value} {y : Int32} {x : Int32} (hd : decode F.2.1 pc = .ok (.iastore, 1)) (hk : P.2.2.1[kd]? = some .int) (hM : M k0 = some (.inl (kd, len, f))) (hx : x = nI i) (hi : i < len) (hn : len < 2 ^ 31) (hk0 : kd ≠ 0) (k : GZ l P D F K (pc + 1) gl gst (gz_up M k0 (.inl (kd, len, updV f i (.int y)))) n nc ns) : GZ l P D F K pc gl (.int y :: .int x :: .ref k0 :: gst) M n nc ns :=
  GZ.store (fun p e R s m args below meth c H locs cells slots Q q ls st hC hs hH kk => by
    obtain ⟨st1, rfl, hs1⟩ := hs.i
    obtain ⟨st2, rfl, hs2⟩ := hs1.i
    obtain ⟨a, st3, rfl, ha, hs3⟩ := hs2.a
    obtain ⟨a', ha', hE⟩ := hH.2.2.2 k0 _ hM
    obtain ⟨g, o1, hg, hge⟩ := hE.wr (by omega) hk0
    cases ha.symm.trans ha'
    subst hx
    refine W.iast hC.1 hC.2.1 o1 ((hC.2.2.2.2.2.2.2.2.2.1.2.1 kd _ hk).1 len g) (fun z => by cases z) (by rw [arrV_size]; exact nI_in hi hn) rfl rfl hd (fun H' e1 e2 e3 => kk H' _ st3 (hH.set hM ha e2 e3 (gz_e.mkA (g := updV g i (.int y)) ?_ (fun j hj => ?_) hge)) (fun z hz => ?_) hs3)
    · rw [e1, nI_clamp (by omega), arrV_store]
    · by_cases hji : j = i
      · subst hji
        simp only [updV, if_true]
        exact rfl
      · simp only [updV, if_neg hji]
        exact hg j hj
    · rw [List.mem_singleton.mp hz]
      exact ⟨List.mem_of_getElem? ha, hge⟩) k
theorem gz_lastore {k0 kd len i : Nat} {f : Nat → Value} {y : Int64} {x : Int32} (hd : decode F.2.1 pc = .ok (.lastore, 1)) (hk : P.2.2.1[kd]? = some .long) (hM : M k0 = some (.inl (kd, len, f))) (hx : x = nI i) (hi : i < len) (hn : len < 2 ^ 31) (hk0 : kd ≠ 0) (k : GZ l P D F K (pc + 1) gl gst (gz_up M k0 (.inl (kd, len, updV f i (.long y)))) n nc ns) : GZ l P D F K pc gl (.long y :: .int x :: .ref k0 :: gst) M n nc ns :=
  GZ.store (fun p e R s m args below meth c H locs cells slots Q q ls st hC hs hH kk => by
    obtain ⟨st1, rfl, hs1⟩ := hs.j
    obtain ⟨st2, rfl, hs2⟩ := hs1.i
    obtain ⟨a, st3, rfl, ha, hs3⟩ := hs2.a
    obtain ⟨a', ha', hE⟩ := hH.2.2.2 k0 _ hM
    obtain ⟨g, o1, hg, hge⟩ := hE.wr (by omega) hk0
    cases ha.symm.trans ha'
    subst hx
    refine W.last hC.1 hC.2.1 o1 ((hC.2.2.2.2.2.2.2.2.2.1.2.1 kd _ hk).1 len g) (fun z => by cases z) (by rw [arrV_size]; exact nI_in hi hn) rfl rfl hd (fun H' e1 e2 e3 => kk H' _ st3 (hH.set hM ha e2 e3 (gz_e.mkA (g := updV g i (.long y)) ?_ (fun j hj => ?_) hge)) (fun z hz => ?_) hs3)
    · rw [e1, nI_clamp (by omega), arrV_store]
    · by_cases hji : j = i
      · subst hji
        simp only [updV, if_true]
        exact rfl
      · simp only [updV, if_neg hji]
        exact hg j hj
    · rw [List.mem_singleton.mp hz]
      exact ⟨List.mem_of_getElem? ha, hge⟩) k
theorem gz_zastore {k0 kd len i : Nat} {f : Nat → Value} {y : Int32} {x : Int32} (hd : decode F.2.1 pc = .ok (.bastore, 1)) (hk : P.2.2.1[kd]? = some .boolean) (hM : M k0 = some (.inl (kd, len, f))) (hx : x = nI i) (hi : i < len) (hn : len < 2 ^ 31) (hk0 : kd ≠ 0) (hy : narrow .boolean (.int y) = .int y) (k : GZ l P D F K (pc + 1) gl gst (gz_up M k0 (.inl (kd, len, updV f i (.int y)))) n nc ns) : GZ l P D F K pc gl (.int y :: .int x :: .ref k0 :: gst) M n nc ns :=
  GZ.store (fun p e R s m args below meth c H locs cells slots Q q ls st hC hs hH kk => by
    obtain ⟨st1, rfl, hs1⟩ := hs.i
    obtain ⟨st2, rfl, hs2⟩ := hs1.i
    obtain ⟨a, st3, rfl, ha, hs3⟩ := hs2.a
    obtain ⟨a', ha', hE⟩ := hH.2.2.2 k0 _ hM
    obtain ⟨g, o1, hg, hge⟩ := hE.wr (by omega) hk0
    cases ha.symm.trans ha'
    subst hx
    refine W.zast hC.1 hC.2.1 o1 ((hC.2.2.2.2.2.2.2.2.2.1.2.1 kd _ hk).1 len g) (fun z => by cases z) (by rw [arrV_size]; exact nI_in hi hn) rfl rfl hd (fun H' e1 e2 e3 => kk H' _ st3 (hH.set hM ha e2 e3 (gz_e.mkA (g := updV g i (.int y)) ?_ (fun j hj => ?_) hge)) (fun z hz => ?_) hs3)
    · rw [e1, nI_clamp (by omega), hy, arrV_store]
    · by_cases hji : j = i
      · subst hji
        simp only [updV, if_true]
        exact rfl
      · simp only [updV, if_neg hji]
        exact hg j hj
    · rw [List.mem_singleton.mp hz]
      exact ⟨List.mem_of_getElem? ha, hge⟩) k
theorem gz_alen {k0 kd len : Nat} {f : Nat → Value} {ty : FieldType} (hd : decode F.2.1 pc = .ok (.arraylength, 1)) (hk : P.2.2.1[kd]? = some ty) (hM : M k0 = some (.inl (kd, len, f))) (k : GZ l P D F K (pc + 1) gl (.int (nI len) :: gst) M n nc ns) : GZ l P D F K pc gl (.ref k0 :: gst) M n nc ns :=
  GZ.pure (fun p e R s m args below meth c H locs cells slots Q q ls st hC hl hs hH kk => by
    obtain ⟨a, st2, rfl, ha, hs1⟩ := hs.a
    obtain ⟨a', ha', g, cl, o1, hA, hg, -⟩ := hH.2.2.2 k0 _ hM
    cases ha.symm.trans ha'
    exact W.alen (n := nI len) hC.1 hC.2.1 o1 (hA.of (hC.2.2.2.2.2.2.2.2.2.1.2.1 kd _ hk).1) (by rw [hA.size]; rfl) rfl rfl hd (kk ls _ hl ⟨_, _, rfl, rfl, hs1⟩)) rfl k
/-- a reference into an array of references: an object of the arrays' own class, or null -/
theorem gz_aastore {k0 kd len i k1 ci : Nat} {f : Nat → Value} {fs : List Value} {r : vw_C} {x : Int32} (hd : decode F.2.1 pc = .ok (.aastore, 1)) (hk : P.2.2.1[kd]? = some (.object r.1)) (hci : P.2.1[ci]? = some r) (hM : M k0 = some (.inl (kd, len, f))) (hM1 : M k1 = some (.inr (ci, fs))) (hx : x = nI i) (hi : i < len) (hn : len < 2 ^ 31) (hk0 : kd ≠ 0)
    (k : GZ l P D F K (pc + 1) gl gst (gz_up M k0 (.inl (kd, len, updV f i (.ref k1)))) n nc ns) : GZ l P D F K pc gl (.ref k1 :: .int x :: .ref k0 :: gst) M n nc ns :=
  GZ.store (fun p e R s m args below meth c H locs cells slots Q q ls st hC hs hH kk => by
    obtain ⟨b, st1, rfl, hb, hs1⟩ := hs.a
    obtain ⟨st2, rfl, hs2⟩ := hs1.i
    obtain ⟨a, st3, rfl, ha, hs3⟩ := hs2.a
    obtain ⟨a', ha', hE⟩ := hH.2.2.2 k0 _ hM
    obtain ⟨g, o1, hg, hge⟩ := hE.wr (by omega) hk0
    cases ha.symm.trans ha'
    obtain ⟨b', hb', r', g1, hr', -, ⟨cellV, p1, p2, p3, -⟩, -, -⟩ := hH.2.2.2 k1 _ hM1
    cases hb.symm.trans hb'
    cases hci.symm.trans hr'
    subst hx
    have hT := hC.2.2.2.2.2.2.2.2.2.1
    have hcls := (hT.1 ci r hci).2
    obtain ⟨kA, comp, k1', k2, k3, -⟩ := (hT.2.1 kd _ hk).2 hk0
    have hcomp : comp = D.2.1.1 ci := Option.some.inj (k3.symm.trans hcls.1)
    subst hcomp
    obtain ⟨kC, hkC, -⟩ := hcls.2
    refine W.aast hC.1 hC.2.1 o1 (fun z h => by cases h) (fun h => by cases h) k1' k2 rfl hkC ⟨nI_pos (by omega), by rw [arrV_size, nI_clamp (by omega)]; exact hi⟩ p1 (fun z h => by rw [p3] at h; cases h) (by rw [p2]; exact hkC) (by rw [p2]; exact va_assign hcls) rfl rfl hd (fun H' e1 e2 e3 => kk H' _ st3 (hH.set hM ha e2 e3 (gz_e.mkA (g := updV g i (.ref b)) ?_ (fun j hj => ?_) hge)) (fun z hz => ?_) hs3)
    · rw [e1, nI_clamp (by omega), arrV_store]
    · by_cases hji : j = i
      · subst hji
        simp only [updV, if_true]
        exact ⟨b, hb, rfl⟩
      · simp only [updV, if_neg hji]
        exact hg j hj
    · rw [List.mem_singleton.mp hz]
      exact ⟨List.mem_of_getElem? ha, hge⟩) k
theorem gz_aastoreN {k0 kd len i : Nat} {f : Nat → Value} {C : String} {x : Int32} (hd : decode F.2.1 pc = .ok (.aastore, 1)) (hk : P.2.2.1[kd]? = some (.object C)) (hM : M k0 = some (.inl (kd, len, f))) (hx : x = nI i) (hi : i < len) (hn : len < 2 ^ 31) (hk0 : kd ≠ 0)
    (k : GZ l P D F K (pc + 1) gl gst (gz_up M k0 (.inl (kd, len, updV f i .null))) n nc ns) : GZ l P D F K pc gl (.null :: .int x :: .ref k0 :: gst) M n nc ns :=
  GZ.store (fun p e R s m args below meth c H locs cells slots Q q ls st hC hs hH kk => by
    obtain ⟨st1, rfl, hs1⟩ := hs.n
    obtain ⟨st2, rfl, hs2⟩ := hs1.i
    obtain ⟨a, st3, rfl, ha, hs3⟩ := hs2.a
    obtain ⟨a', ha', hE⟩ := hH.2.2.2 k0 _ hM
    obtain ⟨g, o1, hg, hge⟩ := hE.wr (by omega) hk0
    cases ha.symm.trans ha'
    subst hx
    refine va_WaastN (C := C) hC.1 hC.2.1 o1 ((hC.2.2.2.2.2.2.2.2.2.1.2.1 kd _ hk).1 len g) (fun h => by cases h) (by rw [arrV_size]; exact nI_in hi hn) rfl rfl hd (fun H' e1 e2 e3 => kk H' _ st3 (hH.set hM ha e2 e3 (gz_e.mkA (g := updV g i .null) ?_ (fun j hj => ?_) hge)) (fun z hz => ?_) hs3)
    · rw [e1, nI_clamp (by omega), arrV_store]
    · by_cases hji : j = i
      · subst hji
        simp only [updV, if_true]
        exact rfl
      · simp only [updV, if_neg hji]
        exact hg j hj
    · rw [List.mem_singleton.mp hz]
      exact ⟨List.mem_of_getElem? ha, hge⟩) k
theorem gz_v_def (q : List Nat) (ty : FieldType) : gz_v q (defaultValue ty) (defaultValue ty) := by
  cases ty <;> exact rfl
/-- all that 'new' asks of the tables; the fields of the new object -/
def gz_nw (P : gzP) (F : gzF) (idx ci : Nat) (ty : Nat → FieldType) (fs : List Value) : Prop := ∃ r : vw_C, P.2.1[ci]? = some r ∧ (∀ w ∈ u_ws r.1 r.2.1 r.2.2, w ∈ P.1) ∧ (∀ k, k < r.2.2 → parseFieldDescriptor (r.2.1 k).2.2.1 = some (ty k)) ∧ Cond.classLink F.1.cls idx r.1 ∈ P.1 ∧ Cond.instantiable r.1 r.2.2 ∈ P.1 ∧ Cond.initialized r.1 ∈ P.1 ∧ fs = (List.range r.2.2).map (fun j => defaultValue (ty j))
theorem gz_new {idx ci : Nat} {ty : Nat → FieldType} {fs : List Value} (hd : decode F.2.1 pc = .ok (.new idx, 3)) (hw : gz_nw P F idx ci ty fs) (hnc : nc + 1 ≤ D.2.2.2.1) (hns : ns + fs.length ≤ D.2.2.2.2.1)
    (k : GZ l P D F K (pc + 3) gl (.ref n :: gst) (gz_up M n (.inr (ci, fs))) (n + 1) (nc + 1) (ns + fs.length)) : GZ l P D F K pc gl gst M n nc ns := by
  obtain ⟨r, hr, hin, hty, hcl, hinst, hini, hfs⟩ := hw
  have hfl : fs.length = r.2.2 := by rw [hfs]; simp
  refine GZ.alloc (en := .inr (ci, fs)) hnc hns (fun p e R s m args below meth c H locs cells slots Q q ls st hC hs hH hc1 hz1 kk => ?_) k
  have hts := hC.2.2.2.2.2.2.2.1
  have hKn := hC.2.2.2.2.2.2.2.2.2.1.1 ci _ hr
  rw [hfl] at hz1 kk
  refine W.newcK hC.1 hC.2.1 hC.2.2.2.1 (hts _ hcl) (hts _ hinst) (hts _ hini) rfl hd hc1 hz1 hKn.2.1 rfl fun H1 kC hkC e1 z1 o1 => ?_
  refine kk H1 _ z1 o1 ⟨r, fun j => defaultValue (ty j), hr, hfl, u_born ty hts hin hKn hkC e1 hty, fun j v hv => ?_, hH.2.2.1.2.1⟩ ⟨_, _, rfl, ⟨H.size, ?_, rfl⟩, hs.mono (List.prefix_append _ _)⟩
  · rw [hfs, List.getElem?_map] at hv
    obtain ⟨j', hj', rfl⟩ := Option.map_eq_some_iff.mp hv
    have hjj := (List.getElem?_eq_some_iff.mp hj').2
    rw [List.getElem_range] at hjj
    subst hjj
    exact gz_v_def _ _
  · rw [List.getElem?_append_right (by rw [hH.1]; exact Nat.le_refl _), hH.1, Nat.sub_self]
    rfl
/-- a new array of a simple type -/
theorem gz_newarray {at0 : ArrayType} {kd N : Nat} {x : Int32} {ty : FieldType} (hd : decode F.2.1 pc = .ok (.newarray at0, 2)) (hty : newarray.typeOf at0 = ty) (hk : P.2.2.1[kd]? = some ty) (hw : Cond.arrayClass ty ∈ P.1) (hx : x = nI N) (hN : N * componentBytes ty ≤ 536870912) (hN2 : N < 2 ^ 31) (hnc : nc + 1 ≤ D.2.2.2.1) (hns : ns + N ≤ D.2.2.2.2.1)
    (k : GZ l P D F K (pc + 2) gl (.ref n :: gst) (gz_up M n (.inl (kd, N, fun _ => defaultValue ty))) (n + 1) (nc + 1) (ns + N)) (hk0 : kd ≠ 0 := by decide) : GZ l P D F K pc gl (.int x :: gst) M n nc ns := by
  subst hty
  refine GZ.alloc (en := .inl (kd, N, fun _ => defaultValue (newarray.typeOf at0))) hnc hns (fun p e R s m args below meth c H locs cells slots Q q ls st hC hs hH hc1 hz1 kk => ?_) k
  obtain ⟨st1, rfl, hs1⟩ := hs.i
  subst hx
  refine va_newaK hC.1 hC.2.1 (hC.2.2.2.2.2.2.2.1 _ hw) rfl hd rfl (nI_pos hN2) (nI_clamp hN2) hN hc1 hz1 rfl fun H1 cA e1 z1 o1 hAr hNm => ?_
  have hRA := (hC.2.2.2.2.2.2.2.2.2.1.2.1 kd _ hk).2 hk0
  have hcA : cA = D.1 kd := by
    have h2 : s.vm.findClass ("[" ++ (newarray.typeOf at0).toString) = some (D.1 kd) := by
      cases at0 <;> exact hRA
    exact Option.some.inj (hNm.symm.trans h2)
  subst hcA
  refine kk H1 _ z1 o1 (gz_e.mkA e1 (fun j hj => gz_v_def _ _) hH.2.2.1.2.1) ⟨_, _, rfl, ⟨H.size, ?_, rfl⟩, hs1.mono (List.prefix_append _ _)⟩
  rw [List.getElem?_append_right (by rw [hH.1]; exact Nat.le_refl _), hH.1, Nat.sub_self]
  rfl
/-- a new array of references -/
theorem gz_anewarray {idx kd N : Nat} {x : Int32} {C : String} (hd : decode F.2.1 pc = .ok (.anewarray idx, 3)) (hk : P.2.2.1[kd]? = some (.object C)) (hcl : Cond.classLink F.1.cls idx C ∈ P.1) (hov : Cond.arrayOver (.object C) ∈ P.1) (hx : x = nI N) (hN : N * 4 ≤ 536870912) (hnc : nc + 1 ≤ D.2.2.2.1) (hns : ns + N ≤ D.2.2.2.2.1)
    (k : GZ l P D F K (pc + 3) gl (.ref n :: gst) (gz_up M n (.inl (kd, N, fun _ => .null))) (n + 1) (nc + 1) (ns + N)) (hk0 : kd ≠ 0 := by decide) : GZ l P D F K pc gl (.int x :: gst) M n nc ns := by
  refine GZ.alloc (en := .inl (kd, N, fun _ => .null)) hnc hns (fun p e R s m args below meth c H locs cells slots Q q ls st hC hs hH hc1 hz1 kk => ?_) k
  obtain ⟨st1, rfl, hs1⟩ := hs.i
  subst hx
  have hts := hC.2.2.2.2.2.2.2.1
  have hcl0 : (nI N).toNatClampNeg = N := nI_clamp (by omega)
  refine W.anew hC.1 hC.2.1 hC.2.2.2.1 (hts _ hcl) (hts _ hov) rfl hd rfl (nI_pos (by omega)) (by rw [hcl0]; exact hN) hc1 (by rw [hcl0]; exact hz1) fun cA kA comp f1 f2 f3 f4 => ?_
  rw [hcl0]
  obtain ⟨kA', comp', k1, k2, k3, k4⟩ := (hC.2.2.2.2.2.2.2.2.2.1.2.1 kd _ hk).2 hk0
  have hcA : cA = D.1 kd := Option.some.inj (f1.symm.trans k4)
  subst hcA
  refine kk _ _ (by simp) (fun b hb => by rw [Array.getElem?_push, if_neg (Nat.ne_of_lt hb)]) (gz_e.mkA (g := fun _ => .null) (by rw [Array.getElem?_push_size, ← arrV_new]) (fun j hj => rfl) hH.2.2.1.2.1) ⟨_, _, rfl, ⟨H.size, ?_, rfl⟩, hs1.mono (List.prefix_append _ _)⟩
  rw [List.getElem?_append_right (by rw [hH.1]; exact Nat.le_refl _), hH.1, Nat.sub_self]
  rfl
end GZH
