/-! Rows of the ghost machine: instructions that leave the heap as it is. Printed by wip/whole/gen_rows.py -/
def gz_k (gl : List (Option Value)) (i : Nat) : Prop := match i with
  | 0 => True
  | j + 1 => match gl[j]? with
    | some (some v) => v.category = 1
    | _ => True
def gz_isr (v : Value) : Prop := v = .null ∨ ∃ k, v = .ref k
theorem gz_isr.r (k : Nat) : gz_isr (.ref k) := Or.inr ⟨k, rfl⟩
theorem gz_isr.n : gz_isr .null := Or.inl rfl
theorem gz_lv {q : List Nat} {gl : List (Option Value)} {ls : Array Slot} (h : gz_l q gl ls) : ∃ lv : List (Nat × Value), lv_has ls gl.length lv ∧ ∀ (i : Nat) (v : Value), gl[i]? = some (some v) → ∃ w, (i, w) ∈ lv ∧ gz_v q v w := by
  refine ⟨(List.range gl.length).filterMap (fun (i : Nat) => match ls[i]? with | some (Slot.val w) => some (i, w) | _ => none), ⟨h.1, h.2.1, fun x hx => ?_⟩, fun i v hv => ?_⟩
  · obtain ⟨i, -, hi⟩ := List.mem_filterMap.mp hx
    cases hls : ls[i]? with
    | none => simp [hls] at hi
    | some z =>
      cases z with
      | val w =>
        simp [hls] at hi
        subst hi
        exact hls
      | _ => simp [hls] at hi
  · obtain ⟨w, h1, h2⟩ := h.2.2 i v hv
    refine ⟨w, List.mem_filterMap.mpr ⟨i, List.mem_range.mpr ((List.getElem?_eq_some_iff.mp hv).1), ?_⟩, h2⟩
    simp [h1]
theorem gz_st1 {q : List Nat} {gl : List (Option Value)} {ls : Array Slot} {i : Nat} {v w : Value} (h : gz_l q gl ls) (hi : i < gl.length) (hk : gz_k gl i) (hv : gz_v q v w) :
    ∃ lv : List (Nat × Value), lv_has ls gl.length lv ∧ ∀ ls' : Array Slot, lv_has ls' gl.length ((i, w) :: lv.filter (fun q => !(q.1 == i) && !(q.1 + 1 == i && q.2.category == 2))) → gz_l q (gl.set i (some v)) ls' := by
  obtain ⟨lv, h1, h2⟩ := gz_lv h
  refine ⟨lv, h1, fun ls' h' => ⟨by rw [List.length_set]; exact h'.1, h'.2.1, fun j v' hj => ?_⟩⟩
  by_cases hji : j = i
  · subst hji
    rw [List.getElem?_set_self hi] at hj
    cases hj
    exact ⟨w, h'.2.2 (j, w) List.mem_cons_self, hv⟩
  · rw [List.getElem?_set_ne (Ne.symm hji)] at hj
    obtain ⟨w', m1, m2⟩ := h2 j v' hj
    refine ⟨w', h'.2.2 (j, w') (List.mem_cons_of_mem _ (List.mem_filter.mpr ⟨m1, ?_⟩)), m2⟩
    show (!(j == i) && !(j + 1 == i && w'.category == 2)) = true
    by_cases hj1 : j + 1 = i
    · have hc : v'.category = 1 := by
        subst hj1
        simpa [gz_k, hj] using hk
      simp [m2.cat, hc, hji]
    · simp [hj1, hji]
theorem gz_st2 {q : List Nat} {gl : List (Option Value)} {ls : Array Slot} {i : Nat} {v w : Value} (h : gz_l q gl ls) (hi : i + 1 < gl.length) (hk : gz_k gl i) (hv : gz_v q v w) :
    ∃ lv : List (Nat × Value), lv_has ls gl.length lv ∧ ∀ ls' : Array Slot, lv_has ls' gl.length ((i, w) :: lv.filter (fun q => !(q.1 == i) && (!(q.1 == i + 1) && !(q.1 + 1 == i && q.2.category == 2)))) → gz_l q ((gl.set i (some v)).set (i + 1) none) ls' := by
  obtain ⟨lv, h1, h2⟩ := gz_lv h
  refine ⟨lv, h1, fun ls' h' => ⟨by rw [List.length_set, List.length_set]; exact h'.1, h'.2.1, fun j v' hj => ?_⟩⟩
  by_cases hjs : j = i + 1
  · subst hjs
    rw [List.getElem?_set_self (by rw [List.length_set]; exact hi)] at hj
    cases hj
  · rw [List.getElem?_set_ne (Ne.symm hjs)] at hj
    by_cases hji : j = i
    · subst hji
      rw [List.getElem?_set_self (by omega)] at hj
      cases hj
      exact ⟨w, h'.2.2 (j, w) List.mem_cons_self, hv⟩
    · rw [List.getElem?_set_ne (Ne.symm hji)] at hj
      obtain ⟨w', m1, m2⟩ := h2 j v' hj
      refine ⟨w', h'.2.2 (j, w') (List.mem_cons_of_mem _ (List.mem_filter.mpr ⟨m1, ?_⟩)), m2⟩
      show (!(j == i) && (!(j == i + 1) && !(j + 1 == i && w'.category == 2))) = true
      by_cases hj1 : j + 1 = i
      · have hc : v'.category = 1 := by
          subst hj1
          simpa [gz_k, hj] using hk
        simp [m2.cat, hc, hji, hjs]
      · simp [hj1, hji, hjs]
section GZR
variable {l : Launch} {P : gzP} {D : gzD} {F : gzF} {K : gzK} {pc : Nat} {gl : List (Option Value)} {gst : List Value} {M : gzM} {n nc ns : Nat}
theorem gz_iconst {i : Int} {v : Int32} (hd : decode F.2.1 pc = .ok (.iconst i, 1)) (hv : Int32.ofInt i = v) (k : GZ l P D F K (pc + 1) gl (.int v :: gst) M n nc ns) : GZ l P D F K pc gl gst M n nc ns :=
  GZ.pure (fun p e R s m args below meth c H locs cells slots Q q ls st hC hl hs hH kk => by
    exact lv_iconst hC.1 hC.2.1 hd hv (kk ls _ hl ⟨_, _, rfl, rfl, hs⟩)) rfl k
theorem gz_bipush {i : Int} {v : Int32} (hd : decode F.2.1 pc = .ok (.bipush i, 2)) (hv : (Int8.ofInt i).toInt32 = v) (k : GZ l P D F K (pc + 2) gl (.int v :: gst) M n nc ns) : GZ l P D F K pc gl gst M n nc ns :=
  GZ.pure (fun p e R s m args below meth c H locs cells slots Q q ls st hC hl hs hH kk => by
    exact lv_bipush hC.1 hC.2.1 hd hv (kk ls _ hl ⟨_, _, rfl, rfl, hs⟩)) rfl k
theorem gz_sipush {i : Int} {v : Int32} (hd : decode F.2.1 pc = .ok (.sipush i, 3)) (hv : (Int16.ofInt i).toInt32 = v) (k : GZ l P D F K (pc + 3) gl (.int v :: gst) M n nc ns) : GZ l P D F K pc gl gst M n nc ns :=
  GZ.pure (fun p e R s m args below meth c H locs cells slots Q q ls st hC hl hs hH kk => by
    exact lv_sipush hC.1 hC.2.1 hd hv (kk ls _ hl ⟨_, _, rfl, rfl, hs⟩)) rfl k
theorem gz_lconst {i : Fin 2} {v : Int64} (hd : decode F.2.1 pc = .ok (.lconst i, 1)) (hv : Int64.ofNat (i : Nat) = v) (k : GZ l P D F K (pc + 1) gl (.long v :: gst) M n nc ns) : GZ l P D F K pc gl gst M n nc ns :=
  GZ.pure (fun p e R s m args below meth c H locs cells slots Q q ls st hC hl hs hH kk => by
    exact lv_lconst hC.1 hC.2.1 hd hv (kk ls _ hl ⟨_, _, rfl, rfl, hs⟩)) rfl k
theorem gz_null (hd : decode F.2.1 pc = .ok (.aconst_null, 1)) (k : GZ l P D F K (pc + 1) gl (.null :: gst) M n nc ns) : GZ l P D F K pc gl gst M n nc ns :=
  GZ.pure (fun p e R s m args below meth c H locs cells slots Q q ls st hC hl hs hH kk => by
    exact lv_null hC.1 hC.2.1 hd (kk ls _ hl ⟨_, _, rfl, rfl, hs⟩)) rfl k
theorem gz_ldc {i : Nat} {v : Int32} (hd : decode F.2.1 pc = .ok (.ldc i, 2)) (hw : Cond.constant F.1.cls i v ∈ P.1) (k : GZ l P D F K (pc + 2) gl (.int v :: gst) M n nc ns) : GZ l P D F K pc gl gst M n nc ns :=
  GZ.pure (fun p e R s m args below meth c H locs cells slots Q q ls st hC hl hs hH kk => by
    exact lv_ldc hC.1 hC.2.1 hC.2.2.2.1 (hC.2.2.2.2.2.2.2.1 _ hw) hd (kk ls _ hl ⟨_, _, rfl, rfl, hs⟩)) rfl k
theorem gz_ldc2 {i : Nat} {v : Int64} (hd : decode F.2.1 pc = .ok (.ldc2_w i, 3)) (hw : Cond.constantLong F.1.cls i v ∈ P.1) (k : GZ l P D F K (pc + 3) gl (.long v :: gst) M n nc ns) : GZ l P D F K pc gl gst M n nc ns :=
  GZ.pure (fun p e R s m args below meth c H locs cells slots Q q ls st hC hl hs hH kk => by
    exact lv_ldc2 hC.1 hC.2.1 hC.2.2.2.1 (hC.2.2.2.2.2.2.2.1 _ hw) hd (kk ls _ hl ⟨_, _, rfl, rfl, hs⟩)) rfl k
theorem gz_iload_n {j : Fin 4} {i : Nat} {x : Int32} (hd : decode F.2.1 pc = .ok (.iload_n j, 1)) (hi : (j : Nat) = i) (hx : gl[i]? = some (some (.int x))) (k : GZ l P D F K (pc + 1) gl (.int x :: gst) M n nc ns) : GZ l P D F K pc gl gst M n nc ns :=
  GZ.pure (fun p e R s m args below meth c H locs cells slots Q q ls st hC hl hs hH kk => by
    obtain ⟨w, h1, h2⟩ := hl.2.2 i _ hx
    have h2 : w = .int x := h2
    subst h2
    exact lv_iload_n hC.1 hC.2.1 hd hi h1 (kk ls _ hl ⟨_, _, rfl, rfl, hs⟩)) rfl k
theorem gz_iload {i : Nat} {x : Int32} (hd : decode F.2.1 pc = .ok (.iload i, 2)) (hx : gl[i]? = some (some (.int x))) (k : GZ l P D F K (pc + 2) gl (.int x :: gst) M n nc ns) : GZ l P D F K pc gl gst M n nc ns :=
  GZ.pure (fun p e R s m args below meth c H locs cells slots Q q ls st hC hl hs hH kk => by
    obtain ⟨w, h1, h2⟩ := hl.2.2 i _ hx
    have h2 : w = .int x := h2
    subst h2
    exact lv_iload hC.1 hC.2.1 hd h1 (kk ls _ hl ⟨_, _, rfl, rfl, hs⟩)) rfl k
theorem gz_lload_n {j : Fin 4} {i : Nat} {x : Int64} (hd : decode F.2.1 pc = .ok (.lload_n j, 1)) (hi : (j : Nat) = i) (hx : gl[i]? = some (some (.long x))) (k : GZ l P D F K (pc + 1) gl (.long x :: gst) M n nc ns) : GZ l P D F K pc gl gst M n nc ns :=
  GZ.pure (fun p e R s m args below meth c H locs cells slots Q q ls st hC hl hs hH kk => by
    obtain ⟨w, h1, h2⟩ := hl.2.2 i _ hx
    have h2 : w = .long x := h2
    subst h2
    exact lv_lload_n hC.1 hC.2.1 hd hi h1 (kk ls _ hl ⟨_, _, rfl, rfl, hs⟩)) rfl k
theorem gz_lload {i : Nat} {x : Int64} (hd : decode F.2.1 pc = .ok (.lload i, 2)) (hx : gl[i]? = some (some (.long x))) (k : GZ l P D F K (pc + 2) gl (.long x :: gst) M n nc ns) : GZ l P D F K pc gl gst M n nc ns :=
  GZ.pure (fun p e R s m args below meth c H locs cells slots Q q ls st hC hl hs hH kk => by
    obtain ⟨w, h1, h2⟩ := hl.2.2 i _ hx
    have h2 : w = .long x := h2
    subst h2
    exact lv_lload hC.1 hC.2.1 hd h1 (kk ls _ hl ⟨_, _, rfl, rfl, hs⟩)) rfl k
theorem gz_aload_n {j : Fin 4} {i : Nat} {v : Value} (hd : decode F.2.1 pc = .ok (.aload_n j, 1)) (hi : (j : Nat) = i) (hx : gl[i]? = some (some v)) (hr : gz_isr v) (k : GZ l P D F K (pc + 1) gl (v :: gst) M n nc ns) : GZ l P D F K pc gl gst M n nc ns :=
  GZ.pure (fun p e R s m args below meth c H locs cells slots Q q ls st hC hl hs hH kk => by
    obtain ⟨w, h1, h2⟩ := hl.2.2 i _ hx
    rcases hr with rfl | ⟨r, rfl⟩
    · have h2 : w = .null := h2
      subst h2
      exact lv_aload_nN hC.1 hC.2.1 hd hi h1 (kk ls _ hl ⟨_, _, rfl, rfl, hs⟩)
    · obtain ⟨a, h3, h2⟩ := h2
      subst h2
      exact lv_aload_n hC.1 hC.2.1 hd hi h1 (kk ls _ hl ⟨_, _, rfl, ⟨a, h3, rfl⟩, hs⟩)) rfl k
theorem gz_aload {i : Nat} {v : Value} (hd : decode F.2.1 pc = .ok (.aload i, 2)) (hx : gl[i]? = some (some v)) (hr : gz_isr v) (k : GZ l P D F K (pc + 2) gl (v :: gst) M n nc ns) : GZ l P D F K pc gl gst M n nc ns :=
  GZ.pure (fun p e R s m args below meth c H locs cells slots Q q ls st hC hl hs hH kk => by
    obtain ⟨w, h1, h2⟩ := hl.2.2 i _ hx
    rcases hr with rfl | ⟨r, rfl⟩
    · have h2 : w = .null := h2
      subst h2
      exact lv_aloadN hC.1 hC.2.1 hd h1 (kk ls _ hl ⟨_, _, rfl, rfl, hs⟩)
    · obtain ⟨a, h3, h2⟩ := h2
      subst h2
      exact lv_aload hC.1 hC.2.1 hd h1 (kk ls _ hl ⟨_, _, rfl, ⟨a, h3, rfl⟩, hs⟩)) rfl k
theorem gz_istore_n {j : Fin 4} {i : Nat} {x : Int32} (hd : decode F.2.1 pc = .ok (.istore_n j, 1)) (hi : (j : Nat) = i) (hb : i < gl.length) (hk : gz_k gl i) (k : GZ l P D F K (pc + 1) (gl.set i (some (.int x))) gst M n nc ns) : GZ l P D F K pc gl (.int x :: gst) M n nc ns :=
  GZ.pure (fun p e R s m args below meth c H locs cells slots Q q ls st hC hl hs hH kk => by
    obtain ⟨st1, rfl, hs1⟩ := hs.i
    obtain ⟨lv, h1, h2⟩ := gz_st1 hl hb hk (show gz_v q (.int x) (.int x) from rfl)
    exact lv_istore_n hC.1 hC.2.1 hd hi h1 hb rfl (fun ls' h' => kk ls' _ (h2 ls' h') hs1)) (by simp) k
theorem gz_istore {i : Nat} {x : Int32} (hd : decode F.2.1 pc = .ok (.istore i, 2)) (hb : i < gl.length) (hk : gz_k gl i) (k : GZ l P D F K (pc + 2) (gl.set i (some (.int x))) gst M n nc ns) : GZ l P D F K pc gl (.int x :: gst) M n nc ns :=
  GZ.pure (fun p e R s m args below meth c H locs cells slots Q q ls st hC hl hs hH kk => by
    obtain ⟨st1, rfl, hs1⟩ := hs.i
    obtain ⟨lv, h1, h2⟩ := gz_st1 hl hb hk (show gz_v q (.int x) (.int x) from rfl)
    exact lv_istore hC.1 hC.2.1 hd h1 hb rfl (fun ls' h' => kk ls' _ (h2 ls' h') hs1)) (by simp) k
theorem gz_lstore_n {j : Fin 4} {i : Nat} {x : Int64} (hd : decode F.2.1 pc = .ok (.lstore_n j, 1)) (hi : (j : Nat) = i) (hb : i + 1 < gl.length) (hk : gz_k gl i) (k : GZ l P D F K (pc + 1) ((gl.set i (some (.long x))).set (i + 1) none) gst M n nc ns) : GZ l P D F K pc gl (.long x :: gst) M n nc ns :=
  GZ.pure (fun p e R s m args below meth c H locs cells slots Q q ls st hC hl hs hH kk => by
    obtain ⟨st1, rfl, hs1⟩ := hs.j
    obtain ⟨lv, h1, h2⟩ := gz_st2 hl hb hk (show gz_v q (.long x) (.long x) from rfl)
    exact lv_lstore_n hC.1 hC.2.1 hd hi h1 hb rfl (fun ls' h' => kk ls' _ (h2 ls' h') hs1)) (by simp) k
theorem gz_lstore {i : Nat} {x : Int64} (hd : decode F.2.1 pc = .ok (.lstore i, 2)) (hb : i + 1 < gl.length) (hk : gz_k gl i) (k : GZ l P D F K (pc + 2) ((gl.set i (some (.long x))).set (i + 1) none) gst M n nc ns) : GZ l P D F K pc gl (.long x :: gst) M n nc ns :=
  GZ.pure (fun p e R s m args below meth c H locs cells slots Q q ls st hC hl hs hH kk => by
    obtain ⟨st1, rfl, hs1⟩ := hs.j
    obtain ⟨lv, h1, h2⟩ := gz_st2 hl hb hk (show gz_v q (.long x) (.long x) from rfl)
    exact lv_lstore hC.1 hC.2.1 hd h1 hb rfl (fun ls' h' => kk ls' _ (h2 ls' h') hs1)) (by simp) k
theorem gz_astore_n {j : Fin 4} {i : Nat} {v : Value} (hd : decode F.2.1 pc = .ok (.astore_n j, 1)) (hi : (j : Nat) = i) (hb : i < gl.length) (hk : gz_k gl i) (hr : gz_isr v) (k : GZ l P D F K (pc + 1) (gl.set i (some v)) gst M n nc ns) : GZ l P D F K pc gl (v :: gst) M n nc ns :=
  GZ.pure (fun p e R s m args below meth c H locs cells slots Q q ls st hC hl hs hH kk => by
    obtain ⟨w, st1, rfl, hw, hs1⟩ := hs
    obtain ⟨lv, h1, h2⟩ := gz_st1 hl hb hk hw
    rcases hr with rfl | ⟨r, rfl⟩
    · have hw : w = .null := hw
      subst hw
      exact lv_astore_nN hC.1 hC.2.1 hd hi h1 hb rfl (fun ls' h' => kk ls' _ (h2 ls' h') hs1)
    · obtain ⟨a, h3, hw⟩ := hw
      subst hw
      exact lv_astore_n hC.1 hC.2.1 hd hi h1 hb rfl (fun ls' h' => kk ls' _ (h2 ls' h') hs1)) (by simp) k
theorem gz_astore {i : Nat} {v : Value} (hd : decode F.2.1 pc = .ok (.astore i, 2)) (hb : i < gl.length) (hk : gz_k gl i) (hr : gz_isr v) (k : GZ l P D F K (pc + 2) (gl.set i (some v)) gst M n nc ns) : GZ l P D F K pc gl (v :: gst) M n nc ns :=
  GZ.pure (fun p e R s m args below meth c H locs cells slots Q q ls st hC hl hs hH kk => by
    obtain ⟨w, st1, rfl, hw, hs1⟩ := hs
    obtain ⟨lv, h1, h2⟩ := gz_st1 hl hb hk hw
    rcases hr with rfl | ⟨r, rfl⟩
    · have hw : w = .null := hw
      subst hw
      exact lv_astoreN hC.1 hC.2.1 hd h1 hb rfl (fun ls' h' => kk ls' _ (h2 ls' h') hs1)
    · obtain ⟨a, h3, hw⟩ := hw
      subst hw
      exact lv_astore hC.1 hC.2.1 hd h1 hb rfl (fun ls' h' => kk ls' _ (h2 ls' h') hs1)) (by simp) k
theorem gz_iinc {i : Nat} {d : Int} {x v : Int32} (hd : decode F.2.1 pc = .ok (.iinc i d, 3)) (hx : gl[i]? = some (some (.int x))) (hv : x + Int32.ofInt d = v) (hb : i < gl.length) (hk : gz_k gl i) (k : GZ l P D F K (pc + 3) (gl.set i (some (.int v))) gst M n nc ns) : GZ l P D F K pc gl gst M n nc ns :=
  GZ.pure (fun p e R s m args below meth c H locs cells slots Q q ls st hC hl hs hH kk => by
    obtain ⟨lv0, h0, h0'⟩ := gz_lv hl
    obtain ⟨w, m1, m2⟩ := h0' i _ hx
    have m2 : w = .int x := m2
    subst m2
    obtain ⟨j, hj⟩ := List.getElem?_of_mem m1
    refine lv_iinc hC.1 hC.2.1 hd h0 hj hv hb rfl (fun ls' h' => kk ls' _ ?_ hs)
    refine ⟨by rw [List.length_set]; exact h'.1, h'.2.1, fun j2 v2 hj2 => ?_⟩
    by_cases hji : j2 = i
    · subst hji
      rw [List.getElem?_set_self hb] at hj2
      cases hj2
      exact ⟨_, h'.2.2 (j2, .int v) List.mem_cons_self, rfl⟩
    · rw [List.getElem?_set_ne (Ne.symm hji)] at hj2
      obtain ⟨w2, m3, m4⟩ := h0' j2 v2 hj2
      refine ⟨w2, h'.2.2 (j2, w2) (List.mem_cons_of_mem _ (List.mem_filter.mpr ⟨m3, ?_⟩)), m4⟩
      show (!(j2 == i) && !(j2 + 1 == i && w2.category == 2)) = true
      by_cases hj1 : j2 + 1 = i
      · have hc : v2.category = 1 := by
          subst hj1
          simpa [gz_k, hj2] using hk
        simp [m4.cat, hc, hji]
      · simp [hj1, hji]) (by simp) k
theorem gz_iadd {x y : Int32} (hd : decode F.2.1 pc = .ok (.iadd, 1)) (k : GZ l P D F K (pc + 1) gl (.int (x + y) :: gst) M n nc ns) : GZ l P D F K pc gl (.int y :: .int x :: gst) M n nc ns :=
  GZ.pure (fun p e R s m args below meth c H locs cells slots Q q ls st hC hl hs hH kk => by
    obtain ⟨st1, rfl, hs1⟩ := hs.i
    obtain ⟨st2, rfl, hs2⟩ := hs1.i
    exact lv_iadd hC.1 hC.2.1 hd (kk ls _ hl ⟨_, _, rfl, rfl, hs2⟩)) rfl k
theorem gz_isub {x y : Int32} (hd : decode F.2.1 pc = .ok (.isub, 1)) (k : GZ l P D F K (pc + 1) gl (.int (x - y) :: gst) M n nc ns) : GZ l P D F K pc gl (.int y :: .int x :: gst) M n nc ns :=
  GZ.pure (fun p e R s m args below meth c H locs cells slots Q q ls st hC hl hs hH kk => by
    obtain ⟨st1, rfl, hs1⟩ := hs.i
    obtain ⟨st2, rfl, hs2⟩ := hs1.i
    exact lv_isub hC.1 hC.2.1 hd (kk ls _ hl ⟨_, _, rfl, rfl, hs2⟩)) rfl k
theorem gz_imul {x y : Int32} (hd : decode F.2.1 pc = .ok (.imul, 1)) (k : GZ l P D F K (pc + 1) gl (.int (x * y) :: gst) M n nc ns) : GZ l P D F K pc gl (.int y :: .int x :: gst) M n nc ns :=
  GZ.pure (fun p e R s m args below meth c H locs cells slots Q q ls st hC hl hs hH kk => by
    obtain ⟨st1, rfl, hs1⟩ := hs.i
    obtain ⟨st2, rfl, hs2⟩ := hs1.i
    exact lv_imul hC.1 hC.2.1 hd (kk ls _ hl ⟨_, _, rfl, rfl, hs2⟩)) rfl k
theorem gz_iand {x y : Int32} (hd : decode F.2.1 pc = .ok (.iand, 1)) (k : GZ l P D F K (pc + 1) gl (.int (x &&& y) :: gst) M n nc ns) : GZ l P D F K pc gl (.int y :: .int x :: gst) M n nc ns :=
  GZ.pure (fun p e R s m args below meth c H locs cells slots Q q ls st hC hl hs hH kk => by
    obtain ⟨st1, rfl, hs1⟩ := hs.i
    obtain ⟨st2, rfl, hs2⟩ := hs1.i
    exact lv_iand hC.1 hC.2.1 hd (kk ls _ hl ⟨_, _, rfl, rfl, hs2⟩)) rfl k
theorem gz_ior {x y : Int32} (hd : decode F.2.1 pc = .ok (.ior, 1)) (k : GZ l P D F K (pc + 1) gl (.int (x ||| y) :: gst) M n nc ns) : GZ l P D F K pc gl (.int y :: .int x :: gst) M n nc ns :=
  GZ.pure (fun p e R s m args below meth c H locs cells slots Q q ls st hC hl hs hH kk => by
    obtain ⟨st1, rfl, hs1⟩ := hs.i
    obtain ⟨st2, rfl, hs2⟩ := hs1.i
    exact lv_ior hC.1 hC.2.1 hd (kk ls _ hl ⟨_, _, rfl, rfl, hs2⟩)) rfl k
theorem gz_ladd {x y : Int64} (hd : decode F.2.1 pc = .ok (.ladd, 1)) (k : GZ l P D F K (pc + 1) gl (.long (x + y) :: gst) M n nc ns) : GZ l P D F K pc gl (.long y :: .long x :: gst) M n nc ns :=
  GZ.pure (fun p e R s m args below meth c H locs cells slots Q q ls st hC hl hs hH kk => by
    obtain ⟨st1, rfl, hs1⟩ := hs.j
    obtain ⟨st2, rfl, hs2⟩ := hs1.j
    exact lv_ladd hC.1 hC.2.1 hd (kk ls _ hl ⟨_, _, rfl, rfl, hs2⟩)) rfl k
theorem gz_lsub {x y : Int64} (hd : decode F.2.1 pc = .ok (.lsub, 1)) (k : GZ l P D F K (pc + 1) gl (.long (x - y) :: gst) M n nc ns) : GZ l P D F K pc gl (.long y :: .long x :: gst) M n nc ns :=
  GZ.pure (fun p e R s m args below meth c H locs cells slots Q q ls st hC hl hs hH kk => by
    obtain ⟨st1, rfl, hs1⟩ := hs.j
    obtain ⟨st2, rfl, hs2⟩ := hs1.j
    exact lv_lsub hC.1 hC.2.1 hd (kk ls _ hl ⟨_, _, rfl, rfl, hs2⟩)) rfl k
theorem gz_lmul {x y : Int64} (hd : decode F.2.1 pc = .ok (.lmul, 1)) (k : GZ l P D F K (pc + 1) gl (.long (x * y) :: gst) M n nc ns) : GZ l P D F K pc gl (.long y :: .long x :: gst) M n nc ns :=
  GZ.pure (fun p e R s m args below meth c H locs cells slots Q q ls st hC hl hs hH kk => by
    obtain ⟨st1, rfl, hs1⟩ := hs.j
    obtain ⟨st2, rfl, hs2⟩ := hs1.j
    exact lv_lmul hC.1 hC.2.1 hd (kk ls _ hl ⟨_, _, rfl, rfl, hs2⟩)) rfl k
theorem gz_ldiv {x y : Int64} (hd : decode F.2.1 pc = .ok (.ldiv, 1)) (hne : ¬ y = 0) (k : GZ l P D F K (pc + 1) gl (.long (x / y) :: gst) M n nc ns) : GZ l P D F K pc gl (.long y :: .long x :: gst) M n nc ns :=
  GZ.pure (fun p e R s m args below meth c H locs cells slots Q q ls st hC hl hs hH kk => by
    obtain ⟨st1, rfl, hs1⟩ := hs.j
    obtain ⟨st2, rfl, hs2⟩ := hs1.j
    exact lv_ldiv hC.1 hC.2.1 hd hne (kk ls _ hl ⟨_, _, rfl, rfl, hs2⟩)) rfl k
theorem gz_lrem {x y : Int64} (hd : decode F.2.1 pc = .ok (.lrem, 1)) (hne : ¬ y = 0) (k : GZ l P D F K (pc + 1) gl (.long (x - x / y * y) :: gst) M n nc ns) : GZ l P D F K pc gl (.long y :: .long x :: gst) M n nc ns :=
  GZ.pure (fun p e R s m args below meth c H locs cells slots Q q ls st hC hl hs hH kk => by
    obtain ⟨st1, rfl, hs1⟩ := hs.j
    obtain ⟨st2, rfl, hs2⟩ := hs1.j
    exact lv_lrem hC.1 hC.2.1 hd hne (kk ls _ hl ⟨_, _, rfl, rfl, hs2⟩)) rfl k
theorem gz_lcmp {x y : Int64} (hd : decode F.2.1 pc = .ok (.lcmp, 1)) (k : GZ l P D F K (pc + 1) gl (.int (lg_cmp x y) :: gst) M n nc ns) : GZ l P D F K pc gl (.long y :: .long x :: gst) M n nc ns :=
  GZ.pure (fun p e R s m args below meth c H locs cells slots Q q ls st hC hl hs hH kk => by
    obtain ⟨st1, rfl, hs1⟩ := hs.j
    obtain ⟨st2, rfl, hs2⟩ := hs1.j
    exact W.lcmp hC.1 hC.2.1 hd (kk ls _ hl ⟨_, _, rfl, rfl, hs2⟩)) rfl k
theorem gz_i2l {x : Int32} (hd : decode F.2.1 pc = .ok (.i2l, 1)) (k : GZ l P D F K (pc + 1) gl (.long x.toInt64 :: gst) M n nc ns) : GZ l P D F K pc gl (.int x :: gst) M n nc ns :=
  GZ.pure (fun p e R s m args below meth c H locs cells slots Q q ls st hC hl hs hH kk => by
    obtain ⟨st1, rfl, hs1⟩ := hs.i
    exact lv_i2l hC.1 hC.2.1 hd rfl (kk ls _ hl ⟨_, _, rfl, rfl, hs1⟩)) rfl k
theorem gz_l2i {x : Int64} (hd : decode F.2.1 pc = .ok (.l2i, 1)) (k : GZ l P D F K (pc + 1) gl (.int x.toInt32 :: gst) M n nc ns) : GZ l P D F K pc gl (.long x :: gst) M n nc ns :=
  GZ.pure (fun p e R s m args below meth c H locs cells slots Q q ls st hC hl hs hH kk => by
    obtain ⟨st1, rfl, hs1⟩ := hs.j
    exact lv_l2i hC.1 hC.2.1 hd rfl (kk ls _ hl ⟨_, _, rfl, rfl, hs1⟩)) rfl k
theorem gz_ishr {x y : Int32} (hd : decode F.2.1 pc = .ok (.ishr, 1)) (k : GZ l P D F K (pc + 1) gl (.int (x >>> (y &&& 31)) :: gst) M n nc ns) : GZ l P D F K pc gl (.int y :: .int x :: gst) M n nc ns :=
  GZ.pure (fun p e R s m args below meth c H locs cells slots Q q ls st hC hl hs hH kk => by
    obtain ⟨st1, rfl, hs1⟩ := hs.i
    obtain ⟨st2, rfl, hs2⟩ := hs1.i
    exact lv_ishr hC.1 hC.2.1 hd (kk ls _ hl ⟨_, _, rfl, rfl, hs2⟩)) rfl k
theorem gz_dup {v : Value} (hd : decode F.2.1 pc = .ok (.dup, 1)) (hv : v.category = 1) (k : GZ l P D F K (pc + 1) gl (v :: v :: gst) M n nc ns) : GZ l P D F K pc gl (v :: gst) M n nc ns :=
  GZ.pure (fun p e R s m args below meth c H locs cells slots Q q ls st hC hl hs hH kk => by
    obtain ⟨w, st1, rfl, hw, hs1⟩ := hs
    exact lv_dup hC.1 hC.2.1 hd (hw.cat.trans hv) (kk ls _ hl ⟨w, _, rfl, hw, w, _, rfl, hw, hs1⟩)) rfl k
theorem gz_pop {v : Value} (hd : decode F.2.1 pc = .ok (.pop, 1)) (hv : v.category = 1) (k : GZ l P D F K (pc + 1) gl gst M n nc ns) : GZ l P D F K pc gl (v :: gst) M n nc ns :=
  GZ.pure (fun p e R s m args below meth c H locs cells slots Q q ls st hC hl hs hH kk => by
    obtain ⟨w, st1, rfl, hw, hs1⟩ := hs
    exact lv_pop hC.1 hC.2.1 hd (hw.cat.trans hv) (kk ls _ hl hs1)) rfl k
theorem gz_dup_x1 {v u : Value} (hd : decode F.2.1 pc = .ok (.dup_x1, 1)) (hv : v.category = 1) (hu : u.category = 1) (k : GZ l P D F K (pc + 1) gl (v :: u :: v :: gst) M n nc ns) : GZ l P D F K pc gl (v :: u :: gst) M n nc ns :=
  GZ.pure (fun p e R s m args below meth c H locs cells slots Q q ls st hC hl hs hH kk => by
    obtain ⟨w, st1, rfl, hw, w2, st2, rfl, hw2, hs1⟩ := hs
    exact lv_dup_x1 hC.1 hC.2.1 hd (hw.cat.trans hv) (hw2.cat.trans hu) (kk ls _ hl ⟨w, _, rfl, hw, w2, _, rfl, hw2, w, _, rfl, hw, hs1⟩)) rfl k
theorem gz_dup2 {v u : Value} (hd : decode F.2.1 pc = .ok (.dup2, 1)) (hv : v.category = 1) (hu : u.category = 1) (k : GZ l P D F K (pc + 1) gl (v :: u :: v :: u :: gst) M n nc ns) : GZ l P D F K pc gl (v :: u :: gst) M n nc ns :=
  GZ.pure (fun p e R s m args below meth c H locs cells slots Q q ls st hC hl hs hH kk => by
    obtain ⟨w, st1, rfl, hw, w2, st2, rfl, hw2, hs1⟩ := hs
    exact lv_dup2_11 hC.1 hC.2.1 hd (hw.cat.trans hv) (hw2.cat.trans hu) (kk ls _ hl ⟨w, _, rfl, hw, w2, _, rfl, hw2, w, _, rfl, hw, w2, _, rfl, hw2, hs1⟩)) rfl k
theorem gz_goto {off : Int} {tgt : Nat} (hd : decode F.2.1 pc = .ok (.goto off, 3)) (ht : (pc : Int) + off = (tgt : Int)) (k : GZ l P D F K tgt gl gst M n nc ns) : GZ l P D F K pc gl gst M n nc ns :=
  GZ.pure (fun p e R s m args below meth c H locs cells slots Q q ls st hC hl hs hH kk => by
    exact lv_goto hC.1 hC.2.1 hd ht (kk ls _ hl hs)) rfl k
theorem gz_if_eq {x : Int32} {off : Int} {tgt : Nat} (hd : decode F.2.1 pc = .ok (.ifCond .eq off, 3)) (ht : (pc : Int) + off = (tgt : Int)) (kt : (x = 0) → GZ l P D F K tgt gl gst M n nc ns) (kf : ¬ (x = 0) → GZ l P D F K (pc + 3) gl gst M n nc ns) : GZ l P D F K pc gl (.int x :: gst) M n nc ns :=
  GZ.fork (fun p e R s m args below meth c H locs cells slots Q q ls st hC hs hH kt kf => by
    obtain ⟨st1, rfl, hs1⟩ := hs.i
    exact lv_if_eq hC.1 hC.2.1 hd ht (fun h => kt h _ hs1) (fun h => kf h _ hs1)) kt kf
theorem gz_icmp_eq {x y : Int32} {off : Int} {tgt : Nat} (hd : decode F.2.1 pc = .ok (.if_icmp .eq off, 3)) (ht : (pc : Int) + off = (tgt : Int)) (kt : (x = y) → GZ l P D F K tgt gl gst M n nc ns) (kf : ¬ (x = y) → GZ l P D F K (pc + 3) gl gst M n nc ns) : GZ l P D F K pc gl (.int y :: .int x :: gst) M n nc ns :=
  GZ.fork (fun p e R s m args below meth c H locs cells slots Q q ls st hC hs hH kt kf => by
    obtain ⟨st1, rfl, hs1⟩ := hs.i
    obtain ⟨st2, rfl, hs2⟩ := hs1.i
    exact lv_icmp_eq hC.1 hC.2.1 hd ht (fun h => kt h _ hs2) (fun h => kf h _ hs2)) kt kf
theorem gz_if_lt {x : Int32} {off : Int} {tgt : Nat} (hd : decode F.2.1 pc = .ok (.ifCond .lt off, 3)) (ht : (pc : Int) + off = (tgt : Int)) (kt : (x < 0) → GZ l P D F K tgt gl gst M n nc ns) (kf : ¬ (x < 0) → GZ l P D F K (pc + 3) gl gst M n nc ns) : GZ l P D F K pc gl (.int x :: gst) M n nc ns :=
  GZ.fork (fun p e R s m args below meth c H locs cells slots Q q ls st hC hs hH kt kf => by
    obtain ⟨st1, rfl, hs1⟩ := hs.i
    exact lv_if_lt hC.1 hC.2.1 hd ht (fun h => kt h _ hs1) (fun h => kf h _ hs1)) kt kf
theorem gz_icmp_lt {x y : Int32} {off : Int} {tgt : Nat} (hd : decode F.2.1 pc = .ok (.if_icmp .lt off, 3)) (ht : (pc : Int) + off = (tgt : Int)) (kt : (x < y) → GZ l P D F K tgt gl gst M n nc ns) (kf : ¬ (x < y) → GZ l P D F K (pc + 3) gl gst M n nc ns) : GZ l P D F K pc gl (.int y :: .int x :: gst) M n nc ns :=
  GZ.fork (fun p e R s m args below meth c H locs cells slots Q q ls st hC hs hH kt kf => by
    obtain ⟨st1, rfl, hs1⟩ := hs.i
    obtain ⟨st2, rfl, hs2⟩ := hs1.i
    exact lv_icmp_lt hC.1 hC.2.1 hd ht (fun h => kt h _ hs2) (fun h => kf h _ hs2)) kt kf
theorem gz_if_ge {x : Int32} {off : Int} {tgt : Nat} (hd : decode F.2.1 pc = .ok (.ifCond .ge off, 3)) (ht : (pc : Int) + off = (tgt : Int)) (kt : (0 ≤ x) → GZ l P D F K tgt gl gst M n nc ns) (kf : ¬ (0 ≤ x) → GZ l P D F K (pc + 3) gl gst M n nc ns) : GZ l P D F K pc gl (.int x :: gst) M n nc ns :=
  GZ.fork (fun p e R s m args below meth c H locs cells slots Q q ls st hC hs hH kt kf => by
    obtain ⟨st1, rfl, hs1⟩ := hs.i
    exact lv_if_ge hC.1 hC.2.1 hd ht (fun h => kt h _ hs1) (fun h => kf h _ hs1)) kt kf
theorem gz_icmp_ge {x y : Int32} {off : Int} {tgt : Nat} (hd : decode F.2.1 pc = .ok (.if_icmp .ge off, 3)) (ht : (pc : Int) + off = (tgt : Int)) (kt : (y ≤ x) → GZ l P D F K tgt gl gst M n nc ns) (kf : ¬ (y ≤ x) → GZ l P D F K (pc + 3) gl gst M n nc ns) : GZ l P D F K pc gl (.int y :: .int x :: gst) M n nc ns :=
  GZ.fork (fun p e R s m args below meth c H locs cells slots Q q ls st hC hs hH kt kf => by
    obtain ⟨st1, rfl, hs1⟩ := hs.i
    obtain ⟨st2, rfl, hs2⟩ := hs1.i
    exact lv_icmp_ge hC.1 hC.2.1 hd ht (fun h => kt h _ hs2) (fun h => kf h _ hs2)) kt kf
theorem gz_if_gt {x : Int32} {off : Int} {tgt : Nat} (hd : decode F.2.1 pc = .ok (.ifCond .gt off, 3)) (ht : (pc : Int) + off = (tgt : Int)) (kt : (0 < x) → GZ l P D F K tgt gl gst M n nc ns) (kf : ¬ (0 < x) → GZ l P D F K (pc + 3) gl gst M n nc ns) : GZ l P D F K pc gl (.int x :: gst) M n nc ns :=
  GZ.fork (fun p e R s m args below meth c H locs cells slots Q q ls st hC hs hH kt kf => by
    obtain ⟨st1, rfl, hs1⟩ := hs.i
    exact lv_if_gt hC.1 hC.2.1 hd ht (fun h => kt h _ hs1) (fun h => kf h _ hs1)) kt kf
theorem gz_icmp_gt {x y : Int32} {off : Int} {tgt : Nat} (hd : decode F.2.1 pc = .ok (.if_icmp .gt off, 3)) (ht : (pc : Int) + off = (tgt : Int)) (kt : (y < x) → GZ l P D F K tgt gl gst M n nc ns) (kf : ¬ (y < x) → GZ l P D F K (pc + 3) gl gst M n nc ns) : GZ l P D F K pc gl (.int y :: .int x :: gst) M n nc ns :=
  GZ.fork (fun p e R s m args below meth c H locs cells slots Q q ls st hC hs hH kt kf => by
    obtain ⟨st1, rfl, hs1⟩ := hs.i
    obtain ⟨st2, rfl, hs2⟩ := hs1.i
    exact lv_icmp_gt hC.1 hC.2.1 hd ht (fun h => kt h _ hs2) (fun h => kf h _ hs2)) kt kf
theorem gz_if_le {x : Int32} {off : Int} {tgt : Nat} (hd : decode F.2.1 pc = .ok (.ifCond .le off, 3)) (ht : (pc : Int) + off = (tgt : Int)) (kt : (x ≤ 0) → GZ l P D F K tgt gl gst M n nc ns) (kf : ¬ (x ≤ 0) → GZ l P D F K (pc + 3) gl gst M n nc ns) : GZ l P D F K pc gl (.int x :: gst) M n nc ns :=
  GZ.fork (fun p e R s m args below meth c H locs cells slots Q q ls st hC hs hH kt kf => by
    obtain ⟨st1, rfl, hs1⟩ := hs.i
    exact lv_if_le hC.1 hC.2.1 hd ht (fun h => kt h _ hs1) (fun h => kf h _ hs1)) kt kf
theorem gz_icmp_le {x y : Int32} {off : Int} {tgt : Nat} (hd : decode F.2.1 pc = .ok (.if_icmp .le off, 3)) (ht : (pc : Int) + off = (tgt : Int)) (kt : (x ≤ y) → GZ l P D F K tgt gl gst M n nc ns) (kf : ¬ (x ≤ y) → GZ l P D F K (pc + 3) gl gst M n nc ns) : GZ l P D F K pc gl (.int y :: .int x :: gst) M n nc ns :=
  GZ.fork (fun p e R s m args below meth c H locs cells slots Q q ls st hC hs hH kt kf => by
    obtain ⟨st1, rfl, hs1⟩ := hs.i
    obtain ⟨st2, rfl, hs2⟩ := hs1.i
    exact lv_icmp_le hC.1 hC.2.1 hd ht (fun h => kt h _ hs2) (fun h => kf h _ hs2)) kt kf
theorem gz_if_ne {x : Int32} {off : Int} {tgt : Nat} (hd : decode F.2.1 pc = .ok (.ifCond .ne off, 3)) (ht : (pc : Int) + off = (tgt : Int)) (kt : ¬ x = 0 → GZ l P D F K tgt gl gst M n nc ns) (kf : x = 0 → GZ l P D F K (pc + 3) gl gst M n nc ns) : GZ l P D F K pc gl (.int x :: gst) M n nc ns :=
  GZ.fork (C := ¬ x = 0) (fun p e R s m args below meth c H locs cells slots Q q ls st hC hs hH kt kf => by
    obtain ⟨st1, rfl, hs1⟩ := hs.i
    exact lv_if_ne hC.1 hC.2.1 hd ht (fun h => kt h _ hs1) (fun h => kf (fun z => z h) _ hs1)) kt (fun h => kf (Classical.not_not.mp h))
theorem gz_icmp_ne {x y : Int32} {off : Int} {tgt : Nat} (hd : decode F.2.1 pc = .ok (.if_icmp .ne off, 3)) (ht : (pc : Int) + off = (tgt : Int)) (kt : ¬ x = y → GZ l P D F K tgt gl gst M n nc ns) (kf : x = y → GZ l P D F K (pc + 3) gl gst M n nc ns) : GZ l P D F K pc gl (.int y :: .int x :: gst) M n nc ns :=
  GZ.fork (C := ¬ x = y) (fun p e R s m args below meth c H locs cells slots Q q ls st hC hs hH kt kf => by
    obtain ⟨st1, rfl, hs1⟩ := hs.i
    obtain ⟨st2, rfl, hs2⟩ := hs1.i
    exact lv_icmp_ne hC.1 hC.2.1 hd ht (fun h => kt h _ hs2) (fun h => kf (fun z => z h) _ hs2)) kt (fun h => kf (Classical.not_not.mp h))
theorem gz_ifnull {v : Value} {off : Int} {tgt : Nat} (hd : decode F.2.1 pc = .ok (.ifnull off, 3)) (ht : (pc : Int) + off = (tgt : Int)) (hr : gz_isr v) (kt : (v = .null) → GZ l P D F K tgt gl gst M n nc ns) (kf : ¬ (v = .null) → GZ l P D F K (pc + 3) gl gst M n nc ns) : GZ l P D F K pc gl (v :: gst) M n nc ns :=
  GZ.fork (fun p e R s m args below meth c H locs cells slots Q q ls st hC hs hH kt kf => by
    obtain ⟨w, st1, rfl, hw, hs1⟩ := hs
    rcases hr with rfl | ⟨r, rfl⟩
    · have hw : w = .null := hw
      subst hw
      exact lv_ifnullN hC.1 hC.2.1 hd ht (kt rfl _ hs1)
    · obtain ⟨a, h3, hw⟩ := hw
      subst hw
      exact lv_ifnull hC.1 hC.2.1 hd (kf (fun h => by cases h) _ hs1)) kt kf
theorem gz_ifnonnull {v : Value} {off : Int} {tgt : Nat} (hd : decode F.2.1 pc = .ok (.ifnonnull off, 3)) (ht : (pc : Int) + off = (tgt : Int)) (hr : gz_isr v) (kt : (v ≠ .null) → GZ l P D F K tgt gl gst M n nc ns) (kf : ¬ (v ≠ .null) → GZ l P D F K (pc + 3) gl gst M n nc ns) : GZ l P D F K pc gl (v :: gst) M n nc ns :=
  GZ.fork (fun p e R s m args below meth c H locs cells slots Q q ls st hC hs hH kt kf => by
    obtain ⟨w, st1, rfl, hw, hs1⟩ := hs
    rcases hr with rfl | ⟨r, rfl⟩
    · have hw : w = .null := hw
      subst hw
      exact lv_ifnonnullN hC.1 hC.2.1 hd (kf (fun h => h rfl) _ hs1)
    · obtain ⟨a, h3, hw⟩ := hw
      subst hw
      exact lv_ifnonnull hC.1 hC.2.1 hd ht (kt (fun h => by cases h) _ hs1)) kt kf
theorem gz_acmp_eq {k j : Nat} {off : Int} {tgt : Nat} (hd : decode F.2.1 pc = .ok (.if_acmp .eq off, 3)) (ht : (pc : Int) + off = (tgt : Int)) (hkj : k = j) (kt : (k = j) → GZ l P D F K tgt gl gst M n nc ns) (kf : ¬ (k = j) → GZ l P D F K (pc + 3) gl gst M n nc ns) : GZ l P D F K pc gl (.ref j :: .ref k :: gst) M n nc ns :=
  GZ.fork (fun p e R s m args below meth c H locs cells slots Q q ls st hC hs hH kt kf => by
    obtain ⟨a, st1, rfl, ha, hs1⟩ := hs.a
    obtain ⟨b, st2, rfl, hb, hs2⟩ := hs1.a
    refine lv_acmp_eq (rx := some b) (ry := some a) hC.1 hC.2.1 hd ht (fun h => kt ?_ _ hs2) (fun h => kf ?_ _ hs2)
    · exact hkj
    · intro z
      subst z
      exact h (hb.symm.trans ha)) kt kf
theorem gz_tableOut {dflt lo hi : Int} {offs : Array Int} {len : Nat} {x : Int32} {tgt : Nat} (hd : decode F.2.1 pc = .ok (.tableswitch dflt lo hi offs, len)) (h : x.toInt < lo ∨ hi < x.toInt) (ht : (pc : Int) + dflt = (tgt : Int)) (k : GZ l P D F K tgt gl gst M n nc ns) : GZ l P D F K pc gl (.int x :: gst) M n nc ns :=
  GZ.pure (fun p e R s m args below meth c H locs cells slots Q q ls st hC hl hs hH kk => by
    obtain ⟨st1, rfl, hs1⟩ := hs.i
    exact lv_tableOut hC.1 hC.2.1 hd h ht (kk ls _ hl hs1)) rfl k
theorem gz_tableIn {dflt lo hi : Int} {offs : Array Int} {len : Nat} {x : Int32} {off : Int} {tgt : Nat} (hd : decode F.2.1 pc = .ok (.tableswitch dflt lo hi offs, len)) (h1 : ¬ x.toInt < lo) (h2 : ¬ hi < x.toInt) (ho : offs[(x.toInt - lo).toNat]? = some off) (ht : (pc : Int) + off = (tgt : Int)) (k : GZ l P D F K tgt gl gst M n nc ns) : GZ l P D F K pc gl (.int x :: gst) M n nc ns :=
  GZ.pure (fun p e R s m args below meth c H locs cells slots Q q ls st hC hl hs hH kk => by
    obtain ⟨st1, rfl, hs1⟩ := hs.i
    exact lv_tableIn hC.1 hC.2.1 hd h1 h2 ho ht (kk ls _ hl hs1)) rfl k
end GZR
