/-! System.arraycopy of references; clone of an array; a throw whose text has a wide index -/
section GZY
variable {l : Launch} {P : gzP} {D : gzD} {F : gzF} {K : gzK} {pc : Nat} {gl : List (Option Value)} {gst : List Value} {M : gzM} {n nc ns : Nat}
theorem gz_arraycopy {idx k0 k1 kd kd1 n0 n1 sp dp cn : Nat} {f g : Nat → Value} {C0 C1 : String} {xs xd xn : Int32} (hd : decode F.2.1 pc = .ok (.invokestatic idx, 3)) (hlk : Cond.methodLink F.1.cls idx arraycopyName ∈ P.1) (hnt : Cond.native arraycopyName ∈ P.1) (hst : Cond.static arraycopyName ∈ P.1) (hin : Cond.initialized "java/lang/System" ∈ P.1)
    (hk : P.2.2.1[kd]? = some (.object C0)) (hk1 : P.2.2.1[kd1]? = some (.object C1)) (hM : M k0 = some (.inl (kd, n0, f))) (hM1 : M k1 = some (.inl (kd1, n1, g))) (hxs : xs = nI sp) (hxd : xd = nI dp) (hxn : xn = nI cn) (h4 : sp + cn ≤ n0) (h5 : dp + cn ≤ n1) (hb0 : n0 < 2 ^ 31) (hb1 : n1 < 2 ^ 31) (hpos : 0 < n1) (hkd : kd1 ≠ 0)
    (hel : ∀ i, i < cn → f (sp + i) = .null ∨ ∃ (k ci : Nat) (fs : List Value) (r : vw_C), f (sp + i) = .ref k ∧ M k = some (.inr (ci, fs)) ∧ P.2.1[ci]? = some r ∧ Cond.castable r.1 C1 ∈ P.1) (hdep : 1 ≤ F.2.2.1.1) (hW : (gst.map fun v => v.category).sum + (nativeFrameWords "java/lang/System" "arraycopy" 5 + 11) ≤ F.2.2.1.2)
    (k : GZ l P D F K (pc + 3) gl gst (gz_up M k1 (.inl (kd1, n1, va_cpy f g sp dp cn))) n nc ns) : GZ l P D F K pc gl (.int xn :: .int xd :: .ref k1 :: .int xs :: .ref k0 :: gst) M n nc ns := by
  subst hxs
  subst hxd
  subst hxn
  intro p e R s m args below meth c H locs cells slots q0 q ls st hC h0 hl hs hH hR hL T hT X
  obtain ⟨st1, rfl, hs1⟩ := hs.i
  obtain ⟨st2, rfl, hs2⟩ := hs1.i
  obtain ⟨a1, st3, rfl, ha1, hs3⟩ := hs2.a
  obtain ⟨st4, rfl, hs4⟩ := hs3.i
  obtain ⟨a0, rest, rfl, ha0, hs5⟩ := hs4.a
  obtain ⟨b0, hb0', f', c0s, o0, hA0, hf', -⟩ := hH.2.2.2 k0 _ hM
  cases ha0.symm.trans hb0'
  obtain ⟨b1, hb1', hE1⟩ := hH.2.2.2 k1 _ hM1
  obtain ⟨g', o1, hg', hge⟩ := hE1.wr (by omega) hkd
  cases ha1.symm.trans hb1'
  have hts := hC.2.2.2.2.2.2.2.1
  have hT0 := hC.2.2.2.2.2.2.2.2.2.1
  have hf1 := hC.2.2.2.2.2.2.2.2.2.2.1
  have hf2 := hC.2.2.2.2.2.2.2.2.2.2.2.1
  obtain ⟨-, kk0, hkk0, cm0, hck0⟩ := hA0.of (hT0.2.1 kd _ hk).1
  obtain ⟨-, kk1, hkk1, cm1, hck1⟩ := (hT0.2.1 kd1 _ hk1).1 n1 g'
  have c1 : (nI sp).toNatClampNeg = sp := nI_clamp (by omega)
  have c2 : (nI dp).toNatClampNeg = dp := nI_clamp (by omega)
  have c3 : (nI cn).toNatClampNeg = cn := nI_clamp (by omega)
  obtain ⟨vm', X', step⟩ := X.arraycopy hC.1 hC.2.2.2.1 (hts _ hlk) (hts _ hnt) (hts _ hst) (hts _ hin) (src := a0) (dst := a1) (cs := c0s) (cd := arrV (D.1 kd1) n1 g') (srcPos := nI sp) (destPos := nI dp) (n := nI cn) (by rw [hT]; exact o0) (by rw [hT]; exact o1)
    hA0.2.2.1 (fun _ h => by cases h) hA0.2.2.2 (fun h => by cases h) hkk0 hkk1 hck0 hck1 rfl (nI_pos (by omega)) (nI_pos (by omega)) (nI_pos (by omega))
    (by rw [nI_toInt (by omega), nI_toInt (by omega), hA0.size]; omega) (by rw [nI_toInt (by omega), nI_toInt (by omega), arrV_size]; omega)
    (fun vm₁ hal i hi => by
      rw [c3] at hi
      have e : c0s.slots.getD ((nI sp).toNatClampNeg + i) .null = f' (sp + i) := by
        rw [c1, Array.getD_eq_getD_getElem?, hA0.read (by omega)]
        rfl
      rw [e]
      have hv := hf' (sp + i) (by omega)
      rcases hel i hi with hn | ⟨kx, ci, fs, r, hx, hMx, hrx, hcx⟩
      · rw [hn] at hv
        rw [show f' (sp + i) = .null from hv]
        exact ⟨rfl, trivial⟩
      · rw [hx] at hv
        obtain ⟨y, hy, hv⟩ := hv
        rw [hv]
        obtain ⟨y', hy', r', g2, hr', -, ⟨cellV, p1, p2, p3, -⟩, -, -⟩ := hH.2.2.2 kx _ hMx
        cases hy.symm.trans hy'
        cases hrx.symm.trans hr'
        obtain ⟨kA, comp, r1, r2, r3, -⟩ := (hT0.2.1 kd1 _ hk1).2 hkd
        cases hkk1.symm.trans r1
        cases hck1.symm.trans r2
        have hcls := (hT0.1 ci r hrx).2
        obtain ⟨kC, hkC, -⟩ := hcls.2
        obtain ⟨kE, hkE, -⟩ := Vm.findClass_spec r3
        obtain ⟨kC', hkC', -⟩ := hal.2.2 _ _ hkC
        obtain ⟨kE', hkE', -⟩ := hal.2.2 _ _ hkE
        obtain ⟨c0, t1, f1, f2, f3⟩ := Cond.castable_spec (hts _ hcx)
        cases hcls.1.symm.trans f1
        cases r3.symm.trans f2
        refine ⟨rfl, cellV, (show T.heap[y]? = some cellV by rw [hT]; exact p1), (fun z h => by rw [p3] at h; cases h), ⟨kC', by rw [p2]; exact hkC'⟩, ⟨kE', hkE'⟩, ?_⟩
        show vm₁.assignable _ _ = true
        rw [hal.assignable, p2]
        exact f3)
    (g := F0 m pc ls (.int (nI cn) :: .int (nI dp) :: .ref a1 :: .int (nI sp) :: .ref a0 :: rest)) rfl (hl.1.trans hC.2.2.1.symm) (rest := rest) rfl (by rw [hC.2.1]; exact hd) (by omega) (by show 2 * 0 + _ + _ ≤ _; rw [hs5.cats]; omega)
  have e1 : copied c0s (arrV (D.1 kd1) n1 g') (nI sp) (nI dp) (nI cn) = arrV (D.1 kd1) n1 (va_cpy f' g' sp dp cn) := by
    have := va_copied (fun z : Value => z) (D.1 kd) (D.1 kd1) (n0 := n0) (n1 := n1) (sp := sp) (dp := dp) (n := cn) f' g' h4
    unfold copied
    rw [c1, c2, c3, show c0s.stretch sp cn = (arrV (D.1 kd) n0 f').stretch sp cn by unfold Cell.stretch; rw [hA0.2.1]]
    exact this
  rw [e1] at X' step
  have hal : a1 < H.size := (Array.getElem?_eq_some_iff.mp o1).1
  have hheap : ((T.setVm vm').setCell a1 (arrV (D.1 kd1) n1 (va_cpy f' g' sp dp cn))).heap = H.setIfInBounds a1 (arrV (D.1 kd1) n1 (va_cpy f' g' sp dp cn)) := by rw [← hT]; rfl
  have oq : ∀ b : Nat, b ≠ a1 → (H.setIfInBounds a1 (arrV (D.1 kd1) n1 (va_cpy f' g' sp dp cn)))[b]? = H[b]? := fun b hb => by simp [Array.getElem?_setIfInBounds, Ne.symm hb]
  have hH' : gz_H P D q (gz_up M k1 (.inl (kd1, n1, va_cpy f g sp dp cn))) n (H.setIfInBounds a1 (arrV (D.1 kd1) n1 (va_cpy f' g' sp dp cn))) := hH.set hM1 ha1 (by simp) oq (gz_e.mkA (g := va_cpy f' g' sp dp cn) (by simp [Array.getElem?_setIfInBounds, hal]) (fun j hj => by
    unfold va_cpy
    by_cases hc : dp ≤ j ∧ j < dp + cn
    · rw [if_pos hc, if_pos hc]
      exact hf' _ (by omega)
    · rw [if_neg hc, if_neg hc]
      exact hg' j hj) hge)
  obtain ⟨t, b1, b2⟩ := k p e R s m args below meth c _ _ cells slots q0 q ls rest hC h0 hl hs5 hH' hR (fun x hx => by
    rcases List.mem_append.mp hx with h | h
    · exact hL x h
    · obtain ⟨z, -, hz⟩ := List.mem_map.mp h
      rw [← hz]
      exact ⟨List.mem_of_getElem? ha1, hge⟩) _ hheap X'
  exact ⟨t, step t b1, b2⟩
theorem gz_clone {idx k0 kd len : Nat} {f : Nat → Value} {ad : String} {ty : FieldType} (hd : decode F.2.1 pc = .ok (.invokevirtual idx, 3)) (hk : P.2.2.1[kd]? = some ty) (hnm : ∀ (s : State) (cA : ClassId), va_RA s cA ty → s.vm.findClass ad = some cA) (hlk : Cond.methodLink F.1.cls idx ⟨ad, "clone", "()Ljava/lang/Object;"⟩ ∈ P.1) (hsm : Cond.sameMethod ad "java/lang/Object" "clone" "()Ljava/lang/Object;" ∈ P.1)
    (hnt : Cond.native ⟨"java/lang/Object", "clone", "()Ljava/lang/Object;"⟩ ∈ P.1) (hin : Cond.instanceMethod ⟨"java/lang/Object", "clone", "()Ljava/lang/Object;"⟩ ∈ P.1) (hsel : Cond.selects ad ⟨ad, "clone", "()Ljava/lang/Object;"⟩ ⟨"java/lang/Object", "clone", "()Ljava/lang/Object;"⟩ ∈ P.1) (hca : Cond.castable ad "java/lang/Cloneable" ∈ P.1)
    (hM : M k0 = some (.inl (kd, len, f))) (hfit : ∀ j, j < len → gz_fits ty (f j)) (hdep : 1 ≤ F.2.2.1.1) (hW : (gst.map fun v => v.category).sum + 14 ≤ F.2.2.1.2) (hnc : nc + 1 ≤ D.2.2.2.1) (hns : ns + len ≤ D.2.2.2.2.1)
    (k : GZ l P D F K (pc + 3) gl (.ref n :: gst) (gz_up M n (.inl (kd, len, f))) (n + 1) (nc + 1) (ns + len)) (hk0 : kd ≠ 0 := by decide) : GZ l P D F K pc gl (.ref k0 :: gst) M n nc ns := by
  intro p e R s m args below meth c H locs cells slots q0 q ls st hC h0 hl hs hH hR hL T hT X
  obtain ⟨a, rest, rfl, ha, hs1⟩ := hs.a
  obtain ⟨b0, hb0, g, c0s, o1, hA, hg, -⟩ := hH.2.2.2 k0 _ hM
  cases ha.symm.trans hb0
  have hts := hC.2.2.2.2.2.2.2.1
  have hT0 := hC.2.2.2.2.2.2.2.2.2.1
  have hf1 := hC.2.2.2.2.2.2.2.2.2.2.1
  have hf2 := hC.2.2.2.2.2.2.2.2.2.2.2.1
  obtain ⟨r1, r2, r3, r4⟩ := hR
  have hnm' := hnm s _ ((hT0.2.1 kd _ hk).2 hk0)
  obtain ⟨c0, t0', f1, f2, f3⟩ := Cond.castable_spec (hts _ hca)
  cases hnm'.symm.trans f1
  have hcellT : T.heap[a]? = some c0s := by rw [hT]; exact o1
  obtain ⟨-, kA, hkA, comp, hkind⟩ := State.isArrayOf_alike X.warmed.alike ((hT0.2.1 kd _ hk).1 0 (fun _ => .null))
  obtain ⟨-, kS, hkS, compS, hkindS⟩ := (hT0.2.1 kd _ hk).1 0 (fun _ => .null)
  obtain ⟨vm', X', step⟩ := X.cloneArray hC.1 hC.2.2.2.1 (hts _ hlk) (hts _ hsm) (hts _ hnt) (hts _ hin) (hts _ hsel) (a := a) (cell := c0s) hcellT hA.2.2.1 hA.2.2.2 (by rw [hA.1]; exact hnm') f2 (by rw [hA.1]; exact f3)
    (fun i v hv => by
      have hi : i < len := by
        have := (Array.getElem?_eq_some_iff.mp hv).1
        rwa [hA.size] at this
      rw [hA.read hi] at hv
      cases hv
      have hk' : T.vm.classes[D.1 kd]? = some kA := hkA
      have := (hfit i hi q (g i) (hg i hi)).2
      simpa [State.fitsSlot, State.slotType?, hA.1, hk', hkind] using this)
    (g := F0 m pc ls (.ref a :: rest)) rfl (hl.1.trans hC.2.2.1.symm) rfl (by rw [hC.2.1]; exact hd) (by omega) (by show 2 * 0 + _ + 14 ≤ _; rw [hs1.cats]; omega) (by omega) (by rw [hA.size]; omega) (hloader := by rw [hA.1]; exact Vm.clonesLoader_of_array hkS hkindS)
  have hcE : ({ cls := c0s.cls, slots := c0s.slots } : Cell) = arrV (D.1 kd) len g := by rw [hA.1, hA.2.1]; rfl
  rw [hcE, hA.size] at X'
  rw [hcE, hT] at step
  obtain ⟨t, b1, b2⟩ := k p e R s m args below meth c (H.push (arrV (D.1 kd) len g)) locs (cells + 1) (slots + len) q0 (q ++ [H.size]) ls (.ref H.size :: rest) hC (h0.trans (List.prefix_append _ _)) (hl.mono (List.prefix_append _ _)) ⟨_, _, rfl, ⟨H.size, by
    rw [List.getElem?_append_right (by rw [hH.1]; exact Nat.le_refl _), hH.1, Nat.sub_self]
    rfl, rfl⟩, hs1.mono (List.prefix_append _ _)⟩ (hH.push (by simp) (fun b hb => by rw [Array.getElem?_push, if_neg (Nat.ne_of_lt hb)]) (gz_e.mkA (g := g) (by rw [Array.getElem?_push_size]) (fun j hj => (hg j hj).mono (List.prefix_append _ _)) hH.2.2.1.2.1)) ⟨by omega, by omega, by omega, by omega⟩ (fun x hx => ⟨List.mem_append_left _ (hL x hx).1, (hL x hx).2⟩) ((T.setVm vm').pushCell (arrV (D.1 kd) len g)) (by rw [← hT]; rfl) X'
  exact ⟨t, step t b1, b2⟩
end GZY
