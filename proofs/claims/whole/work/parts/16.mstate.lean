/-! The reference's cells: its object is the number 83, its arrays 84 to 112 in the order of their making; S: what the int and boolean arrays and the object's own ints hold; L: the two arrays of longs -/
abbrev gS : Type := Nat → Nat → Int32
abbrev gL : Type := Nat → Nat → Int64
def gs_set (S : gS) (k i : Nat) (v : Int32) : gS := fun a b => if a = k ∧ b = i then v else S a b
def gl_set (S : gL) (k i : Nat) (v : Int64) : gL := fun a b => if a = k ∧ b = i then v else S a b
def md_obj (S : gS) : List Value := [.int (S 83 0), .ref 84, .ref 85, .ref 86, .ref 87, .int (S 83 5), .ref 88, .ref 89, .ref 90, .ref 91, .ref 92, .ref 93, .ref 94, .ref 95, .ref 96, .ref 97, .ref 98, .ref 99, .ref 100, .ref 101, .ref 102, .ref 103, .ref 104, .int (S 83 23), .ref 105, .ref 106, .ref 107, .ref 108, .ref 109, .int (S 83 29), .int (S 83 30), .ref 110, .ref 111, .ref 112]
def md_kd (k : Nat) : Nat := match k with
  | 84 => 3
  | 92 => 3
  | 97 => 3
  | _ => 1
def md_len (k : Nat) : Nat := match k with
  | 84 => 40
  | 85 => 40
  | 86 => 40
  | 87 => 40
  | 88 => 301
  | 89 => 1806
  | 90 => 301
  | 91 => 6
  | 92 => 12
  | 93 => 12
  | 94 => 12
  | 95 => 480
  | 96 => 480
  | 97 => 480
  | 98 => 12
  | 99 => 108000
  | 100 => 108000
  | 101 => 12
  | 102 => 12
  | 103 => 24000
  | 104 => 24000
  | 105 => 501
  | 106 => 501
  | 107 => 501
  | 108 => 501
  | 109 => 501
  | _ => 6
def md_in (k : Nat) : Bool := decide (84 ≤ k) && decide (k ≤ 112) && decide (k ≠ 110) && decide (k ≠ 111)
theorem md_len_lt (k : Nat) : md_len k < 2 ^ 31 := by
  unfold md_len
  split <;> decide
theorem md_ks (k : Nat) : md_kd k = 1 ∨ md_kd k = 3 := by
  unfold md_kd
  split <;> simp
/-- the reference's picture; every other cell is M0's -/
def RF (M0 : gzM) (S : gS) (L : gL) (M : gzM) : Prop :=
  M 83 = some (.inr (6, md_obj S)) ∧ (∀ k, md_in k = true → M k = some (.inl (md_kd k, md_len k, fun i => .int (S k i)))) ∧ (∀ k, k = 110 ∨ k = 111 → M k = some (.inl (2, 6, fun i => .long (L k i)))) ∧ ∀ k, k < 83 ∨ 112 < k → M k = M0 k
theorem gs_same {S : gS} {k i : Nat} {v : Int32} : gs_set S k i v k i = v := by simp [gs_set]
theorem gs_ne {S : gS} {k i a b : Nat} {v : Int32} (h : ¬ (a = k ∧ b = i)) : gs_set S k i v a b = S a b := by simp [gs_set, h]
theorem md_updV {S : gS} {k i : Nat} {v : Int32} : updV (fun j => Value.int (S k j)) i (.int v) = fun j => Value.int (gs_set S k i v k j) := by
  funext j
  by_cases h : j = i
  · simp [updV, gs_set, h]
  · simp [updV, gs_set, h]
theorem RF.set {M0 M : gzM} {S : gS} {L : gL} (h : RF M0 S L M) {k i : Nat} {v : Int32} (hk : md_in k = true) : RF M0 (gs_set S k i v) L (gz_up M k (.inl (md_kd k, md_len k, updV (fun j => .int (S k j)) i (.int v)))) := by
  obtain ⟨h1, h2, h3, h4⟩ := h
  have hk' : 84 ≤ k ∧ k ≤ 112 ∧ k ≠ 110 ∧ k ≠ 111 := by
    simp only [md_in, Bool.and_eq_true, decide_eq_true_eq] at hk
    omega
  refine ⟨?_, fun j hj => ?_, fun j hj => ?_, fun j hj => ?_⟩
  · rw [gz_up_n (by omega), h1]
    have : md_obj (gs_set S k i v) = md_obj S := by
      unfold md_obj
      rw [gs_ne (by omega), gs_ne (by omega), gs_ne (by omega), gs_ne (by omega), gs_ne (by omega)]
    rw [this]
  · by_cases hjk : j = k
    · subst hjk
      rw [gz_up_s, md_updV]
    · rw [gz_up_n hjk, h2 j hj]
      have : (fun b => Value.int (gs_set S k i v j b)) = fun b => Value.int (S j b) := by
        funext b
        rw [gs_ne (fun z => hjk z.1)]
      rw [this]
  · rw [gz_up_n (by omega)]
    exact h3 j hj
  · rw [gz_up_n (by omega)]
    exact h4 j hj
theorem RF.setL {M0 M : gzM} {S : gS} {L : gL} (h : RF M0 S L M) {k i : Nat} {v : Int64} (hk : k = 110 ∨ k = 111) : RF M0 S (gl_set L k i v) (gz_up M k (.inl (2, 6, updV (fun j => .long (L k j)) i (.long v)))) := by
  obtain ⟨h1, h2, h3, h4⟩ := h
  refine ⟨?_, fun j hj => ?_, fun j hj => ?_, fun j hj => ?_⟩
  · rw [gz_up_n (by omega)]
    exact h1
  · have hj' : j ≠ 110 ∧ j ≠ 111 := by
      simp only [md_in, Bool.and_eq_true, decide_eq_true_eq] at hj
      omega
    rw [gz_up_n (by omega)]
    exact h2 j hj
  · by_cases hjk : j = k
    · subst hjk
      rw [gz_up_s]
      congr 4
      funext b
      by_cases hb : b = i
      · simp [updV, gl_set, hb]
      · simp [updV, gl_set, hb]
    · rw [gz_up_n hjk, h3 j hj]
      congr 4
      funext b
      simp [gl_set, hjk]
  · rw [gz_up_n (by omega)]
    exact h4 j hj
/-- the places of the object's own ints -/
def md_own (j : Nat) : Bool := j == 0 || j == 5 || j == 23 || j == 29 || j == 30
theorem RF.own {M0 M : gzM} {S : gS} {L : gL} (h : RF M0 S L M) {j : Nat} {v : Int32} (hj : md_own j = true) : RF M0 (gs_set S 83 j v) L (gz_up M 83 (.inr (6, (md_obj S).set j (.int v)))) := by
  obtain ⟨h1, h2, h3, h4⟩ := h
  refine ⟨?_, fun a ha => ?_, fun a ha => ?_, fun a ha => ?_⟩
  · rw [gz_up_s]
    have hj' : j = 0 ∨ j = 5 ∨ j = 23 ∨ j = 29 ∨ j = 30 := by
      simp only [md_own, Bool.or_eq_true, beq_iff_eq] at hj
      omega
    rcases hj' with rfl | rfl | rfl | rfl | rfl <;> simp [md_obj, gs_set]
  · have ha' : a ≠ 83 := by
      simp only [md_in, Bool.and_eq_true, decide_eq_true_eq] at ha
      omega
    rw [gz_up_n ha', h2 a ha]
    have : (fun b => Value.int (gs_set S 83 j v a b)) = fun b => Value.int (S a b) := by
      funext b
      rw [gs_ne (fun z => ha' z.1)]
    rw [this]
  · rw [gz_up_n (by omega)]
    exact h3 a ha
  · rw [gz_up_n (by omega)]
    exact h4 a ha
section MDR
variable {l : Launch} {D : gzD} {F : gzF} {K : gzK} {pc : Nat} {gl : List (Option Value)} {gst : List Value} {M M0 : gzM} {n nc ns : Nat} {S : gS} {L : gL}
theorem md_getf {idx j : Nat} {v : Value} (hd : decode F.2.1 pc = .ok (.getfield idx, 3)) (hf : gz_fl P1 F.1.cls idx 6 j) (hR : RF M0 S L M) (hv : (md_obj S)[j]? = some v) (k : GZ l P1 D F K (pc + 3) gl (v :: gst) M n nc ns) : GZ l P1 D F K pc gl (.ref 83 :: gst) M n nc ns := gz_getf hd hf hR.1 hv k
theorem md_putf {idx j : Nat} {v : Int32} (hd : decode F.2.1 pc = .ok (.putfield idx, 3)) (hf : gz_fl P1 F.1.cls idx 6 j) (hwr : gz_wr P1 F 6 j) (hR : RF M0 S L M) (hj : md_own j = true) (k : ∀ M, RF M0 (gs_set S 83 j v) L M → GZ l P1 D F K (pc + 3) gl gst M n nc ns) : GZ l P1 D F K pc gl (.int v :: .ref 83 :: gst) M n nc ns :=
  gz_putf hd hf gc_6 hwr hR.1 (by
    have hj' : j = 0 ∨ j = 5 ∨ j = 23 ∨ j = 29 ∨ j = 30 := by
      simp only [md_own, Bool.or_eq_true, beq_iff_eq] at hj
      omega
    rcases hj' with rfl | rfl | rfl | rfl | rfl <;> exact gz_fits.i) (k _ (hR.own hj))
theorem md_iaload {a i : Nat} {x : Int32} (hd : decode F.2.1 pc = .ok (.iaload, 1)) (hR : RF M0 S L M) (ha : md_in a = true) (ha1 : md_kd a = 1) (hx : x = nI i) (hi : i < md_len a) (k : GZ l P1 D F K (pc + 1) gl (.int (S a i) :: gst) M n nc ns) : GZ l P1 D F K pc gl (.int x :: .ref a :: gst) M n nc ns :=
  gz_iaload (kd := 1) hd rfl (by rw [hR.2.1 a ha, ha1]) hx hi (md_len_lt a) rfl k
theorem md_zaload {a i : Nat} {x : Int32} (hd : decode F.2.1 pc = .ok (.baload, 1)) (hR : RF M0 S L M) (ha : md_in a = true) (ha1 : md_kd a = 3) (hx : x = nI i) (hi : i < md_len a) (k : GZ l P1 D F K (pc + 1) gl (.int (S a i) :: gst) M n nc ns) : GZ l P1 D F K pc gl (.int x :: .ref a :: gst) M n nc ns :=
  gz_zaload (kd := 3) hd rfl (by rw [hR.2.1 a ha, ha1]) hx hi (md_len_lt a) rfl k
theorem md_laload {a i : Nat} {x : Int32} (hd : decode F.2.1 pc = .ok (.laload, 1)) (hR : RF M0 S L M) (ha : a = 110 ∨ a = 111) (hx : x = nI i) (hi : i < 6) (k : GZ l P1 D F K (pc + 1) gl (.long (L a i) :: gst) M n nc ns) : GZ l P1 D F K pc gl (.int x :: .ref a :: gst) M n nc ns :=
  gz_laload (kd := 2) hd rfl (hR.2.2.1 a ha) hx hi (by decide) rfl k
theorem md_iastore {a i : Nat} {x y : Int32} (hd : decode F.2.1 pc = .ok (.iastore, 1)) (hR : RF M0 S L M) (ha : md_in a = true) (ha1 : md_kd a = 1) (hx : x = nI i) (hi : i < md_len a) (k : ∀ M, RF M0 (gs_set S a i y) L M → GZ l P1 D F K (pc + 1) gl gst M n nc ns) : GZ l P1 D F K pc gl (.int y :: .int x :: .ref a :: gst) M n nc ns :=
  gz_iastore (kd := 1) hd rfl (by rw [hR.2.1 a ha, ha1]) hx hi (md_len_lt a) (by decide) (k _ (by have := hR.set (i := i) (v := y) ha; rw [ha1] at this; exact this))
theorem md_zastore {a i : Nat} {x y : Int32} (hd : decode F.2.1 pc = .ok (.bastore, 1)) (hR : RF M0 S L M) (ha : md_in a = true) (ha1 : md_kd a = 3) (hx : x = nI i) (hi : i < md_len a) (hy : narrow .boolean (.int y) = .int y) (k : ∀ M, RF M0 (gs_set S a i y) L M → GZ l P1 D F K (pc + 1) gl gst M n nc ns) : GZ l P1 D F K pc gl (.int y :: .int x :: .ref a :: gst) M n nc ns :=
  gz_zastore (kd := 3) hd rfl (by rw [hR.2.1 a ha, ha1]) hx hi (md_len_lt a) (by decide) hy (k _ (by have := hR.set (i := i) (v := y) ha; rw [ha1] at this; exact this))
theorem md_lastore {a i : Nat} {x : Int32} {y : Int64} (hd : decode F.2.1 pc = .ok (.lastore, 1)) (hR : RF M0 S L M) (ha : a = 110 ∨ a = 111) (hx : x = nI i) (hi : i < 6) (k : ∀ M, RF M0 S (gl_set L a i y) M → GZ l P1 D F K (pc + 1) gl gst M n nc ns) : GZ l P1 D F K pc gl (.long y :: .int x :: .ref a :: gst) M n nc ns :=
  gz_lastore (kd := 2) hd rfl (hR.2.2.1 a ha) hx hi (by decide) (by decide) (k _ (hR.setL ha))
end MDR
