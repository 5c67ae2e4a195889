/-! Rows whose results are written anew, and the reference's loads and stores at the level of the state. Printed by wip/whole/walk2.py -/
section MTR
variable {l : Launch} {P : gzP} {D : gzD} {F : gzF} {K : gzK} {pc : Nat} {gl : List (Option Value)} {gst : List Value} {M M0 : gzM} {n nc ns : Nat} {S : gS} {L : gL} {T : CT} {c : Nat} {b : Bool}
theorem gq_iadd {x y z : Int32} (hd : decode F.2.1 pc = .ok (.iadd, 1)) (hz : x + y = z) (k : GZ l P D F K (pc + 1) gl (.int z :: gst) M n nc ns) : GZ l P D F K pc gl (.int y :: .int x :: gst) M n nc ns := gz_iadd hd (by rw [hz]; exact k)
theorem gq_isub {x y z : Int32} (hd : decode F.2.1 pc = .ok (.isub, 1)) (hz : x - y = z) (k : GZ l P D F K (pc + 1) gl (.int z :: gst) M n nc ns) : GZ l P D F K pc gl (.int y :: .int x :: gst) M n nc ns := gz_isub hd (by rw [hz]; exact k)
theorem gq_imul {x y z : Int32} (hd : decode F.2.1 pc = .ok (.imul, 1)) (hz : x * y = z) (k : GZ l P D F K (pc + 1) gl (.int z :: gst) M n nc ns) : GZ l P D F K pc gl (.int y :: .int x :: gst) M n nc ns := gz_imul hd (by rw [hz]; exact k)
theorem mt_geti {idx j : Nat} {x v : Int32} (hd : decode F.2.1 pc = .ok (.getfield idx, 3)) (hf : gz_fl P1 F.1.cls idx 6 j) (hR : RF M0 S L M) (hx : (md_obj S)[j]? = some (.int x)) (hv : x = v) (k : GZ l P1 D F K (pc + 3) gl (.int v :: gst) M n nc ns) : GZ l P1 D F K pc gl (.ref 83 :: gst) M n nc ns := md_getf hd hf hR hx (by rw [hv]; exact k)
theorem mt_puti {idx j : Nat} {v : Int32} (hd : decode F.2.1 pc = .ok (.putfield idx, 3)) (hf : gz_fl P1 F.1.cls idx 6 j) (hwr : gz_wr P1 F 6 j) (hR : RF M0 S L M) (hj : md_own j = true) (hT : Rel c b (gs_set S 83 j v) T) (k : ∀ S M, RF M0 S L M → Rel c b S T → GZ l P1 D F K (pc + 3) gl gst M n nc ns) : GZ l P1 D F K pc gl (.int v :: .ref 83 :: gst) M n nc ns := md_putf hd hf hwr hR hj (fun M hR => k _ M hR hT)
theorem mt_iaload {a i : Nat} {v : Int32} (hd : decode F.2.1 pc = .ok (.iaload, 1)) (hR : RF M0 S L M) (ha : md_in a = true) (ha1 : md_kd a = 1) (hi : i < md_len a) (hv : S a i = v) (k : GZ l P1 D F K (pc + 1) gl (.int v :: gst) M n nc ns) : GZ l P1 D F K pc gl (.int (nI i) :: .ref a :: gst) M n nc ns := md_iaload hd hR ha ha1 rfl hi (by rw [hv]; exact k)
theorem mt_zaload {a i : Nat} {v : Int32} (hd : decode F.2.1 pc = .ok (.baload, 1)) (hR : RF M0 S L M) (ha : md_in a = true) (ha1 : md_kd a = 3) (hi : i < md_len a) (hv : S a i = v) (k : GZ l P1 D F K (pc + 1) gl (.int v :: gst) M n nc ns) : GZ l P1 D F K pc gl (.int (nI i) :: .ref a :: gst) M n nc ns := md_zaload hd hR ha ha1 rfl hi (by rw [hv]; exact k)
theorem mt_iastore {a i : Nat} {y : Int32} (hd : decode F.2.1 pc = .ok (.iastore, 1)) (hR : RF M0 S L M) (ha : md_in a = true) (ha1 : md_kd a = 1) (hi : i < md_len a) (hT : Rel c b (gs_set S a i y) T) (k : ∀ S M, RF M0 S L M → Rel c b S T → GZ l P1 D F K (pc + 1) gl gst M n nc ns) : GZ l P1 D F K pc gl (.int y :: .int (nI i) :: .ref a :: gst) M n nc ns := md_iastore hd hR ha ha1 rfl hi (fun M hR => k _ M hR hT)
theorem bI_nar (t : Bool) : narrow .boolean (.int (bI t)) = .int (bI t) := by cases t <;> rfl
theorem mt_zastore {a i : Nat} {t : Bool} (hd : decode F.2.1 pc = .ok (.bastore, 1)) (hR : RF M0 S L M) (ha : md_in a = true) (ha1 : md_kd a = 3) (hi : i < md_len a) (hT : Rel c b (gs_set S a i (bI t)) T) (k : ∀ S M, RF M0 S L M → Rel c b S T → GZ l P1 D F K (pc + 1) gl gst M n nc ns) : GZ l P1 D F K pc gl (.int (bI t) :: .int (nI i) :: .ref a :: gst) M n nc ns := md_zastore hd hR ha ha1 rfl hi (bI_nar t) (fun M hR => k _ M hR hT)
end MTR
theorem nI_gt0 {n : Nat} (h : n < 2 ^ 31) : 0 < nI n ↔ 0 < n := nI_ltI (a := 0) (by decide) h
theorem oI_ge {a : Option Nat} (h : ∀ j, a = some j → j < 12) : 0 ≤ oI a ↔ ∃ j, a = some j := by
  cases a with
  | none => simp [oI]
  | some j =>
    have := nI_pos' (n := j) (by have := h j rfl; omega)
    simp [oI, this]
