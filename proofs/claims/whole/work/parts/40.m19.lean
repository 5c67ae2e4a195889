/-! The reference: seats, its last loop. Printed by wip/whole/m19.py -/
def y_sC (ru : Int32) : Nat → gS → gL → gS × gL
  | 0, S, L => (S, L)
  | q + 1, S, L => y_sC ru q (gs_set S 112 (y_bs ru S L 5) (S 112 (y_bs ru S L 5) + 1)) (gl_set L 111 (y_bs ru S L 5) (-1))
theorem m_seats190 {l : Launch} {D : gzD} {K : gzK} {n nc ns : Nat} {M0 : gzM} {T : CT} {xo xn ru : Int32} {g : Nat} {al : Int64} (hg : g < 6) (q : Nat) : ∀ (S : gS) (L : gL) (M : gzM) (y8 : Option Value), q < 2 ^ 31 → RF M0 S L M → Rel 12 true S T → (∀ M, RF M0 (y_sC ru q S L).1 (y_sC ru q S L).2 M → Rel 12 true (y_sC ru q S L).1 T → K (.inl (some (.int ((y_sC ru q S L).1 112 g)))) M n nc ns) → GZ l P1 D F_M_seats K 190 [some (.ref 83), some (.int xo), some (.int xn), some (.int ru), some (.int (nI g)), some (.long al), none, some (.int (nI q)), y8] [] M n nc ns := by
  induction q with
  | zero =>
    intro S L M y8 hq hR hT k
    refine gz_iload gd_M_seats_190 rfl ?_
    refine gz_if_le (tgt := 229) gd_M_seats_192 (by decide) (fun h192 => ?_) (fun h192 => ?_)
    ·
      replace h192 := (nI_le0 (by omega)).1 h192
      refine gz_aload_n gd_M_seats_229 rfl rfl (gz_isr.r _) ?_
      refine md_getf gd_M_seats_230 gf_M_97 hR rfl ?_
      refine gz_iload gd_M_seats_233 rfl ?_
      refine mt_iaload (a := 112) (i := g) gd_M_seats_235 hR rfl rfl (show _ < 6 from (by omega)) (show _ = S 112 g from rfl) ?_
      refine gz_ireturn gd_M_seats_236 rfl rfl ?_
      exact k _ hR hT
    ·
      replace h192 := mt (nI_le0 (by omega)).2 h192
      exact absurd rfl h192
  | succ q ih =>
    intro S L M y8 hq hR hT k
    refine gz_iload gd_M_seats_190 rfl ?_
    refine gz_if_le (tgt := 229) gd_M_seats_192 (by decide) (fun h192 => ?_) (fun h192 => ?_)
    ·
      replace h192 := (nI_le0 (by omega)).1 h192
      omega
    ·
      replace h192 := mt (nI_le0 (by omega)).2 h192
      refine gz_aload_n gd_M_seats_195 rfl rfl (gz_isr.r _) ?_
      refine gz_iload_n gd_M_seats_196 rfl rfl ?_
      refine gz_virtual1 gd_M_seats_197 hR.1 rfl rfl gs_M_seats_197 (Nat.le_of_ble_eq_true rfl) (Nat.le_of_ble_eq_true rfl) ?_
      have hbs := bs_le (ru := ru) (S := S) (L := L) 5
      refine m_best (ru := ru) hR ?_
      refine gz_istore gd_M_seats_200 (Nat.le_of_ble_eq_true rfl) rfl ?_
      refine gz_aload_n gd_M_seats_202 rfl rfl (gz_isr.r _) ?_
      refine md_getf gd_M_seats_203 gf_M_97 hR rfl ?_
      refine gz_iload gd_M_seats_206 rfl ?_
      refine gz_dup2 gd_M_seats_208 rfl rfl ?_
      refine mt_iaload (a := 112) (i := y_bs ru S L 5) gd_M_seats_209 hR rfl rfl (show _ < 6 from (by omega)) (show _ = S 112 (y_bs ru S L 5) from rfl) ?_
      refine gz_iconst (v := 1) gd_M_seats_210 (by decide) ?_
      refine gq_iadd (z := (S 112 (y_bs ru S L 5) + 1)) gd_M_seats_211 rfl ?_
      refine md_iastore (a := 112) (i := y_bs ru S L 5) gd_M_seats_212 hR rfl rfl rfl (show _ < 6 from (by omega)) (fun M hR => ?_)
      refine gz_aload_n gd_M_seats_213 rfl rfl (gz_isr.r _) ?_
      refine md_getf gd_M_seats_214 gf_M_94 hR rfl ?_
      refine gz_iload gd_M_seats_217 rfl ?_
      refine gz_ldc2 (v := -1) gd_M_seats_219 gw_1040 ?_
      refine md_lastore (a := 111) (i := y_bs ru S L 5) gd_M_seats_222 hR (by decide) rfl (by omega) (fun M hR => ?_)
      refine gz_iinc (v := nI q) gd_M_seats_223 rfl (pk_m1 q) (Nat.le_of_ble_eq_true rfl) trivial ?_
      refine gz_goto (tgt := 190) gd_M_seats_226 (by decide) ?_
      exact ih _ _ _ _ (by omega) hR hT.s_got k
def y_left (x : Int32) : Nat := x.toInt.toNat
theorem left_nI {x : Int32} (h : 0 ≤ x.toInt) : x = nI (y_left x) ∧ y_left x < 2 ^ 31 := by
  have h1 := Int32.toInt_lt x
  have h2 : y_left x < 2 ^ 31 := by unfold y_left; omega
  refine ⟨Int32.toInt_inj.1 ?_, h2⟩
  rw [nI_toInt h2]
  unfold y_left
  omega
theorem left_z {x : Int32} (h : ¬ 0 ≤ x.toInt) : y_left x = 0 := by unfold y_left; omega
theorem m_seatsX {l : Launch} {D : gzD} {K : gzK} {n nc ns : Nat} {M0 M : gzM} {S : gS} {L : gL} {T : CT} {xo xn ru x : Int32} {g : Nat} {al : Int64} {y8 : Option Value} (hg : g < 6) (hR : RF M0 S L M) (hT : Rel 12 true S T) (k : ∀ S' L' M, RF M0 S' L' M → Rel 12 true S' T → S' 112 g = (y_sC ru (y_left x) S L).1 112 g → K (.inl (some (.int (S' 112 g)))) M n nc ns) : GZ l P1 D F_M_seats K 190 [some (.ref 83), some (.int xo), some (.int xn), some (.int ru), some (.int (nI g)), some (.long al), none, some (.int x), y8] [] M n nc ns := by
  by_cases hx : 0 ≤ x.toInt
  · obtain ⟨e1, e2⟩ := left_nI hx
    generalize y_left x = q at k e1 e2
    rw [e1]
    exact m_seats190 hg q S L M y8 e2 hR hT (fun M hR hT => k _ _ _ hR hT rfl)
  · have e0 := left_z hx
    rw [e0] at k
    refine gz_iload gd_M_seats_190 rfl ?_
    refine gz_if_le (tgt := 229) gd_M_seats_192 (by decide) (fun h192 => ?_) (fun h192 => ?_)
    ·
      refine gz_aload_n gd_M_seats_229 rfl rfl (gz_isr.r _) ?_
      refine md_getf gd_M_seats_230 gf_M_97 hR rfl ?_
      refine gz_iload gd_M_seats_233 rfl ?_
      refine mt_iaload (a := 112) (i := g) gd_M_seats_235 hR rfl rfl (show _ < 6 from (by omega)) (show _ = S 112 g from rfl) ?_
      refine gz_ireturn gd_M_seats_236 rfl rfl ?_
      exact k _ _ _ hR hT rfl
    ·
      exact absurd (Int32.le_iff_toInt_le.2 (by rw [show (0 : Int32).toInt = 0 from rfl]; omega)) h192

