/-! The ghost machine at the law's entry. Printed by wip/whole/start.py -/
def gzM0 (L : Nat) (xs : Nat → Int32) : gzM := fun k => if k = 1 then some (.inl (7, 0, fun _ => .null)) else if k = 2 then some (.inl (0, L, fun j => .int (xs j))) else none
theorem st_A {args : Array Value} {s : State} {ty : FieldType} (h : (Cond.arrayClass ty).before args s = true) : ∃ cA, ArrOfT s cA ty ∧ s.vm.findClass ("[" ++ ty.toString) = some cA := by
  obtain ⟨c, k, comp, h1, h2, h3⟩ := Cond.arrayClass_spec h
  exact ⟨c, fun n z => ⟨fun _ h => (by cases h), k, h2, comp, h3⟩, h1⟩
theorem st_O {args : Array Value} {s : State} {C : String} (h : (Cond.arrayOver (.object C)).before args s = true) : ∃ cA, ArrOfT s cA (.object C) ∧ va_RA s cA (.object C) := by
  obtain ⟨comp, c, k, h1, -, h2, h3, h4⟩ := Cond.arrayOver_spec h
  exact ⟨c, fun n z => ⟨fun _ h => (by cases h), k, h2, comp, h3⟩, k, comp, h2, h3, h1, h4⟩
theorem st_len {args : Array Value} {s : State} {t : Term} {a : Nat} {cell : Cell} (h : (Cond.eq (.length t) (.int 0)).before args s = true) (ht : t.eval args s none [] s = some (.ref a)) (hc : s.arrayAt? a = some cell) : cell.slots.size = 0 := by
  have hz : (Term.int 0).eval args s none [] s = some (.int 0) := rfl
  have hl : (Term.length t).eval args s none [] s = if cell.slots.size < 2 ^ 31 then some (.int cell.slots.size.toInt32) else none := by
    simp only [Term.eval, ht, Option.bind_eq_bind, Option.bind_some, hc]
    rfl
  by_cases hn : cell.slots.size < 2 ^ 31
  · rw [if_pos hn] at hl
    have := Cond.eq_ints hl hz
    simp only [Cond.before, Cond.holds, this] at h
    have e : cell.slots.size.toInt32 = 0 := by simpa using h
    exact (nI_eq (a := cell.slots.size) (b := 0) hn (by decide)).1 e
  · rw [if_neg hn] at hl
    simp [Cond.before, Cond.holds, Cond.value, hl] at h
theorem st_C {args : Array Value} {s : State} (hp : ∀ w ∈ P1.1, w.before args s = true) : ∀ c : Nat, ∃ (x : ClassId × (Nat → Nat)), ∀ r : vw_C, gcl[c]? = some r → u_Kn s r.1 r.2.1 r.2.2 x.1 x.2
  | 0 => by
    obtain ⟨cC, iS, h⟩ := u_known (C := "CountHouse") (T := gnT0) (N := 10) hp gu_0 (hp _ gw_25)
    exact ⟨(cC, iS), fun r hr => by cases hr; exact h⟩
  | 1 => by
    obtain ⟨cC, iS, h⟩ := u_known (C := "CountHouse$Change") (T := gnT1) (N := 2) hp gu_1 (hp _ gw_427)
    exact ⟨(cC, iS), fun r hr => by cases hr; exact h⟩
  | 2 => by
    obtain ⟨cC, iS, h⟩ := u_known (C := "CountHouse$Letter") (T := gnT2) (N := 4) hp gu_2 (hp _ gw_505)
    exact ⟨(cC, iS), fun r hr => by cases hr; exact h⟩
  | 3 => by
    obtain ⟨cC, iS, h⟩ := u_known (C := "CountHouse$Office") (T := gnT3) (N := 10) hp gu_3 (hp _ gw_62)
    exact ⟨(cC, iS), fun r hr => by cases hr; exact h⟩
  | 4 => by
    obtain ⟨cC, iS, h⟩ := u_known (C := "CountHouse$Precinct") (T := gnT4) (N := 3) hp gu_4 (hp _ gw_314)
    exact ⟨(cC, iS), fun r hr => by cases hr; exact h⟩
  | 5 => by
    obtain ⟨cC, iS, h⟩ := u_known (C := "CountHouse$Version") (T := gnT5) (N := 3) hp gu_5 (hp _ gw_383)
    exact ⟨(cC, iS), fun r hr => by cases hr; exact h⟩
  | 6 => by
    obtain ⟨cC, iS, h⟩ := u_known (C := "CountHouseModel") (T := gnT6) (N := 34) hp gu_6 (hp _ gw_753)
    exact ⟨(cC, iS), fun r hr => by cases hr; exact h⟩
  | 7 => by
    obtain ⟨cC, iS, h⟩ := u_known (C := "java/util/ArrayList") (T := gnT7) (N := 3) hp gu_7 (hp _ gw_37)
    exact ⟨(cC, iS), fun r hr => by cases hr; exact h⟩
  | 8 => by
    obtain ⟨cC, iS, h⟩ := u_known (C := "java/lang/IndexOutOfBoundsException") (T := gnT8) (N := 0) hp (fun w hw => by cases hw) (hp _ gw_206)
    exact ⟨(cC, iS), fun r hr => by cases hr; exact h⟩
  | 9 => by
    obtain ⟨cC, iS, h⟩ := u_known (C := "java/lang/IllegalArgumentException") (T := gnT8) (N := 0) hp (fun w hw => by cases hw) (hp _ gw_283)
    exact ⟨(cC, iS), fun r hr => by cases hr; exact h⟩
  | 10 => by
    obtain ⟨cC, iS, h⟩ := u_known (C := "java/lang/IllegalStateException") (T := gnT8) (N := 0) hp (fun w hw => by cases hw) (hp _ gw_299)
    exact ⟨(cC, iS), fun r hr => by cases hr; exact h⟩
  | 11 => by
    obtain ⟨cC, iS, h⟩ := u_known (C := "java/lang/UnsupportedOperationException") (T := gnT8) (N := 0) hp (fun w hw => by cases hw) (hp _ gw_363)
    exact ⟨(cC, iS), fun r hr => by cases hr; exact h⟩
  | _ + 12 => ⟨(0, fun _ => 0), fun r hr => by cases hr⟩
theorem st_T {args : Array Value} {s : State} (hp : ∀ w ∈ P1.1, w.before args s = true) : ∀ k : Nat, ∃ cA : ClassId, ∀ ty : FieldType, gty[k]? = some ty → ArrOfT s cA ty ∧ va_RA s cA ty
  | 0 => by
    obtain ⟨cA, h1, h2⟩ := st_A (hp _ gw_114)
    exact ⟨cA, fun ty h => by cases h; exact ⟨h1, h2⟩⟩
  | 1 => by
    obtain ⟨cA, h1, h2⟩ := st_A (hp _ gw_114)
    exact ⟨cA, fun ty h => by cases h; exact ⟨h1, h2⟩⟩
  | 2 => by
    obtain ⟨cA, h1, h2⟩ := st_A (hp _ gw_115)
    exact ⟨cA, fun ty h => by cases h; exact ⟨h1, h2⟩⟩
  | 3 => by
    obtain ⟨cA, h1, h2⟩ := st_A (hp _ gw_116)
    exact ⟨cA, fun ty h => by cases h; exact ⟨h1, h2⟩⟩
  | 4 => by
    obtain ⟨cA, h1, h2⟩ := st_O (hp _ gw_68)
    exact ⟨cA, fun ty h => by cases h; exact ⟨h1, h2⟩⟩
  | 5 => by
    obtain ⟨cA, h1, h2⟩ := st_O (hp _ gw_33)
    exact ⟨cA, fun ty h => by cases h; exact ⟨h1, h2⟩⟩
  | 6 => by
    obtain ⟨cA, h1, h2⟩ := st_O (hp _ gw_35)
    exact ⟨cA, fun ty h => by cases h; exact ⟨h1, h2⟩⟩
  | 7 => by
    obtain ⟨cA, h1, h2⟩ := st_O (hp _ gw_490)
    exact ⟨cA, fun ty h => by cases h; exact ⟨h1, h2⟩⟩
  | _ + 8 => ⟨0, fun ty h => by cases h⟩
theorem st_S {args : Array Value} {s : State} (hts : ∀ w ∈ lw_tbl, w.before args s = true) (hs : ∀ w ∈ flatC (Jvm.Cond.and given_1 narrow_1), w.before args s = true) : ∀ x ∈ gstr, ∃ a, vk_R x.1 x.2.1 x.2.2 a s := by
  have h305 : ∃ a, vk_R "CountHouse" 305 "no such precinct" a s := by
    obtain ⟨a, -, -, -, h, -⟩ := Cond.exactly_spec (args := args) (first := s) (o := none) (s := s) (idx := []) (hs (Jvm.Cond.exactly (Jvm.Term.string "CountHouse" (305 : Nat)) "java/lang/String") (List.mem_of_getElem? (i := 55) (by decide +kernel)))
    exact ⟨a, vk_R.of (hts (Jvm.Cond.stringRef "CountHouse" (305 : Nat) "no such precinct") (List.mem_append_right _ (gm_2 7 (by decide +kernel)))) h⟩
  have h300 : ∃ a, vk_R "CountHouse" 300 "no such office" a s := by
    obtain ⟨a, -, -, -, h, -⟩ := Cond.exactly_spec (args := args) (first := s) (o := none) (s := s) (idx := []) (hs (Jvm.Cond.exactly (Jvm.Term.string "CountHouse" (300 : Nat)) "java/lang/String") (List.mem_of_getElem? (i := 75) (by decide +kernel)))
    exact ⟨a, vk_R.of (hts (Jvm.Cond.stringRef "CountHouse" (300 : Nat) "no such office") (List.mem_append_right _ (gm_2 37 (by decide +kernel)))) h⟩
  have h296 : ∃ a, vk_R "CountHouse" 296 "not 0 .. 10000000" a s := by
    obtain ⟨a, -, -, -, h, -⟩ := Cond.exactly_spec (args := args) (first := s) (o := none) (s := s) (idx := []) (hs (Jvm.Cond.exactly (Jvm.Term.string "CountHouse" (296 : Nat)) "java/lang/String") (List.mem_of_getElem? (i := 94) (by decide +kernel)))
    exact ⟨a, vk_R.of (hts (Jvm.Cond.stringRef "CountHouse" (296 : Nat) "not 0 .. 10000000") (List.mem_append_right _ (gm_2 51 (by decide +kernel)))) h⟩
  have h56 : ∃ a, vk_R "CountHouse" 56 "the precinct is there already" a s := by
    obtain ⟨a, -, -, -, h, -⟩ := Cond.exactly_spec (args := args) (first := s) (o := none) (s := s) (idx := []) (hs (Jvm.Cond.exactly (Jvm.Term.string "CountHouse" (56 : Nat)) "java/lang/String") (List.mem_of_getElem? (i := 117) (by decide +kernel)))
    exact ⟨a, vk_R.of (hts (Jvm.Cond.stringRef "CountHouse" (56 : Nat) "the precinct is there already") (List.mem_append_right _ (gm_2 67 (by decide +kernel)))) h⟩
  have h303 : ∃ a, vk_R "CountHouse" 303 "no such option" a s := by
    obtain ⟨a, -, -, -, h, -⟩ := Cond.exactly_spec (args := args) (first := s) (o := none) (s := s) (idx := []) (hs (Jvm.Cond.exactly (Jvm.Term.string "CountHouse" (303 : Nat)) "java/lang/String") (List.mem_of_getElem? (i := 153) (by decide +kernel)))
    exact ⟨a, vk_R.of (hts (Jvm.Cond.stringRef "CountHouse" (303 : Nat) "no such option") (List.mem_append_right _ (gm_2 101 (by decide +kernel)))) h⟩
  have h307 : ∃ a, vk_R "CountHouse" 307 "the precinct is not there yet" a s := by
    obtain ⟨a, -, -, -, h, -⟩ := Cond.exactly_spec (args := args) (first := s) (o := none) (s := s) (idx := []) (hs (Jvm.Cond.exactly (Jvm.Term.string "CountHouse" (307 : Nat)) "java/lang/String") (List.mem_of_getElem? (i := 175) (by decide +kernel)))
    exact ⟨a, vk_R.of (hts (Jvm.Cond.stringRef "CountHouse" (307 : Nat) "the precinct is not there yet") (List.mem_append_right _ (gm_2 114 (by decide +kernel)))) h⟩
  have h77 : ∃ a, vk_R "CountHouse" 77 "the version is not above the newest" a s := by
    obtain ⟨a, -, -, -, h, -⟩ := Cond.exactly_spec (args := args) (first := s) (o := none) (s := s) (idx := []) (hs (Jvm.Cond.exactly (Jvm.Term.string "CountHouse" (77 : Nat)) "java/lang/String") (List.mem_of_getElem? (i := 213) (by decide +kernel)))
    exact ⟨a, vk_R.of (hts (Jvm.Cond.stringRef "CountHouse" (77 : Nat) "the version is not above the newest") (List.mem_append_right _ (gm_2 121 (by decide +kernel)))) h⟩
  have h86 : ∃ a, vk_R "CountHouse" 86 "no more versions" a s := by
    obtain ⟨a, -, -, -, h, -⟩ := Cond.exactly_spec (args := args) (first := s) (o := none) (s := s) (idx := []) (hs (Jvm.Cond.exactly (Jvm.Term.string "CountHouse" (86 : Nat)) "java/lang/String") (List.mem_of_getElem? (i := 258) (by decide +kernel)))
    exact ⟨a, vk_R.of (hts (Jvm.Cond.stringRef "CountHouse" (86 : Nat) "no more versions") (List.mem_append_right _ (gm_2 131 (by decide +kernel)))) h⟩
  have h117 : ∃ a, vk_R "CountHouse" 117 "this office cannot hang there" a s := by
    obtain ⟨a, -, -, -, h, -⟩ := Cond.exactly_spec (args := args) (first := s) (o := none) (s := s) (idx := []) (hs (Jvm.Cond.exactly (Jvm.Term.string "CountHouse" (117 : Nat)) "java/lang/String") (List.mem_of_getElem? (i := 285) (by decide +kernel)))
    exact ⟨a, vk_R.of (hts (Jvm.Cond.stringRef "CountHouse" (117 : Nat) "this office cannot hang there") (List.mem_append_right _ (gm_3 54 (by decide +kernel)))) h⟩
  have h127 : ∃ a, vk_R "CountHouse" 127 "down, or the other one is below it" a s := by
    obtain ⟨a, -, -, -, h, -⟩ := Cond.exactly_spec (args := args) (first := s) (o := none) (s := s) (idx := []) (hs (Jvm.Cond.exactly (Jvm.Term.string "CountHouse" (127 : Nat)) "java/lang/String") (List.mem_of_getElem? (i := 326) (by decide +kernel)))
    exact ⟨a, vk_R.of (hts (Jvm.Cond.stringRef "CountHouse" (127 : Nat) "down, or the other one is below it") (List.mem_append_right _ (gm_3 59 (by decide +kernel)))) h⟩
  have h132 : ∃ a, vk_R "CountHouse" 132 "no more hangings" a s := by
    obtain ⟨a, -, -, -, h, -⟩ := Cond.exactly_spec (args := args) (first := s) (o := none) (s := s) (idx := []) (hs (Jvm.Cond.exactly (Jvm.Term.string "CountHouse" (132 : Nat)) "java/lang/String") (List.mem_of_getElem? (i := 373) (by decide +kernel)))
    exact ⟨a, vk_R.of (hts (Jvm.Cond.stringRef "CountHouse" (132 : Nat) "no more hangings") (List.mem_append_right _ (gm_3 60 (by decide +kernel)))) h⟩
  have h152 : ∃ a, vk_R "CountHouse" 152 "the office is down" a s := by
    obtain ⟨a, -, -, -, h, -⟩ := Cond.exactly_spec (args := args) (first := s) (o := none) (s := s) (idx := []) (hs (Jvm.Cond.exactly (Jvm.Term.string "CountHouse" (152 : Nat)) "java/lang/String") (List.mem_of_getElem? (i := 403) (by decide +kernel)))
    exact ⟨a, vk_R.of (hts (Jvm.Cond.stringRef "CountHouse" (152 : Nat) "the office is down") (List.mem_append_right _ (gm_3 119 (by decide +kernel)))) h⟩
  have h157 : ∃ a, vk_R "CountHouse" 157 "no more failures" a s := by
    obtain ⟨a, -, -, -, h, -⟩ := Cond.exactly_spec (args := args) (first := s) (o := none) (s := s) (idx := []) (hs (Jvm.Cond.exactly (Jvm.Term.string "CountHouse" (157 : Nat)) "java/lang/String") (List.mem_of_getElem? (i := 436) (by decide +kernel)))
    exact ⟨a, vk_R.of (hts (Jvm.Cond.stringRef "CountHouse" (157 : Nat) "no more failures") (List.mem_append_right _ (gm_3 120 (by decide +kernel)))) h⟩
  have h165 : ∃ a, vk_R "CountHouse" 165 "the office is up" a s := by
    obtain ⟨a, -, -, -, h, -⟩ := Cond.exactly_spec (args := args) (first := s) (o := none) (s := s) (idx := []) (hs (Jvm.Cond.exactly (Jvm.Term.string "CountHouse" (165 : Nat)) "java/lang/String") (List.mem_of_getElem? (i := 468) (by decide +kernel)))
    exact ⟨a, vk_R.of (hts (Jvm.Cond.stringRef "CountHouse" (165 : Nat) "the office is up") (List.mem_append_right _ (gm_3 132 (by decide +kernel)))) h⟩
  have h174 : ∃ a, vk_R "CountHouse" 174 "it is its home already" a s := by
    obtain ⟨a, -, -, -, h, -⟩ := Cond.exactly_spec (args := args) (first := s) (o := none) (s := s) (idx := []) (hs (Jvm.Cond.exactly (Jvm.Term.string "CountHouse" (174 : Nat)) "java/lang/String") (List.mem_of_getElem? (i := 501) (by decide +kernel)))
    exact ⟨a, vk_R.of (hts (Jvm.Cond.stringRef "CountHouse" (174 : Nat) "it is its home already") (List.mem_append_right _ (gm_3 140 (by decide +kernel)))) h⟩
  have h309 : ∃ a, vk_R "CountHouse" 309 "no such letter" a s := by
    obtain ⟨a, -, -, -, h, -⟩ := Cond.exactly_spec (args := args) (first := s) (o := none) (s := s) (idx := []) (hs (Jvm.Cond.exactly (Jvm.Term.string "CountHouse" (309 : Nat)) "java/lang/String") (List.mem_of_getElem? (i := 541) (by decide +kernel)))
    exact ⟨a, vk_R.of (hts (Jvm.Cond.stringRef "CountHouse" (309 : Nat) "no such letter") (List.mem_append_right _ (gm_3 156 (by decide +kernel)))) h⟩
  have h228 : ∃ a, vk_R "CountHouse" 228 "no more letters" a s := by
    obtain ⟨a, -, -, -, h, -⟩ := Cond.exactly_spec (args := args) (first := s) (o := none) (s := s) (idx := []) (hs (Jvm.Cond.exactly (Jvm.Term.string "CountHouse" (228 : Nat)) "java/lang/String") (List.mem_of_getElem? (i := 574) (by decide +kernel)))
    exact ⟨a, vk_R.of (hts (Jvm.Cond.stringRef "CountHouse" (228 : Nat) "no more letters") (List.mem_append_right _ (gm_3 179 (by decide +kernel)))) h⟩
  have h234 : ∃ a, vk_R "CountHouse" 234 "the office hangs nowhere" a s := by
    obtain ⟨a, -, -, -, h, -⟩ := Cond.exactly_spec (args := args) (first := s) (o := none) (s := s) (idx := []) (hs (Jvm.Cond.exactly (Jvm.Term.string "CountHouse" (234 : Nat)) "java/lang/String") (List.mem_of_getElem? (i := 609) (by decide +kernel)))
    exact ⟨a, vk_R.of (hts (Jvm.Cond.stringRef "CountHouse" (234 : Nat) "the office hangs nowhere") (List.mem_append_right _ (gm_3 187 (by decide +kernel)))) h⟩
  have h247 : ∃ a, vk_R "CountHouse" 247 "nothing of a letter" a s := by
    obtain ⟨a, -, -, -, h, -⟩ := Cond.exactly_spec (args := args) (first := s) (o := none) (s := s) (idx := []) (hs (Jvm.Cond.exactly (Jvm.Term.string "CountHouse" (247 : Nat)) "java/lang/String") (List.mem_of_getElem? (i := 654) (by decide +kernel)))
    exact ⟨a, vk_R.of (hts (Jvm.Cond.stringRef "CountHouse" (247 : Nat) "nothing of a letter") (List.mem_append_right _ (gm_3 195 (by decide +kernel)))) h⟩
  have h271 : ∃ a, vk_R "CountHouse" 271 "nothing of an office" a s := by
    obtain ⟨a, -, -, -, h, -⟩ := Cond.exactly_spec (args := args) (first := s) (o := none) (s := s) (idx := []) (hs (Jvm.Cond.exactly (Jvm.Term.string "CountHouse" (271 : Nat)) "java/lang/String") (List.mem_of_getElem? (i := 695) (by decide +kernel)))
    exact ⟨a, vk_R.of (hts (Jvm.Cond.stringRef "CountHouse" (271 : Nat) "nothing of an office") (List.mem_append_right _ (gm_4 6 (by decide +kernel)))) h⟩
  have h273 : ∃ a, vk_R "CountHouse" 273 "not 1 .. 1000 seats" a s := by
    obtain ⟨a, -, -, -, h, -⟩ := Cond.exactly_spec (args := args) (first := s) (o := none) (s := s) (idx := []) (hs (Jvm.Cond.exactly (Jvm.Term.string "CountHouse" (273 : Nat)) "java/lang/String") (List.mem_of_getElem? (i := 738) (by decide +kernel)))
    exact ⟨a, vk_R.of (hts (Jvm.Cond.stringRef "CountHouse" (273 : Nat) "not 1 .. 1000 seats") (List.mem_append_right _ (gm_4 21 (by decide +kernel)))) h⟩
  have h275 : ∃ a, vk_R "CountHouse" 275 "no such rule" a s := by
    obtain ⟨a, -, -, -, h, -⟩ := Cond.exactly_spec (args := args) (first := s) (o := none) (s := s) (idx := []) (hs (Jvm.Cond.exactly (Jvm.Term.string "CountHouse" (275 : Nat)) "java/lang/String") (List.mem_of_getElem? (i := 781) (by decide +kernel)))
    exact ⟨a, vk_R.of (hts (Jvm.Cond.stringRef "CountHouse" (275 : Nat) "no such rule") (List.mem_append_right _ (gm_4 22 (by decide +kernel)))) h⟩
  intro x hx
  simp only [gstr, List.mem_cons, List.mem_nil_iff, or_false] at hx
  rcases hx with rfl | rfl | rfl | rfl | rfl | rfl | rfl | rfl | rfl | rfl | rfl | rfl | rfl | rfl | rfl | rfl | rfl | rfl | rfl | rfl | rfl | rfl
  · exact h305
  · exact h300
  · exact h296
  · exact h56
  · exact h303
  · exact h307
  · exact h77
  · exact h86
  · exact h117
  · exact h127
  · exact h132
  · exact h152
  · exact h157
  · exact h165
  · exact h174
  · exact h309
  · exact h228
  · exact h234
  · exact h247
  · exact h271
  · exact h273
  · exact h275
theorem st_N {args : Array Value} {s : State} (hs : ∀ w ∈ flatC (Jvm.Cond.and given_1 narrow_1), w.before args s = true) : ∀ x ∈ gnoc, va_Nc x.1 x.2 s := by
  intro x hx
  simp only [gnoc, List.mem_cons, List.mem_nil_iff, or_false] at hx
  rcases hx with rfl | rfl | rfl | rfl | rfl | rfl | rfl | rfl | rfl | rfl | rfl | rfl
  · exact va_Nc.of (hs (Jvm.Cond.not (Jvm.Cond.castable "java/lang/IndexOutOfBoundsException" "java/lang/IllegalArgumentException")) (List.mem_of_getElem? (i := 25) (by decide +kernel)))
  · exact va_Nc.of (hs (Jvm.Cond.not (Jvm.Cond.castable "java/lang/IndexOutOfBoundsException" "java/lang/IllegalStateException")) (List.mem_of_getElem? (i := 36) (by decide +kernel)))
  · exact va_Nc.of (hs (Jvm.Cond.not (Jvm.Cond.castable "java/lang/IndexOutOfBoundsException" "java/lang/UnsupportedOperationException")) (List.mem_of_getElem? (i := 47) (by decide +kernel)))
  · exact va_Nc.of (hs (Jvm.Cond.not (Jvm.Cond.castable "java/lang/IllegalArgumentException" "java/lang/IndexOutOfBoundsException")) (List.mem_of_getElem? (i := 14) (by decide +kernel)))
  · exact va_Nc.of (hs (Jvm.Cond.not (Jvm.Cond.castable "java/lang/IllegalArgumentException" "java/lang/IllegalStateException")) (List.mem_of_getElem? (i := 37) (by decide +kernel)))
  · exact va_Nc.of (hs (Jvm.Cond.not (Jvm.Cond.castable "java/lang/IllegalArgumentException" "java/lang/UnsupportedOperationException")) (List.mem_of_getElem? (i := 48) (by decide +kernel)))
  · exact va_Nc.of (hs (Jvm.Cond.not (Jvm.Cond.castable "java/lang/IllegalStateException" "java/lang/IndexOutOfBoundsException")) (List.mem_of_getElem? (i := 15) (by decide +kernel)))
  · exact va_Nc.of (hs (Jvm.Cond.not (Jvm.Cond.castable "java/lang/IllegalStateException" "java/lang/IllegalArgumentException")) (List.mem_of_getElem? (i := 26) (by decide +kernel)))
  · exact va_Nc.of (hs (Jvm.Cond.not (Jvm.Cond.castable "java/lang/IllegalStateException" "java/lang/UnsupportedOperationException")) (List.mem_of_getElem? (i := 49) (by decide +kernel)))
  · exact va_Nc.of (hs (Jvm.Cond.not (Jvm.Cond.castable "java/lang/UnsupportedOperationException" "java/lang/IndexOutOfBoundsException")) (List.mem_of_getElem? (i := 17) (by decide +kernel)))
  · exact va_Nc.of (hs (Jvm.Cond.not (Jvm.Cond.castable "java/lang/UnsupportedOperationException" "java/lang/IllegalArgumentException")) (List.mem_of_getElem? (i := 28) (by decide +kernel)))
  · exact va_Nc.of (hs (Jvm.Cond.not (Jvm.Cond.castable "java/lang/UnsupportedOperationException" "java/lang/IllegalStateException")) (List.mem_of_getElem? (i := 39) (by decide +kernel)))
theorem gz_start {b L : Nat} {xs : Nat → Int32} {args : Array Value} {s : State} (hts : ∀ w ∈ lw_tbl, w.before args s = true) (hX : va_X b L xs s s.heap) (hgv : (Jvm.Cond.and given_1 narrow_1).before args s = true) : ∃ (D : gzD) (mi ea : Nat), (D.2.2.1 = s.heap.size ∧ D.2.2.2.1 = 560000 ∧ D.2.2.2.2.1 = 4000000) ∧ gz_T P1 D s ∧ gz_H P1 D [mi, ea, b] (gzM0 L xs) 3 s.heap := by
  have hs := flat_of_before _ hgv
  have hp : ∀ w ∈ P1.1, w.before args s = true := fun w hw => hts w (List.mem_filter.mp hw).1
  obtain ⟨scr, x1, x2, x3, x4, x5⟩ := hX
  obtain ⟨cf, hcf⟩ := Classical.skolem.mp (st_C hp)
  obtain ⟨af, haf⟩ := Classical.skolem.mp (st_T hp)
  obtain ⟨ea, c, cell, kc, e1, e2, e3, e4, e5, e6, -⟩ := Cond.exactly_spec (args := args) (first := s) (o := none) (s := s) (idx := []) (hs (Jvm.Cond.exactly (Jvm.Term.static "java/util/ArrayList" "DEFAULTCAPACITY_EMPTY_ELEMENTDATA" "[Ljava/lang/Object;") "[Ljava/lang/Object;") (List.mem_of_getElem? (i := 6) (by decide +kernel)))
  obtain ⟨y1, y2⟩ := Cond.arrayOf_spec (args := args) (first := s) (o := none) (s := s) (idx := []) (hs (Jvm.Cond.arrayOf (Jvm.Term.static "java/util/ArrayList" "DEFAULTCAPACITY_EMPTY_ELEMENTDATA" "[Ljava/lang/Object;") (Jvm.ClassFile.FieldType.object "java/lang/Object")) (List.mem_of_getElem? (i := 5) (by decide +kernel))) e1 e3
  obtain ⟨mi, hmi⟩ := va_Mi.of (args := args) (s := s) (C := "[Ljava/lang/Object;") (hs (Jvm.Cond.isRef (Jvm.Term.mirror "[Ljava/lang/Object;")) (List.mem_of_getElem? (i := 54) (by decide +kernel)))
  have hA : ∀ a : Nat, a < s.heap.size → ¬ (fun q => s.heap.size ≤ q) a := fun a h1 h2 => Nat.lt_irrefl _ (Nat.lt_of_lt_of_le h1 h2)
  have hZ := va_Zof (args := args) (s := s) (C := "java/util/ArrayList") (n := "DEFAULTCAPACITY_EMPTY_ELEMENTDATA") (d := "[Ljava/lang/Object;") (A := fun q => s.heap.size ≤ q) (hts (Jvm.Cond.laysStatic "java/util/ArrayList" "DEFAULTCAPACITY_EMPTY_ELEMENTDATA" "[Ljava/lang/Object;") (List.mem_append_right _ (gm_1 49 (by decide +kernel)))) (hp _ gw_4) e1 hA
  have hU := vx_Zqof (args := args) (s := s) (C := "java/lang/Throwable") (n := "UNASSIGNED_STACK") (d := "[Ljava/lang/StackTraceElement;") (A := fun q => s.heap.size ≤ q) (hts (Jvm.Cond.laysStatic "java/lang/Throwable" "UNASSIGNED_STACK" "[Ljava/lang/StackTraceElement;") (List.mem_append_right _ (gm_1 232 (by decide +kernel)))) (hp _ gw_8) (hs (Jvm.Cond.isRef (Jvm.Term.static "java/lang/Throwable" "UNASSIGNED_STACK" "[Ljava/lang/StackTraceElement;")) (List.mem_of_getElem? (i := 8) (by decide +kernel))) hA
  have hV := vx_Zqof (args := args) (s := s) (C := "java/lang/Throwable") (n := "SUPPRESSED_SENTINEL") (d := "Ljava/util/List;") (A := fun q => s.heap.size ≤ q) (hts (Jvm.Cond.laysStatic "java/lang/Throwable" "SUPPRESSED_SENTINEL" "Ljava/util/List;") (List.mem_append_right _ (gm_1 234 (by decide +kernel)))) (hp _ gw_8) (hs (Jvm.Cond.isRef (Jvm.Term.static "java/lang/Throwable" "SUPPRESSED_SENTINEL" "Ljava/util/List;")) (List.mem_of_getElem? (i := 9) (by decide +kernel))) hA
  have har : s.arrayAt? ea = some cell := by
    obtain ⟨v1, k, hk, comp, hkind⟩ := y1
    simp only [State.arrayAt?, e3, Option.bind_eq_bind, Option.bind_some, hk, hkind]
    rw [if_neg (fun h => h.elim y2 (fun z => by rw [e5] at z; cases z))]
  have hsz := st_len (hs (Jvm.Cond.eq (Jvm.Term.length (Jvm.Term.static "java/util/ArrayList" "DEFAULTCAPACITY_EMPTY_ELEMENTDATA" "[Ljava/lang/Object;")) (Jvm.Term.int (0 : Int32))) (List.mem_of_getElem? (i := 7) (by decide +kernel))) e1 har
  have hsl : scr.slots = (arrV scr.cls L (fun j => Value.int (xs j))).slots := by
    refine Array.ext_getElem? (fun j => ?_)
    by_cases hj : j < L
    · rw [x5 j hj, arrV_read _ _ hj]
    · rw [Array.getElem?_eq_none (by omega), Array.getElem?_eq_none (by rw [arrV_size]; omega)]
  have hc7 : c = af 7 := by
    have h7 := (haf 7 (.object "java/lang/Object") rfl).2
    obtain ⟨-, -, -, -, -, h⟩ := h7
    have h : s.vm.findClass "[Ljava/lang/Object;" = some (af 7) := h
    exact Option.some.inj (e2.symm.trans h)
  have hne : ea ≠ b := by
    intro z
    rw [z, x1] at e3
    cases e3
    obtain ⟨-, k1, hk1, p1, q1⟩ := x2
    obtain ⟨-, k2, hk2, p2, q2⟩ := y1
    cases hk1.symm.trans hk2
    rw [q1] at q2
    cases q2
  refine ⟨(fun k => if k = 0 then scr.cls else af k, (fun c => (cf c).1, fun c => (cf c).2), s.heap.size, 560000, 4000000, [mi, ea]), mi, ea, ⟨rfl, rfl, rfl⟩, ⟨fun c r hr => hcf c r hr, fun k ty hk => ?_, fun x hx => ?_, fun x hx => ?_, fun x hx => ?_, st_S hts hs, st_N hs⟩, rfl, ⟨fun i j a hi hj h1 h2 => ?_, rfl, by decide⟩, ⟨fun i a hi h => ?_, Nat.le_refl _, ⟨[b], rfl⟩⟩, fun k e hk => ?_⟩
  · by_cases hk0 : k = 0
    · subst hk0
      have hty : ty = .int := (Option.some.inj hk).symm
      subst hty
      obtain ⟨-, k1, hk1, p1, q1⟩ := x2
      exact ⟨fun n z => ⟨fun _ h => (by cases h), k1, hk1, p1, q1⟩, fun h => absurd rfl h⟩
    · have := haf k ty hk
      show ArrOfT s (if k = 0 then scr.cls else af k) ty ∧ (k ≠ 0 → va_RA s (if k = 0 then scr.cls else af k) ty)
      rw [if_neg hk0]
      exact ⟨this.1, fun _ => this.2⟩
  · rw [List.mem_singleton.mp hx]
    exact ⟨ea, rfl, hZ⟩
  · rw [List.mem_singleton.mp hx]
    exact ⟨mi, rfl, hmi⟩
  · have hx : x ∈ [(Bundle.tN, "UNASSIGNED_STACK", Bundle.steD), (Bundle.tN, "SUPPRESSED_SENTINEL", Bundle.listD)] := hx
    simp only [List.mem_cons, List.mem_nil_iff, or_false] at hx
    rcases hx with rfl | rfl
    · exact hU
    · exact hV
  · match i, j, hi, hj with
    | 1, 1, _, _ => rfl
    | 2, 2, _, _ => rfl
    | 1, 2, _, _ =>
      cases h1
      exact absurd (Option.some.inj h2).symm hne
    | 2, 1, _, _ =>
      cases h1
      exact absurd (Option.some.inj h2) hne
    | n + 3, _, _, _ => cases h1
    | _, n + 3, _, _ => cases h2
  · match i, hi with
    | 1, _ =>
      cases h
      exact (Array.getElem?_eq_some_iff.mp e3).1
    | 2, _ =>
      cases h
      exact (Array.getElem?_eq_some_iff.mp x1).1
    | n + 3, _ => cases h
  · match k with
    | 0 => cases hk
    | 1 =>
      cases hk
      refine ⟨ea, rfl, fun _ => .null, cell, e3, ⟨by rw [e6]; exact hc7, ?_, y1.1, y2⟩, fun j hj => absurd hj (Nat.not_lt_zero _), Or.inr (Or.inl rfl)⟩
      refine Array.ext_getElem? (fun j => ?_)
      rw [Array.getElem?_eq_none (by omega), Array.getElem?_eq_none (by rw [arrV_size]; omega)]
    | 2 =>
      cases hk
      exact ⟨b, rfl, fun j => .int (xs j), scr, x1, ⟨rfl, hsl, x2.1, x3⟩, fun j hj => rfl, Or.inr (Or.inr rfl)⟩
    | n + 3 => cases hk
