/-! put: the answers, the TEXTS -/
noncomputable def puOK (I : jI) (g : Nat) (t i : Int32) : Prop := (0 ≤ t.toInt ∧ t.toInt ≤ 3) ∧ 0 ≤ i.toInt ∧ i.toInt < (I g 0 t.toNatClampNeg).toInt
noncomputable def puC (t i v : Int32) (I I' : jI) : Prop := (puOK I 16 t i → ∀ x j, I' 30 x j = if x = t.toNatClampNeg ∧ j = i.toNatClampNeg then v.toInt8.toInt32 else I 30 x j) ∧ (¬ puOK I 16 t i → I' 30 = I 30)
noncomputable def puM (t i v : Int32) (I I' : jI) : Prop := (puOK I 37 t i → ∀ j, I' 38 0 j = if j = 60 * t.toNatClampNeg + i.toNatClampNeg then v.toInt8.toInt32 else I 38 0 j) ∧ (¬ puOK I 37 t i → I' 38 = I 38)
theorem put_c (t i v : Int32) (I : jI) : ∃ r, d75 t i v I = some r ∧ (¬ (0 ≤ t.toInt ∧ t.toInt ≤ 3) → r.1 = -1) ∧ ((0 ≤ t.toInt ∧ t.toInt ≤ 3) → ¬ puOK I 16 t i → r.1 = -3) ∧ (puOK I 16 t i → r.1 = I 30 t.toNatClampNeg i.toNatClampNeg + 1000) ∧ puC t i v I r.2 := by
  unfold d75
  rw [names_t]
  by_cases h1 : 0 ≤ t.toInt ∧ t.toInt ≤ 3
  · rw [if_neg (by rw [b01]; exact fun z => z h1)]
    by_cases h2 : d22g2 t i I = 0
    · rw [if_pos h2]
      have ok : puOK I 16 t i := by
        refine ⟨h1, ?_⟩
        unfold d22g2 at h2
        split at h2
        · exact absurd h2 (by decide)
        · split at h2
          · exact absurd h2 (by decide)
          · split at h2
            · rename_i a b
              rw [lt0_t] at a
              rw [lt_t] at b
              omega
            · exact absurd h2 (by decide)
      refine ⟨_, rfl, fun z => absurd h1 z, fun _ z => absurd ok z, fun _ => rfl, fun _ x j => ?_, fun z => absurd ok z⟩
      show jup I 30 t.toNatClampNeg i.toNatClampNeg v.toInt8.toInt32 30 x j = _
      unfold jup
      by_cases c : x = t.toNatClampNeg ∧ j = i.toNatClampNeg
      · rw [if_pos ⟨rfl, c⟩, if_pos c]
      · rw [if_neg (fun z => c z.2), if_neg c]
    · rw [if_neg h2]
      have no : ¬ puOK I 16 t i := by
        intro ok
        refine h2 ?_
        unfold d22g2 d16g2
        have e1 : ¬ I 16 0 t.toNatClampNeg = -1 := fun z => by
          have := ok.2
          rw [z] at this
          have c : (-1 : Int32).toInt = -1 := rfl
          omega
        rw [if_neg e1, if_neg (by decide), if_neg (fun z => by rw [lt0_t] at z; have := ok.2.1; omega), if_pos (lt_t.mpr ok.2.2)]
      refine ⟨_, rfl, fun z => absurd h1 z, fun _ _ => rfl, fun z => absurd z no, fun z => absurd z no, fun _ => ?_⟩
      exact find_c (by decide) (by decide)
  · rw [if_pos (by rw [b01]; exact h1)]
    exact ⟨_, rfl, fun _ => rfl, fun z => absurd z h1, fun z => absurd z.1 h1, fun z => absurd z.1 h1, fun _ => rfl⟩
theorem gi_len {I : jI} (h : gG aGI I) {t : Nat} (ht : t ≤ 3) : -1 ≤ (I 37 0 t).toInt ∧ (I 37 0 t).toInt ≤ 60 := h (37, (0, 0), (0, 3), (-1, 60)) (by decide) 0 t (by simp) (by simp) (by simp) (by simp; omega)
theorem put_m (t i v : Int32) {I : jI} (hG : gG aGI I) : ∃ r, d140 t i v I = some r ∧ (¬ (0 ≤ t.toInt ∧ t.toInt ≤ 3) → r.1 = -1) ∧ ((0 ≤ t.toInt ∧ t.toInt ≤ 3) → ¬ puOK I 37 t i → r.1 = -3) ∧ (puOK I 37 t i → r.1 = I 38 0 (60 * t.toNatClampNeg + i.toNatClampNeg) + 1000) ∧ puM t i v I r.2 := by
  unfold d140
  rw [isText_t]
  by_cases h1 : 0 ≤ t.toInt ∧ t.toInt ≤ 3
  · rw [if_neg (by rw [b01]; exact fun z => z h1)]
    have nt := cl_t h1.1
    have hl := gi_len hG (t := t.toNatClampNeg) (by omega)
    have c1 : (1 : Int32).toInt = 1 := rfl
    have es : (I 37 0 t.toNatClampNeg - 1).toInt = (I 37 0 t.toNatClampNeg).toInt - 1 := by rw [i32_sub (by rw [c1]; omega), c1]
    by_cases h2 : 0 ≤ (I 37 0 t.toNatClampNeg).toInt
    · rw [if_pos (le0_t.mpr h2), in_i, t64, es]
      by_cases h3 : 0 ≤ i.toInt ∧ i.toInt ≤ (I 37 0 t.toNatClampNeg).toInt - 1
      · rw [if_neg (by rw [b01]; exact fun z => z h3)]
        have ok : puOK I 37 t i := ⟨h1, h3.1, by omega⟩
        have ei := ix60 h1.1 h1.2 h3.1 (by omega)
        rw [ei]
        refine ⟨_, rfl, fun z => absurd h1 z, fun _ z => absurd ok z, fun _ => rfl, fun _ j => ?_, fun z => absurd ok z⟩
        show jup I 38 0 (60 * t.toNatClampNeg + i.toNatClampNeg) v.toInt8.toInt32 38 0 j = _
        unfold jup
        by_cases c : j = 60 * t.toNatClampNeg + i.toNatClampNeg
        · rw [if_pos ⟨rfl, rfl, c⟩, if_pos c]
        · rw [if_neg (fun z => c z.2.2), if_neg c]
      · rw [if_pos (by rw [b01]; exact h3)]
        have no : ¬ puOK I 37 t i := fun ok => h3 ⟨ok.2.1, by have := ok.2.2; omega⟩
        refine ⟨_, rfl, fun z => absurd h1 z, fun _ _ => rfl, fun z => absurd z no, fun z => absurd z no, fun _ => ?_⟩
        exact find_m (by decide) (by decide)
    · rw [if_neg (fun z => h2 (le0_t.mp z))]
      have no : ¬ puOK I 37 t i := fun ok => by have := ok.2; omega
      refine ⟨_, rfl, fun z => absurd h1 z, fun _ _ => rfl, fun z => absurd z no, fun z => absurd z no, fun _ => ?_⟩
      exact find_m (by decide) (by decide)
  · rw [if_pos (by rw [b01]; exact h1)]
    exact ⟨_, rfl, fun _ => rfl, fun z => absurd z h1, fun z => absurd z.1 h1, fun z => absurd z.1 h1, fun _ => rfl⟩
theorem RT_put {t i v : Int32} {I I1 I2 : jI} {x1 x2 : Int32} (hG : gG aGI I) (h : RT I) (f1 : fr [12, 30, 1013] I I1) (f2 : fr [38, 39, 32013] I1 I2) (a1 : (¬ (0 ≤ t.toInt ∧ t.toInt ≤ 3) → x1 = -1) ∧ ((0 ≤ t.toInt ∧ t.toInt ≤ 3) → ¬ puOK I 16 t i → x1 = -3) ∧ (puOK I 16 t i → x1 = I 30 t.toNatClampNeg i.toNatClampNeg + 1000) ∧ puC t i v I I1) (a2 : (¬ (0 ≤ t.toInt ∧ t.toInt ≤ 3) → x2 = -1) ∧ ((0 ≤ t.toInt ∧ t.toInt ≤ 3) → ¬ puOK I1 37 t i → x2 = -3) ∧ (puOK I1 37 t i → x2 = I1 38 0 (60 * t.toNatClampNeg + i.toNatClampNeg) + 1000) ∧ puM t i v I1 I2) : RT I2 ∧ x1 = x2 := by
  obtain ⟨p1, p2, p3, p4⟩ := a1
  obtain ⟨q1, q2, q3, q4⟩ := a2
  have w16 : I2 16 = I 16 := (fr_arr f2 (g := 16) (fun _ => rfl) rfl).trans (fr_arr f1 (g := 16) (fun _ => rfl) rfl)
  have w30 : I2 30 = I1 30 := fr_arr f2 (fun _ => rfl) rfl
  have w37 : I1 37 = I 37 := fr_arr f1 (fun _ => rfl) rfl
  have v37 : I2 37 = I 37 := (fr_arr f2 (g := 37) (fun _ => rfl) rfl).trans w37
  have w38 : I1 38 = I 38 := fr_arr f1 (fun _ => rfl) rfl
  by_cases h1 : 0 ≤ t.toInt ∧ t.toInt ≤ 3
  · have nt := cl_t h1.1
    have et : I 37 0 t.toNatClampNeg = I 16 0 t.toNatClampNeg := h.1 _ (by omega)
    have eo : puOK I1 37 t i ↔ puOK I 16 t i := by unfold puOK; rw [w37, et]
    by_cases ok : puOK I 16 t i
    · have ni := cl_t ok.2.1
      have hl := gi_len hG (t := t.toNatClampNeg) (by omega)
      rw [et] at hl
      have o2 := ok.2.2
      refine ⟨⟨fun x hx => ?_, fun x j hx hj => ?_⟩, ?_⟩
      · rw [v37, w16]; exact h.1 x hx
      · rw [q4.1 (eo.mpr ok), w30, p4.1 ok, w38, h.2 x j hx hj]
        by_cases c : x = t.toNatClampNeg ∧ j = i.toNatClampNeg
        · rw [if_pos c, if_pos (by omega)]
        · rw [if_neg c, if_neg (fun z => c (by omega))]
      · rw [p3 ok, q3 (eo.mpr ok), w38, h.2 _ _ (by omega) (by omega)]
    · refine ⟨⟨fun x hx => ?_, fun x j hx hj => ?_⟩, ?_⟩
      · rw [v37, w16]; exact h.1 x hx
      · rw [q4.2 (fun z => ok (eo.mp z)), w30, p4.2 ok, w38]; exact h.2 x j hx hj
      · rw [p2 h1 ok, q2 h1 (fun z => ok (eo.mp z))]
  · refine ⟨⟨fun x hx => ?_, fun x j hx hj => ?_⟩, ?_⟩
    · rw [v37, w16]; exact h.1 x hx
    · rw [q4.2 (fun z => h1 z.1), w30, p4.2 (fun z => h1 z.1), w38]; exact h.2 x j hx hj
    · rw [p1 h1, q1 h1]
