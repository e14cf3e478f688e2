/-! TEXTS: the class's and the reference's are the same -/
noncomputable def RT (I : jI) : Prop := (∀ t, t < 4 → I 37 0 t = I 16 0 t) ∧ ∀ t j, t < 4 → j < 60 → I 38 0 (60 * t + j) = I 30 t j
theorem RT_fr {W : List Nat} {I I' : jI} (h : RT I) (f : fr W I I') (hw : (jel 16 W || jel 30 W || jel 37 W || jel 38 W) = false) : RT I' := by
  simp only [Bool.or_eq_false_iff] at hw
  obtain ⟨⟨⟨w1, w2⟩, w3⟩, w4⟩ := hw
  refine ⟨fun t ht => ?_, fun t j ht hj => ?_⟩
  · rw [fr_arr f (g := 37) (fun _ => rfl) w3, fr_arr f (g := 16) (fun _ => rfl) w1]; exact h.1 t ht
  · rw [fr_arr f (g := 38) (fun _ => rfl) w4, fr_arr f (g := 30) (fun _ => rfl) w2]; exact h.2 t j ht hj
theorem fill_t {y0 : Nat} {v : Int32} : ∀ (F : Nat) (x : Int32) (I : jI), 0 ≤ x.toInt → x.toInt ≤ 60 → 60 - x.toInt < (F : Int) → ∃ I', d2g30_5 y0 v (nI 60) F x I = some I' ∧ ∀ g i j, I' g i j = if g = 30 ∧ i = y0 ∧ x.toInt ≤ (j : Int) ∧ j < 60 then v else I g i j
  | 0, _, _, _, _, h => by exfalso; simp at h; omega
  | F + 1, x, I, h0, h1, h2 => by
    have e60 : (nI 60).toInt = 60 := rfl
    have n := cl_t h0
    rw [d2g30_5]
    by_cases q : nI 60 ≤ x
    · rw [if_pos q]
      rw [le_t, e60] at q
      exact ⟨I, rfl, fun g i j => by rw [if_neg (fun z => by omega)]⟩
    · rw [if_neg q]
      rw [le_t, e60] at q
      have e := i32_inc (x := x) (by omega)
      obtain ⟨I', e1, e2⟩ := fill_t F (x + 1) (jup I 30 y0 x.toNatClampNeg v) (by omega) (by omega) (by omega)
      refine ⟨I', e1, fun g i j => ?_⟩
      rw [e2, e]
      by_cases c : g = 30 ∧ i = y0 ∧ x.toInt ≤ (j : Int) ∧ j < 60
      · rw [if_pos c]
        by_cases c2 : x.toInt + 1 ≤ (j : Int)
        · rw [if_pos ⟨c.1, c.2.1, c2, c.2.2.2⟩]
        · rw [if_neg (fun z => c2 z.2.2.1)]
          unfold jup
          rw [if_pos ⟨c.1, c.2.1, by omega⟩]
      · rw [if_neg c, if_neg (fun z => c ⟨z.1, z.2.1, by omega, z.2.2.2⟩), jup_of (fun z => c ⟨z.1, z.2.1, by omega, by omega⟩)]
theorem fill_m {t y2 : Int32} (t0 : 0 ≤ t.toInt) (t3 : t.toInt ≤ 3) : ∀ (F : Nat) (x : Int32) (I : jI), 0 ≤ x.toInt → x.toInt ≤ 60 → 60 - x.toInt < (F : Int) → ∃ I', d139_34 t y2 F x I = some I' ∧ ∀ g i j, I' g i j = if g = 38 ∧ i = 0 ∧ 60 * t.toInt + x.toInt ≤ (j : Int) ∧ (j : Int) < 60 * t.toInt + 60 then 32 else I g i j
  | 0, _, _, _, _, h => by exfalso; simp at h; omega
  | F + 1, x, I, h0, h1, h2 => by
    have e60 : (60 : Int32).toInt = 60 := rfl
    have n := cl_t h0
    have nt := cl_t t0
    rw [d139_34]
    by_cases q : 60 ≤ x
    · rw [if_pos q]
      rw [le_t, e60] at q
      exact ⟨I, rfl, fun g i j => by rw [if_neg (fun z => by omega)]⟩
    · rw [if_neg q]
      rw [le_t, e60] at q
      have e := i32_inc (x := x) (by omega)
      have ei := ix60 t0 t3 h0 (x := x) (by omega)
      obtain ⟨I', e1, e2⟩ := fill_m t0 t3 F (x + 1) (jup I 38 0 (Int32.toNatClampNeg (60 * t + x)) 32) (by omega) (by omega) (by omega)
      refine ⟨I', e1, fun g i j => ?_⟩
      rw [e2, e, ei]
      by_cases c : g = 38 ∧ i = 0 ∧ 60 * t.toInt + x.toInt ≤ (j : Int) ∧ (j : Int) < 60 * t.toInt + 60
      · rw [if_pos c]
        by_cases c2 : 60 * t.toInt + (x.toInt + 1) ≤ (j : Int)
        · rw [if_pos ⟨c.1, c.2.1, c2, c.2.2.2⟩]
        · rw [if_neg (fun z => c2 z.2.2.1)]
          unfold jup
          rw [if_pos ⟨c.1, c.2.1, by omega⟩]
      · rw [if_neg c, if_neg (fun z => c ⟨z.1, z.2.1, by omega, z.2.2.2⟩), jup_of (fun z => c ⟨z.1, z.2.1, by omega, by omega⟩)]
noncomputable def txOK (t n : Int32) : Prop := (0 ≤ t.toInt ∧ t.toInt ≤ 3) ∧ 0 ≤ n.toInt ∧ n.toInt ≤ 60
noncomputable def txC (t n : Int32) (I I' : jI) : Prop := (txOK t n → (∀ x, I' 16 0 x = if x = t.toNatClampNeg then n else I 16 0 x) ∧ ∀ x j, I' 30 x j = if x = t.toNatClampNeg ∧ j < 60 then 32 else I 30 x j) ∧ (¬ txOK t n → I' 16 = I 16 ∧ I' 30 = I 30)
noncomputable def txM (t n : Int32) (I I' : jI) : Prop := (txOK t n → (∀ x, I' 37 0 x = if x = t.toNatClampNeg then n else I 37 0 x) ∧ ∀ j, I' 38 0 j = if 60 * t.toNatClampNeg ≤ j ∧ j < 60 * t.toNatClampNeg + 60 then 32 else I 38 0 j) ∧ (¬ txOK t n → I' 37 = I 37 ∧ I' 38 = I 38)
theorem le60_t {n : Int32} : n ≤ 60 ↔ n.toInt ≤ 60 := by rw [le_t]; rfl
theorem text_c (t n : Int32) (I : jI) : ∃ r, d74 t n I = some r ∧ r.1 = eA 3 60 t n ∧ txC t n I r.2 := by
  unfold d74
  rw [names_t]
  by_cases h1 : 0 ≤ t.toInt ∧ t.toInt ≤ 3
  · rw [if_neg (by rw [b01]; exact fun z => z h1)]
    by_cases h2 : n.toInt ≤ 60
    · rw [if_pos (le60_t.mpr h2)]
      by_cases h3 : 0 ≤ n.toInt
      · rw [if_pos (le0_t.mpr h3)]
        obtain ⟨I', e1, e2⟩ := fill_t (y0 := t.toNatClampNeg) (v := 32) 70 0 I (by decide) (by decide) (by decide)
        unfold d20g2 d2g30
        rw [e1]
        refine ⟨_, rfl, ?_, fun _ => ⟨fun x => ?_, fun x j => ?_⟩, fun z => absurd ⟨h1, h3, h2⟩ z⟩
        · unfold eA; rw [if_neg (by omega), if_neg (by omega), if_neg (by omega), if_neg (by omega)]
        · show jup I' 16 0 t.toNatClampNeg n 16 0 x = _
          unfold jup
          by_cases c : x = t.toNatClampNeg
          · rw [if_pos ⟨rfl, rfl, c⟩, if_pos c]
          · rw [if_neg (fun z => c z.2.2), if_neg c, e2, if_neg (fun z => absurd z.1 (by decide))]
        · show jup I' 16 0 t.toNatClampNeg n 30 x j = _
          rw [jup_of (fun z => absurd z.1 (by decide)), e2]
          have z0 : (0 : Int32).toInt = 0 := rfl
          by_cases c : x = t.toNatClampNeg ∧ j < 60
          · rw [if_pos c, if_pos ⟨rfl, c.1, by rw [z0]; omega, c.2⟩]
          · rw [if_neg c, if_neg (fun z => c ⟨z.2.1, z.2.2.2⟩)]
      · rw [if_neg (fun z => h3 (le0_t.mp z))]
        refine ⟨_, rfl, ?_, fun z => absurd z.2.1 h3, fun _ => ⟨?_, ?_⟩⟩
        · unfold eA; rw [if_neg (by omega), if_neg (by omega), if_neg (by omega), if_pos (by omega)]; rfl
        · exact find_c (by decide) (by decide)
        · exact find_c (by decide) (by decide)
    · rw [if_neg (fun z => h2 (le60_t.mp z))]
      refine ⟨_, rfl, ?_, fun z => absurd z.2.2 h2, fun _ => ⟨rfl, rfl⟩⟩
      unfold eA; rw [if_neg (by omega), if_neg (by omega), if_pos (by omega)]
  · rw [if_pos (by rw [b01]; exact h1)]
    refine ⟨_, rfl, ?_, fun z => absurd z.1 h1, fun _ => ⟨rfl, rfl⟩⟩
    unfold eA
    by_cases h : t.toInt < 0
    · rw [if_pos h]
    · rw [if_neg h, if_pos (by omega)]
theorem text_m (t n : Int32) (I : jI) : ∃ r, d139 t n I = some r ∧ r.1 = eA 3 60 t n ∧ txM t n I r.2 := by
  unfold d139
  rw [isText_t]
  by_cases h1 : 0 ≤ t.toInt ∧ t.toInt ≤ 3
  · rw [if_neg (by rw [b01]; exact fun z => z h1)]
    by_cases h2 : n.toInt ≤ 60
    · rw [if_pos (le60_t.mpr h2)]
      by_cases h3 : 0 ≤ n.toInt
      · rw [if_pos (le0_t.mpr h3)]
        obtain ⟨I', e1, e2⟩ := fill_m (t := t) (y2 := n) h1.1 h1.2 70 0 (jup I 37 0 t.toNatClampNeg n) (by decide) (by decide) (by decide)
        have nt := cl_t h1.1
        rw [e1]
        refine ⟨_, rfl, ?_, fun _ => ⟨fun x => ?_, fun j => ?_⟩, fun z => absurd ⟨h1, h3, h2⟩ z⟩
        · unfold eA; rw [if_neg (by omega), if_neg (by omega), if_neg (by omega), if_neg (by omega)]
        · show I' 37 0 x = _
          rw [e2, if_neg (fun z => absurd z.1 (by decide))]
          unfold jup
          by_cases c : x = t.toNatClampNeg
          · rw [if_pos ⟨rfl, rfl, c⟩, if_pos c]
          · rw [if_neg (fun z => c z.2.2), if_neg c]
        · show I' 38 0 j = _
          have z0 : (0 : Int32).toInt = 0 := rfl
          rw [e2, z0]
          by_cases c : 60 * t.toNatClampNeg ≤ j ∧ j < 60 * t.toNatClampNeg + 60
          · rw [if_pos c, if_pos ⟨rfl, rfl, by omega, by omega⟩]
          · rw [if_neg c, if_neg (fun z => c (by omega)), jup_of (fun z => absurd z.1 (by decide))]
      · rw [if_neg (fun z => h3 (le0_t.mp z))]
        refine ⟨_, rfl, ?_, fun z => absurd z.2.1 h3, fun _ => ⟨?_, ?_⟩⟩
        · unfold eA; rw [if_neg (by omega), if_neg (by omega), if_neg (by omega), if_pos (by omega)]; rfl
        · exact find_m (by decide) (by decide)
        · exact find_m (by decide) (by decide)
    · rw [if_neg (fun z => h2 (le60_t.mp z))]
      refine ⟨_, rfl, ?_, fun z => absurd z.2.2 h2, fun _ => ⟨rfl, rfl⟩⟩
      unfold eA; rw [if_neg (by omega), if_neg (by omega), if_pos (by omega)]
  · rw [if_pos (by rw [b01]; exact h1)]
    refine ⟨_, rfl, ?_, fun z => absurd z.1 h1, fun _ => ⟨rfl, rfl⟩⟩
    unfold eA
    by_cases h : t.toInt < 0
    · rw [if_pos h]
    · rw [if_neg h, if_pos (by omega)]
theorem RT_text {t n : Int32} {I I1 I2 : jI} (h : RT I) (f1 : fr [12, 16, 30, 1013] I I1) (f2 : fr [37, 38, 39, 32013] I1 I2) (c : txC t n I I1) (m : txM t n I1 I2) : RT I2 := by
  have w16 : I2 16 = I1 16 := fr_arr f2 (fun _ => rfl) rfl
  have w30 : I2 30 = I1 30 := fr_arr f2 (fun _ => rfl) rfl
  have w37 : I1 37 = I 37 := fr_arr f1 (fun _ => rfl) rfl
  have w38 : I1 38 = I 38 := fr_arr f1 (fun _ => rfl) rfl
  by_cases ok : txOK t n
  · have c := c.1 ok
    have m := m.1 ok
    have nt := cl_t ok.1.1
    have o3 := ok.1.2
    refine ⟨fun x hx => ?_, fun x j hx hj => ?_⟩
    · rw [m.1, w16, c.1, w37, h.1 x hx]
    · rw [m.2, w30, c.2, w38, h.2 x j hx hj]
      by_cases q : x = t.toNatClampNeg
      · rw [if_pos (by omega : 60 * t.toNatClampNeg ≤ 60 * x + j ∧ 60 * x + j < 60 * t.toNatClampNeg + 60), if_pos (⟨q, hj⟩ : x = t.toNatClampNeg ∧ j < 60)]
      · rw [if_neg (by omega : ¬ (60 * t.toNatClampNeg ≤ 60 * x + j ∧ 60 * x + j < 60 * t.toNatClampNeg + 60)), if_neg (fun z => q z.1 : ¬ (x = t.toNatClampNeg ∧ j < 60))]
  · have c := c.2 ok
    have m := m.2 ok
    refine ⟨fun x hx => ?_, fun x j hx hj => ?_⟩
    · rw [m.1, w16, c.1, w37]; exact h.1 x hx
    · rw [m.2, w30, c.2, w38]; exact h.2 x j hx hj
