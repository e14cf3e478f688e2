section
/-! findings: every call that may find -/
noncomputable def rfC : List aR := [(0, (0, 0), (13, 13)), (12, (0, 0), (0, 5))]
noncomputable def rfM : List aR := [(31, (0, 0), (13, 13)), (39, (0, 0), (0, 5))]
theorem RF_cells {I I' J J' : jI} (q : RFi I J) (e : ∀ g i j, gI rfC g i j → I' g i j = I g i j) (f : ∀ g i j, gI rfM g i j → J' g i j = J g i j) : RFi I' J' := by
  refine ⟨?_, fun x hx => ?_⟩
  · rw [f 31 0 13 ⟨(31, (0, 0), (13, 13)), by decide, rfl, by simp, by simp, by simp, by simp⟩, e 0 0 13 ⟨(0, (0, 0), (13, 13)), by decide, rfl, by simp, by simp, by simp, by simp⟩]
    exact q.1
  · rw [f 39 0 x ⟨(39, (0, 0), (0, 5)), by decide, rfl, by simp, by simp, by simp, by simp; omega⟩, e 12 0 x ⟨(12, (0, 0), (0, 5)), by decide, rfl, by simp, by simp, by simp, by simp; omega⟩]
    exact q.2 x hx
theorem RF_g {I J I' J' : jI} (q : RFi I J) (a : I' 0 0 13 = I 0 0 13) (b : I' 12 = I 12) (c : J' 31 0 13 = J 31 0 13) (d : J' 39 = J 39) : RFi I' J' := ⟨by rw [a, c]; exact q.1, fun f hf => by rw [b, d]; exact q.2 f hf⟩
theorem text_rf {I J : jI} (t n : Int32) : ∃ s s', d74 t n I = some s ∧ d139 t n J = some s' ∧ s.1 = s'.1 ∧ rfO I s.2 J s'.2 := by
  unfold d74 d139
  rw [names_t, isText_t]
  by_cases h1 : 0 ≤ t.toInt ∧ t.toInt ≤ 3
  · rw [if_pos h1, if_neg one0, if_neg one0]
    by_cases h2 : n ≤ 60
    · rw [if_pos h2, if_pos h2]
      by_cases h3 : 0 ≤ n
      · rw [if_pos h3, if_pos h3]
        obtain ⟨A, a1, a2⟩ := fill_t (y0 := t.toNatClampNeg) (v := 32) 70 0 I (by decide) (by decide) (by decide)
        obtain ⟨B, b1, b2⟩ := fill_m (t := t) (y2 := n) h1.1 h1.2 70 0 (jup J 37 0 t.toNatClampNeg n) (by decide) (by decide) (by decide)
        unfold d20g2 d2g30
        rw [a1, b1]
        have ga : ∀ g, ¬ g = 30 → A g = I g := fun g hg => by
          funext i j
          rw [a2, if_neg (fun z => hg z.1)]
        have gb : ∀ g, ¬ g = 38 → B g = jup J 37 0 t.toNatClampNeg n g := fun g hg => by
          funext i j
          rw [b2, if_neg (fun z => hg z.1)]
        refine ⟨_, _, rfl, rfl, rfl, fun q => RF_g q ?_ ?_ ?_ ?_⟩
        · show jup A 16 0 t.toNatClampNeg n 0 0 13 = _
          rw [jup_g (by decide), ga 0 (by decide)]
        · show jup A 16 0 t.toNatClampNeg n 12 = _
          rw [jup_g (by decide), ga 12 (by decide)]
        · show B 31 0 13 = _
          rw [gb 31 (by decide), jup_g (by decide)]
        · show B 39 = _
          rw [gb 39 (by decide), jup_g (by decide)]
      · rw [if_neg h3, if_neg h3]
        exact ⟨_, _, rfl, rfl, rfl, fun q => RFi_find q⟩
    · rw [if_neg h2, if_neg h2]
      exact ⟨_, _, rfl, rfl, rfl, fun q => q⟩
  · rw [if_neg h1, if_pos rfl, if_pos rfl]
    exact ⟨_, _, rfl, rfl, rfl, fun q => q⟩
theorem put_rf {I J : jI} (t i v : Int32) (hG : gG aGI I) (ht : RT2 I J) : ∃ s s', d75 t i v I = some s ∧ d140 t i v J = some s' ∧ s.1 = s'.1 ∧ rfO I s.2 J s'.2 := by
  unfold d75 d140
  rw [names_t, isText_t]
  by_cases h1 : 0 ≤ t.toInt ∧ t.toInt ≤ 3
  · rw [if_pos h1, if_neg one0, if_neg one0]
    have nt := cl_t h1.1
    have hs := gi_tsz hG (t := t.toNatClampNeg) (by omega)
    have c1 : (1 : Int32).toInt = 1 := rfl
    have cm : (-1 : Int32).toInt = -1 := rfl
    have z0 : (0 : Int64).toInt = 0 := rfl
    have es : (I 16 0 t.toNatClampNeg - 1).toInt = (I 16 0 t.toNatClampNeg).toInt - 1 := by rw [i32_sub (by omega), c1]
    unfold d22g2 d16g2
    rw [ht.1 _ (by omega)]
    by_cases h2 : I 16 0 t.toNatClampNeg = -1
    · have h2' : (I 16 0 t.toNatClampNeg).toInt = -1 := by rw [h2]; rfl
      rw [if_pos h2, if_pos rfl, if_neg one0, if_neg (show ¬ 0 ≤ I 16 0 t.toNatClampNeg by rw [le0_t]; omega)]
      exact ⟨_, _, rfl, rfl, rfl, fun q => RFi_find q⟩
    · have h2' : ¬ (I 16 0 t.toNatClampNeg).toInt = -1 := fun z => h2 (eq_t.mpr (by rw [z, cm]))
      rw [if_neg h2, if_neg one0, if_pos (show 0 ≤ I 16 0 t.toNatClampNeg by rw [le0_t]; omega), in_i, t64, es, z0]
      by_cases h3 : 0 ≤ i.toInt ∧ i.toInt ≤ (I 16 0 t.toNatClampNeg).toInt - 1
      · rw [if_pos h3, if_neg one0, if_neg (show ¬ i < 0 by rw [lt0_t]; omega), if_pos (show i < I 16 0 t.toNatClampNeg by rw [lt_t]; omega), if_pos rfl, ix60 h1.1 h1.2 h3.1 (by omega)]
        have ni := cl_t h3.1
        refine ⟨_, _, rfl, rfl, ?_, fun q => RF_g q rfl rfl rfl rfl⟩
        show d18g2 t i I + 1000 = J 38 0 (60 * t.toNatClampNeg + i.toNatClampNeg) + 1000
        rw [ht.2 _ _ (by omega) (by omega)]
        rfl
      · rw [if_neg h3, if_pos rfl]
        have e2 : (if i < 0 then (2 : Int32) else if i < I 16 0 t.toNatClampNeg then 0 else 2) = 2 := by
          by_cases a : i < 0
          · rw [if_pos a]
          · rw [if_neg a, if_neg (show ¬ i < I 16 0 t.toNatClampNeg from fun z => by rw [lt_t] at z; rw [lt0_t] at a; exact h3 ⟨by omega, by omega⟩)]
        rw [e2, if_neg (show ¬ (2 : Int32) = 0 by decide)]
        exact ⟨_, _, rfl, rfl, rfl, fun q => RFi_find q⟩
  · rw [if_neg h1, if_pos rfl, if_pos rfl]
    exact ⟨_, _, rfl, rfl, rfl, fun q => q⟩
theorem readm_gR2 {t : Int32} {J : jI} {r : Int32 × jI} (hG : gG aGI J) (ht : 0 ≤ t.toInt ∧ t.toInt ≤ 3) (hl : 0 ≤ (J 37 0 t.toNatClampNeg).toInt) (e : d148 t J = some r) : gR rdW J (fun _ _ _ => 0) r.2 (fun _ _ _ => 0) := use_tw (L := fun _ _ _ => 0) (L' := fun _ _ _ => 0) (hd_faultOf (d := 5) (Nat.le_refl _) hG ht.1 ht.2 hl (k := fun _ σ => gR rdW J (fun _ _ _ => 0) σ.1 σ.2) (fun _ _ _ a _ _ _ => a)) (v := some (.inl (.inl r.1))) (I' := r.2) (fun d k hk => D148 e hk)
theorem fault_rf {I J : jI} (t : Int32) (hG : gG aGI I) (hGJ : gG aGI J) (h : RT2 I J) : ∃ s s', d76 t I = some s ∧ d149 t J = some s' ∧ s.1 = s'.1 ∧ rfO I s.2 J s'.2 := by
  unfold d76 d149
  rw [names_t, isText_t]
  by_cases h1 : 0 ≤ t.toInt ∧ t.toInt ≤ 3
  · rw [if_pos h1, if_neg one0, if_neg one0]
    have nt := cl_t h1.1
    have hs := gi_tsz hG (t := t.toNatClampNeg) (by omega)
    have et : J 37 0 t.toNatClampNeg = I 16 0 t.toNatClampNeg := h.1 _ (by omega)
    rw [et]
    unfold d16g2
    have cm : (-1 : Int32).toInt = -1 := rfl
    by_cases h2 : I 16 0 t.toNatClampNeg = -1
    · have h2' : (I 16 0 t.toNatClampNeg).toInt = -1 := by rw [h2]; rfl
      rw [if_pos h2, if_pos rfl, if_neg (show ¬ 0 ≤ I 16 0 t.toNatClampNeg by rw [le0_t]; omega)]
      exact ⟨_, _, rfl, rfl, rfl, fun q => RFi_find q⟩
    · have h2' : ¬ (I 16 0 t.toNatClampNeg).toInt = -1 := fun z => h2 (eq_t.mpr (by rw [z, cm]))
      rw [if_neg h2, if_neg one0, if_pos (show 0 ≤ I 16 0 t.toNatClampNeg by rw [le0_t]; omega)]
      obtain ⟨v, I', J', a1, a2, -⟩ := read_eq (I := I) (J := J) h1 et (fun j hj => h.2 _ j (by omega) hj) ⟨by omega, hs.2⟩
      obtain ⟨g1, g2⟩ := read_gR hG h1 a1
      have g3 := readm_gR2 hGJ h1 (by rw [et]; omega) a2
      rw [a1, a2]
      refine ⟨_, _, rfl, rfl, rfl, fun q => RF_cells q (fun g i j z => (g2 g i j (rApart_of (by decide) z)).1) (fun g i j z => (g3 g i j (rApart_of (by decide) z)).1)⟩
  · rw [if_neg h1, if_pos rfl, if_pos rfl]
    exact ⟨_, _, rfl, rfl, rfl, fun q => q⟩
theorem hoM_of2 {J' : jI} {m : Nat} (hm : m ≤ 6) (hj : (J' 31 0 21).toInt = (m : Int)) : ∃ X, ((d150_39 1200 0 J').bind fun r2 => (d150_85 1200 0 (hoN r2)).bind fun r3 => d150_169 1200 1 r3) = some X ∧ (hoM J' X m ∧ X 31 0 13 = J' 31 0 13) := by
  obtain ⟨U, u1, u2, u3⟩ := z39_m 1200 0 J' (by decide) (by decide) (by decide)
  have z0 : (0 : Int32).toInt = 0 := rfl
  have z1 : (1 : Int32).toInt = 1 := rfl
  rw [z0] at u3
  have u31 : U 31 = J' 31 := u2 31 (by decide)
  have s1 : hoN U 31 0 1 = J' 31 0 18 := by rw [← u31]; rfl
  have s2 : hoN U 31 0 2 = J' 31 0 19 := by rw [← u31]; rfl
  have s3 : hoN U 31 0 3 = J' 31 0 21 := by rw [← u31]; rfl
  have sg : ∀ g, ¬ g = 31 → hoN U g = U g := fun g hg => ((jup_g hg).trans (jup_g hg)).trans (jup_g hg)
  obtain ⟨V, v1, v2, v3, v4, v5, v6⟩ := h85_m hm 1200 0 (hoN U) (by rw [s3]; exact hj) (by decide) (by rw [z0]; omega) (by rw [z0]; show (m : Int) - 0 < 1200; omega)
  rw [z0] at v3 v4 v5 v6
  obtain ⟨X, x1, x2, x3⟩ := h169_m 1200 1 V (by decide) (by decide) (by decide)
  rw [z1] at x3
  have v31 : V 31 = hoN U 31 := v2 31 (by decide) (by decide) (by decide)
  have x31 : X 31 = V 31 := x2 31 (by decide)
  have w40 : hoN U 40 = J' 40 := (sg 40 (by decide)).trans (u2 40 (by decide))
  have lo : ∀ j, j < 1149 → X 32 0 j = V 32 0 j := fun j h => by rw [x3, if_neg (fun z => by omega)]
  refine ⟨X, ?_, ⟨⟨?_, ?_, ?_⟩, fun i hi => ⟨⟨?_, ?_⟩, ?_, ?_⟩, fun j h => ?_, ⟨?_, ?_, ?_⟩, fun g g1 g2 g3 g4 => ?_⟩, ?_⟩
  · rw [u1]; dsimp only [Option.bind_some]; rw [v1]; exact x1
  · rw [x31, v31, s1]
  · rw [x31, v31, s2]
  · rw [x31, v31, s3]
  · rw [x2 33 (by decide), v3, if_pos ⟨by omega, hi⟩, w40]
  · rw [x2 34 (by decide), v4, if_pos ⟨by omega, hi⟩, w40]
  · rw [lo _ (by omega), (v5 i hi (by omega)).1, w40]
  · rw [lo _ (by omega), (v5 i hi (by omega)).2, w40]
  · rw [lo j (by omega), v6 j (fun i _ _ => ⟨by omega, by omega⟩), sg 32 (by decide), u3, if_pos (by omega)]
  · rw [x3, if_pos (Or.inl ⟨rfl, by decide⟩)]
  · rw [x3, if_pos (Or.inr (Or.inl ⟨rfl, by decide⟩))]
  · rw [x3, if_pos (Or.inr (Or.inr ⟨rfl, by decide⟩))]
  · rw [x2 g g2, v2 g g2 g3 g4, sg g g1, u2 g g2]
  · rw [x31, v31]
    show U 31 0 13 = _
    rw [u31]
theorem house_rf {I J : jI} (t : Int32) (hG : gG aGI I) (hGJ : gG aGI J) (h : RT2 I J) : ∃ s s', d77 t I = some s ∧ d150 t J = some s' ∧ s.1 = s'.1 ∧ rfO I s.2 J s'.2 := by
  unfold d77 d150
  rw [names_t, isText_t]
  by_cases h1 : 0 ≤ t.toInt ∧ t.toInt ≤ 3
  · rw [if_pos h1, if_neg one0, if_neg one0]
    have nt := cl_t h1.1
    have hs := gi_tsz hG (t := t.toNatClampNeg) (by omega)
    have et : J 37 0 t.toNatClampNeg = I 16 0 t.toNatClampNeg := h.1 _ (by omega)
    rw [et]
    unfold d16g2
    have cm : (-1 : Int32).toInt = -1 := rfl
    by_cases h2 : I 16 0 t.toNatClampNeg = -1
    · have h2' : (I 16 0 t.toNatClampNeg).toInt = -1 := by rw [h2]; rfl
      rw [if_pos h2, if_pos rfl, if_neg (show ¬ 0 ≤ I 16 0 t.toNatClampNeg by rw [le0_t]; omega)]
      exact ⟨_, _, rfl, rfl, rfl, fun q => RFi_find q⟩
    · have h2' : ¬ (I 16 0 t.toNatClampNeg).toInt = -1 := fun z => h2 (eq_t.mpr (by rw [z, cm]))
      rw [if_neg h2, if_neg one0, if_pos (show 0 ≤ I 16 0 t.toNatClampNeg by rw [le0_t]; omega)]
      obtain ⟨v, I', J', a1, a2, a3⟩ := read_eq (I := I) (J := J) h1 et (fun j hj => h.2 _ j (by omega) hj) ⟨by omega, hs.2⟩
      obtain ⟨g1, g2⟩ := read_gR hG h1 a1
      have g3 := readm_gR2 hGJ h1 (by rw [et]; omega) a2
      have mid : RFi I J → RFi I' J' := fun q => RF_cells q (fun g i j z => (g2 g i j (rApart_of (by decide) z)).1) (fun g i j z => (g3 g i j (rApart_of (by decide) z)).1)
      rw [a1, a2]
      dsimp only [Option.bind_some]
      rcases a3 with ⟨rfl, m, m1, m6, rp, rn⟩ | a3
      · rw [if_pos rfl, if_pos rfl]
        obtain ⟨T, t1, t2⟩ := hoC_of (I' := I')
        obtain ⟨X, x1, x2⟩ := hoM_of2 (J' := J') m6 rp.2.1
        have eC := bind3 (d28 0 5 I') (fun r2 => d28 1 0 r2) (fun r3 => d77_77 70 0 r3) (fun r4 => (r4 4 1 6, r4))
        rw [t1] at eC
        have eM := bind3 (d150_39 1200 0 J') (fun r2 => d150_85 1200 0 (hoN r2)) (fun r3 => d150_169 1200 1 r3) (fun r4 => (r4 31 0 3, r4))
        rw [x1] at eM
        refine ⟨(T 4 1 6, T), (X 31 0 3, X), eC, eM, ?_, fun q => RF_g (mid q) ?_ ?_ ?_ ?_⟩
        · show T 4 1 6 = X 31 0 3
          rw [(t2.1 1 (by decide)).1 6 (by decide) (by decide), x2.1.1.2.2]
          exact eq_t.mpr (rp.1.trans rp.2.1.symm)
        · show T 0 0 13 = _
          rw [t2.2.2.2 0 (by decide) (by decide) (by omega)]
        · show T 12 = _
          rw [t2.2.2.2 12 (by decide) (by decide) (by omega)]
        · exact x2.2
        · show X 39 = _
          rw [x2.1.2.2.2.2 39 (by decide) (by decide) (by decide) (by decide)]
      · rw [if_neg (ne9 a3), if_neg (ne9 a3)]
        exact ⟨_, _, rfl, rfl, rfl, mid⟩
  · rw [if_neg h1, if_pos rfl, if_pos rfl]
    exact ⟨_, _, rfl, rfl, rfl, fun q => q⟩
theorem mark_rf {I J : jI} (i w : Int32) (hG : gG aGI I) (q : RD2 I J) : ∃ s s', d79 i w I = some s ∧ d160 i w J = some s' ∧ s.1 = s'.1 ∧ rfO I s.2 J s'.2 := by
  have c := RD_cur hG q
  have hp := gi_packets hG
  have c3 : J 31 0 3 = I 4 1 6 := c.1.1.1
  have z0 : (0 : Int32).toInt = 0 := rfl
  obtain ⟨a, b, ea, eb, eab⟩ := mark_an i w hG q
  refine ⟨a, b, ea, eb, eab, ?_⟩
  unfold d79 at ea
  unfold d160 at eb
  rw [has_c] at ea
  rw [isP_m (by rw [c3]; exact hp), c3, in_i] at eb
  by_cases h1 : 0 ≤ i.toInt ∧ i.toInt < (I 4 1 6).toInt
  · rw [if_pos h1, if_neg one0] at ea eb
    obtain ⟨hi, hi5, hm0⟩ := RD_hi c h1
    have ai := c.1.2.2.1 _ hi
    by_cases h2 : 1 ≤ w.toInt ∧ w.toInt ≤ 5
    · have hw : w = 1 ∨ w = 2 ∨ w = 3 ∨ w = 4 ∨ w = 5 := by
        have : w.toInt = 1 ∨ w.toInt = 2 ∨ w.toInt = 3 ∨ w.toInt = 4 ∨ w.toInt = 5 := by omega
        rcases this with z | z | z | z | z
        · exact Or.inl (eq_t.mpr z)
        · exact Or.inr (Or.inl (eq_t.mpr z))
        · exact Or.inr (Or.inr (Or.inl (eq_t.mpr z)))
        · exact Or.inr (Or.inr (Or.inr (Or.inl (eq_t.mpr z))))
        · exact Or.inr (Or.inr (Or.inr (Or.inr (eq_t.mpr z))))
      rw [if_neg (show ¬ w ≤ 0 by rw [le_t, z0]; omega), if_pos (show w < 6 by rw [lt_t]; show w.toInt < 6; omega)] at ea
      rw [if_pos (show (1 : Int64).toInt ≤ w.toInt ∧ w.toInt ≤ (5 : Int64).toInt from h2), if_neg one0] at eb
      have hA := isA_cm (k := I 18 1 i.toNatClampNeg) (w := w) (I := I) (J := J) ai.2.1 hw
      unfold d159 at eb
      rw [ai.2.1] at eb
      by_cases h3 : d3 (I 18 1 i.toNatClampNeg) w I = 0
      · rw [if_pos h3] at ea
        rw [if_pos (hA.mp h3)] at eb
        cases ea
        cases eb
        exact fun q => RFi_find q
      · rw [if_neg h3] at ea
        rw [if_neg (fun z => h3 (hA.mpr z))] at eb
        cases ea
        have sb : b.2 = J := by
          rcases hw with rfl | rfl | rfl | rfl | rfl <;> cases eb <;> rfl
        rw [show rfO I (d41 1 i w I, I).2 J b.2 = rfO I I J J by rw [sb]]
        exact fun q => q
    · have na : a.2 = I := by
        by_cases h3 : w ≤ 0
        · rw [if_pos h3] at ea
          cases ea
          rfl
        · rw [if_neg h3, if_neg (show ¬ w < 6 from fun z => by rw [lt_t] at z; have z : w.toInt < 6 := z; rw [le_t, z0] at h3; exact h2 ⟨by omega, by omega⟩)] at ea
          cases ea
          rfl
      rw [if_neg (show ¬ ((1 : Int64).toInt ≤ w.toInt ∧ w.toInt ≤ (5 : Int64).toInt) from h2), if_pos rfl] at eb
      cases eb
      rw [show rfO I a.2 J (-1, J).2 = rfO I I J J by rw [na]]
      exact fun q => q
  · rw [if_neg h1, if_pos rfl] at ea eb
    cases ea
    cases eb
    exact fun q => q
theorem on_rf {I J : jI} (k : Int32) (hG : gG aGI I) (q : RD2 I J) : ∃ s s', d88 k I = some s ∧ d176 k J = some s' ∧ s.1 = s'.1 ∧ rfO I s.2 J s'.2 := by
  obtain ⟨a, b, ea, eb, eab, -⟩ := on_eq k hG q
  refine ⟨a, b, ea, eb, eab, ?_⟩
  unfold d88 at ea
  unfold d176 at eb
  rw [in_i] at eb
  by_cases h0 : k.toInt < 0
  · rw [if_pos (lt0_t.mpr h0)] at ea
    rw [if_neg (show ¬ ((0 : Int64).toInt ≤ k.toInt ∧ k.toInt ≤ (2 : Int64).toInt) from fun z => by have z1 : 0 ≤ k.toInt := z.1; omega), if_pos rfl] at eb
    cases ea
    cases eb
    exact fun q => q
  rw [if_neg (fun z => h0 (lt0_t.mp z))] at ea
  by_cases h2 : k.toInt ≤ 2
  · rw [if_pos (show k < 3 by rw [lt_t]; show k.toInt < 3; omega)] at ea
    rw [if_pos (show (0 : Int64).toInt ≤ k.toInt ∧ k.toInt ≤ (2 : Int64).toInt from ⟨by show 0 ≤ k.toInt; omega, h2⟩), if_neg one0] at eb
    have nk := cl_t (x := k) (by omega)
    have bk := b_of (k := k) (by omega) h2
    have e0 : Int32.toNatClampNeg (1149 * (1 + k) + 0) = 1149 * (k.toNatClampNeg + 1) := by
      have := cl_t (x := 1149 * (1 + k)) (by omega)
      rw [Int32.add_zero]
      omega
    rw [e0] at eb
    rcases kept_m hG q (k := k.toNatClampNeg) (by omega) with ⟨x, y⟩ | ⟨x, y, z⟩
    · rw [if_pos x] at ea
      rw [y, if_neg (show ¬ (0 : Int32) ≤ -1 by decide)] at eb
      cases ea
      cases eb
      exact fun q => RFi_find q
    · rw [if_neg x, d28_t] at ea
      rw [y, if_pos (show 0 ≤ I 4 (2 + k.toNatClampNeg) 15 by rw [le0_t]; exact z)] at eb
      obtain ⟨Y, y1, y2, y3, y4⟩ := cp_m (a := 1149 * (1 + k)) (b := 0) (p := 1149 * (k.toNatClampNeg + 1)) (q := 0) (J := J) bk rfl (by omega) (by decide) (by omega)
      rw [y1] at eb
      cases ea
      cases eb
      refine fun q => RF_g q ?_ ?_ ?_ ?_
      · show taT 1 (2 + k.toNatClampNeg) I 0 0 13 = _
        rw [ta_ot (by decide)]
      · show taT 1 (2 + k.toNatClampNeg) I 12 = _
        funext i j
        by_cases e : i = 1
        · subst e
          unfold taT
          rw [ta_c (by decide), if_neg (fun z => by have := z.2; omega)]
        · rw [ta_ot e]
      · show Y 31 0 13 = _
        rw [y4 31 (by decide)]
      · show Y 39 = _
        rw [y4 39 (by decide)]
  · rw [if_neg (show ¬ k < 3 by rw [lt_t]; show ¬ k.toInt < 3; omega)] at ea
    rw [if_neg (show ¬ ((0 : Int64).toInt ≤ k.toInt ∧ k.toInt ≤ (2 : Int64).toInt) from fun z => h2 z.2), if_pos rfl] at eb
    cases ea
    cases eb
    exact fun q => q
end
section
theorem Pr99 {d : Nat} {a1 a2 : Int32} {I : jI} {L : jL} {K : jK} (hG : gG aGI I) (q : RD2 I I) (h : RR I I) (hK : jPM d 99 [.inr (0, 0), .inl (.inl a1), .inl (.inl a2)] (I, L) K) : jPM d 99 [.inr (0, 0), .inl (.inl a1), .inl (.inl a2)] (I, L) (fun v σ => (∃ r, d99 a1 a2 I = some r ∧ v = some (.inl (.inl r.1)) ∧ σ.1 = r.2) ∧ K v σ) := by
  obtain ⟨r, r', e, e', -⟩ := kinds_eq a1 a2 hG q h
  exact jPM_and (D99 e ⟨r, e, rfl, rfl⟩) hK
theorem Pr195 {d : Nat} {a1 a2 : Int32} {I I1 : jI} {L : jL} {K : jK} (hG : gG aGI I) (q : RD2 I I1) (h : RR I I1) (hK : jPM d 195 [.inr (31, 0), .inl (.inl a1), .inl (.inl a2)] (I1, L) K) : jPM d 195 [.inr (31, 0), .inl (.inl a1), .inl (.inl a2)] (I1, L) (fun v σ => (∃ r, d195 a1 a2 I1 = some r ∧ v = some (.inl (.inl r.1)) ∧ σ.1 = r.2) ∧ K v σ) := by
  obtain ⟨r, r', e, e', -⟩ := kinds_eq a1 a2 hG q h
  exact jPM_and (D195 e' ⟨r', e', rfl, rfl⟩) hK
theorem Qr99 {a1 a2 : Int32} {x1 x2 : Int32} {I I1 I2 : jI} (hG : gG aGI I) (q : RD2 I I1) (h : RR I I1) (q1 : ∃ r, d99 a1 a2 I = some r ∧ (some (.inl (.inl x1)) : Option jV) = some (.inl (.inl r.1)) ∧ I1 = r.2) (q2 : ∃ r, d195 a1 a2 I1 = some r ∧ (some (.inl (.inl x2)) : Option jV) = some (.inl (.inl r.1)) ∧ I2 = r.2) : x1 = x2 ∧ RR I1 I2 := by
  obtain ⟨s, c1, c2, c3⟩ := q1
  obtain ⟨r, r', e, e', k, z, -⟩ := kinds_eq a1 a2 hG q h
  obtain ⟨s', b1, b2, b3⟩ := q2
  rw [e] at c1
  rw [e'] at b1
  cases c1
  cases b1
  cases c2
  cases b2
  rw [← b3] at z
  rw [← c3] at z
  exact ⟨k, z⟩
theorem Pr100 {d : Nat} {a1 a2 : Int32} {I : jI} {L : jL} {K : jK} (hG : gG aGI I) (q : RD2 I I) (h : RR I I) (hK : jPM d 100 [.inr (0, 0), .inl (.inl a1), .inl (.inl a2)] (I, L) K) : jPM d 100 [.inr (0, 0), .inl (.inl a1), .inl (.inl a2)] (I, L) (fun v σ => (∃ r, d100 a1 a2 I = some r ∧ v = some (.inl (.inl r.1)) ∧ σ.1 = r.2) ∧ K v σ) := by
  obtain ⟨r, r', e, e', -⟩ := prices_eq a1 a2 hG q h
  exact jPM_and (D100 e ⟨r, e, rfl, rfl⟩) hK
theorem Pr196 {d : Nat} {a1 a2 : Int32} {I I1 : jI} {L : jL} {K : jK} (hG : gG aGI I) (q : RD2 I I1) (h : RR I I1) (hK : jPM d 196 [.inr (31, 0), .inl (.inl a1), .inl (.inl a2)] (I1, L) K) : jPM d 196 [.inr (31, 0), .inl (.inl a1), .inl (.inl a2)] (I1, L) (fun v σ => (∃ r, d196 a1 a2 I1 = some r ∧ v = some (.inl (.inl r.1)) ∧ σ.1 = r.2) ∧ K v σ) := by
  obtain ⟨r, r', e, e', -⟩ := prices_eq a1 a2 hG q h
  exact jPM_and (D196 e' ⟨r', e', rfl, rfl⟩) hK
theorem Qr100 {a1 a2 : Int32} {x1 x2 : Int32} {I I1 I2 : jI} (hG : gG aGI I) (q : RD2 I I1) (h : RR I I1) (q1 : ∃ r, d100 a1 a2 I = some r ∧ (some (.inl (.inl x1)) : Option jV) = some (.inl (.inl r.1)) ∧ I1 = r.2) (q2 : ∃ r, d196 a1 a2 I1 = some r ∧ (some (.inl (.inl x2)) : Option jV) = some (.inl (.inl r.1)) ∧ I2 = r.2) : x1 = x2 ∧ RR I1 I2 := by
  obtain ⟨s, c1, c2, c3⟩ := q1
  obtain ⟨r, r', e, e', k, z, -⟩ := prices_eq a1 a2 hG q h
  obtain ⟨s', b1, b2, b3⟩ := q2
  rw [e] at c1
  rw [e'] at b1
  cases c1
  cases b1
  cases c2
  cases b2
  rw [← b3] at z
  rw [← c3] at z
  exact ⟨k, z⟩
end
section
theorem Pa112 {d : Nat} {I : jI} {L : jL} {K : jK} (hG : gG aGI I) (q : RD2 I I) (h : RR I I) (ht : RT2 I I) (hK : jPM d 112 [.inr (0, 0)] (I, L) K) : jPM d 112 [.inr (0, 0)] (I, L) (fun v σ => (∃ r, d112 I = some r ∧ v = some (.inl (.inr r))) ∧ K v σ) := by
  obtain ⟨r, r', e, e', -⟩ := digest_an hG q h ht
  exact jPM_and (D112 e ⟨r, e, rfl⟩) hK
theorem Pa217 {d : Nat} {I I1 : jI} {L : jL} {K : jK} (hG : gG aGI I) (q : RD2 I I1) (h : RR I I1) (ht : RT2 I I1) (hK : jPM d 217 [.inr (31, 0)] (I1, L) K) : jPM d 217 [.inr (31, 0)] (I1, L) (fun v σ => (∃ r, d217 I1 = some r ∧ v = some (.inl (.inr r))) ∧ K v σ) := by
  obtain ⟨r, r', e, e', -⟩ := digest_an hG q h ht
  exact jPM_and (D217 e' ⟨r', e', rfl⟩) hK
theorem Qa112 {x1 x2 : Int64} {I I1 : jI} (hG : gG aGI I) (q : RD2 I I1) (h : RR I I1) (ht : RT2 I I1) (q1 : ∃ r, d112 I = some r ∧ (some (.inl (.inr x1)) : Option jV) = some (.inl (.inr r))) (q2 : ∃ r, d217 I1 = some r ∧ (some (.inl (.inr x2)) : Option jV) = some (.inl (.inr r))) : lg_cmp x1 x2 = 0 := by
  obtain ⟨r, r', e, e', k⟩ := digest_an hG q h ht
  obtain ⟨s, c1, c2⟩ := q1
  obtain ⟨s', b1, b2⟩ := q2
  rw [e] at c1
  rw [e'] at b1
  cases c1
  cases b1
  cases c2
  cases b2
  rw [k, cmp_lg]
  exact cmpI_0.mpr rfl
end
section
theorem RF_gR {W : List aR} {I I' : jI} {L L' : jL} (hw : rApart W rfC = true) (hw' : rApart W rfM = true) (q : RFi I I) (h : gR W I L I' L') : RFi I' I' := RF_cells q (fun g i j z => (h g i j (rApart_of hw z)).1) (fun g i j z => (h g i j (rApart_of hw' z)).1)
theorem RF_mid {W : List aR} {I I' : jI} {L L' : jL} (hw : rApart W rfM = true) (q : RFi I I) (h : gR W I L I' L') : RFi I I' := RF_cells q (fun _ _ _ _ => rfl) (fun g i j z => (h g i j (rApart_of hw z)).1)
theorem RF_end {W : List aR} {I I' : jI} {L L' : jL} (hw : rApart W rfC = true) (q : RFi I I') (h : gR W I L I' L') : RFi I' I' := RF_cells q (fun g i j z => (h g i j (rApart_of hw z)).1) (fun _ _ _ _ => rfl)
theorem RF_fr {W : List Nat} {I I' : jI} (q : RFi I I) (f : fr W I I') (hw : (jel 1013 W || jel 12 W || jel 32013 W || jel 39 W) = false) : RFi I' I' := by
  simp only [Bool.or_eq_false_iff] at hw
  obtain ⟨⟨⟨w1, w2⟩, w3⟩, w4⟩ := hw
  exact RF_g q (f 0 0 13 w1) (fr_arr f (fun _ => rfl) w2) (f 31 0 13 w3) (fr_arr f (fun _ => rfl) w4)
theorem RF_frM {W : List Nat} {I I' : jI} (q : RFi I I) (f : fr W I I') (hw : (jel 32013 W || jel 39 W) = false) : RFi I I' := by
  simp only [Bool.or_eq_false_iff] at hw
  exact RF_g q rfl rfl (f 31 0 13 hw.1) (fr_arr f (fun _ => rfl) hw.2)
theorem RF_frC {W : List Nat} {I I' : jI} (q : RFi I I') (f : fr W I I') (hw : (jel 1013 W || jel 12 W) = false) : RFi I' I' := by
  simp only [Bool.or_eq_false_iff] at hw
  exact RF_g q (f 0 0 13 hw.1) (fr_arr f (fun _ => rfl) hw.2) rfl rfl
theorem Pf74 {d : Nat} {a1 a2 : Int32} {I : jI} {L : jL}  : jPM d 74 [.inr (0, 0), .inl (.inl a1), .inl (.inl a2)] (I, L) (fun v σ => ∃ r, d74 a1 a2 I = some r ∧ v = some (.inl (.inl r.1)) ∧ σ.1 = r.2) := by
  obtain ⟨r, r', e, e', -⟩ := text_rf (I := I) (J := I) a1 a2
  exact D74 e ⟨r, e, rfl, rfl⟩
theorem Pf139 {d : Nat} {a1 a2 : Int32} {I1 : jI} {L : jL}  : jPM d 139 [.inr (31, 0), .inl (.inl a1), .inl (.inl a2)] (I1, L) (fun v σ => ∃ r, d139 a1 a2 I1 = some r ∧ v = some (.inl (.inl r.1)) ∧ σ.1 = r.2) := by
  obtain ⟨r, r', e, e', -⟩ := text_rf (I := I1) (J := I1) a1 a2
  exact D139 e' ⟨r', e', rfl, rfl⟩
theorem Qf74 {a1 a2 : Int32} {x1 x2 : Int32} {I I1 I2 : jI}  (h : RFi I I1) (q1 : ∃ r, d74 a1 a2 I = some r ∧ (some (.inl (.inl x1)) : Option jV) = some (.inl (.inl r.1)) ∧ I1 = r.2) (q2 : ∃ r, d139 a1 a2 I1 = some r ∧ (some (.inl (.inl x2)) : Option jV) = some (.inl (.inl r.1)) ∧ I2 = r.2) : RFi I1 I2 := by
  obtain ⟨s, c1, c2, c3⟩ := q1
  obtain ⟨r, r', e, e', -, z⟩ := text_rf (I := I) (J := I1) a1 a2
  obtain ⟨s', b1, b2, b3⟩ := q2
  rw [e] at c1
  rw [e'] at b1
  cases c1
  cases b1
  have z := z h
  rw [← b3] at z
  rw [← c3] at z
  exact z
theorem Pf75 {d : Nat} {a1 a2 a3 : Int32} {I : jI} {L : jL} (hG : gG aGI I) (ht : RT2 I I) : jPM d 75 [.inr (0, 0), .inl (.inl a1), .inl (.inl a2), .inl (.inl a3)] (I, L) (fun v σ => ∃ r, d75 a1 a2 a3 I = some r ∧ v = some (.inl (.inl r.1)) ∧ σ.1 = r.2) := by
  obtain ⟨r, r', e, e', -⟩ := put_rf a1 a2 a3 hG ht
  exact D75 e ⟨r, e, rfl, rfl⟩
theorem Pf140 {d : Nat} {a1 a2 a3 : Int32} {I I1 : jI} {L : jL} (hG : gG aGI I) (ht : RT2 I I1) : jPM d 140 [.inr (31, 0), .inl (.inl a1), .inl (.inl a2), .inl (.inl a3)] (I1, L) (fun v σ => ∃ r, d140 a1 a2 a3 I1 = some r ∧ v = some (.inl (.inl r.1)) ∧ σ.1 = r.2) := by
  obtain ⟨r, r', e, e', -⟩ := put_rf a1 a2 a3 hG ht
  exact D140 e' ⟨r', e', rfl, rfl⟩
theorem Qf75 {a1 a2 a3 : Int32} {x1 x2 : Int32} {I I1 I2 : jI} (hG : gG aGI I) (ht : RT2 I I1) (h : RFi I I1) (q1 : ∃ r, d75 a1 a2 a3 I = some r ∧ (some (.inl (.inl x1)) : Option jV) = some (.inl (.inl r.1)) ∧ I1 = r.2) (q2 : ∃ r, d140 a1 a2 a3 I1 = some r ∧ (some (.inl (.inl x2)) : Option jV) = some (.inl (.inl r.1)) ∧ I2 = r.2) : RFi I1 I2 := by
  obtain ⟨s, c1, c2, c3⟩ := q1
  obtain ⟨r, r', e, e', -, z⟩ := put_rf a1 a2 a3 hG ht
  obtain ⟨s', b1, b2, b3⟩ := q2
  rw [e] at c1
  rw [e'] at b1
  cases c1
  cases b1
  have z := z h
  rw [← b3] at z
  rw [← c3] at z
  exact z
theorem Pf76 {d : Nat} {a1 : Int32} {I : jI} {L : jL} (hG : gG aGI I) (hGJ : gG aGI I) (ht : RT2 I I) : jPM d 76 [.inr (0, 0), .inl (.inl a1)] (I, L) (fun v σ => ∃ r, d76 a1 I = some r ∧ v = some (.inl (.inl r.1)) ∧ σ.1 = r.2) := by
  obtain ⟨r, r', e, e', -⟩ := fault_rf a1 hG hGJ ht
  exact D76 e ⟨r, e, rfl, rfl⟩
theorem Pf149 {d : Nat} {a1 : Int32} {I I1 : jI} {L : jL} (hG : gG aGI I) (hGJ : gG aGI I1) (ht : RT2 I I1) : jPM d 149 [.inr (31, 0), .inl (.inl a1)] (I1, L) (fun v σ => ∃ r, d149 a1 I1 = some r ∧ v = some (.inl (.inl r.1)) ∧ σ.1 = r.2) := by
  obtain ⟨r, r', e, e', -⟩ := fault_rf a1 hG hGJ ht
  exact D149 e' ⟨r', e', rfl, rfl⟩
theorem Qf76 {a1 : Int32} {x1 x2 : Int32} {I I1 I2 : jI} (hG : gG aGI I) (hGJ : gG aGI I1) (ht : RT2 I I1) (h : RFi I I1) (q1 : ∃ r, d76 a1 I = some r ∧ (some (.inl (.inl x1)) : Option jV) = some (.inl (.inl r.1)) ∧ I1 = r.2) (q2 : ∃ r, d149 a1 I1 = some r ∧ (some (.inl (.inl x2)) : Option jV) = some (.inl (.inl r.1)) ∧ I2 = r.2) : RFi I1 I2 := by
  obtain ⟨s, c1, c2, c3⟩ := q1
  obtain ⟨r, r', e, e', -, z⟩ := fault_rf a1 hG hGJ ht
  obtain ⟨s', b1, b2, b3⟩ := q2
  rw [e] at c1
  rw [e'] at b1
  cases c1
  cases b1
  have z := z h
  rw [← b3] at z
  rw [← c3] at z
  exact z
theorem Pf79 {d : Nat} {a1 a2 : Int32} {I : jI} {L : jL} (hG : gG aGI I) (q : RD2 I I) : jPM d 79 [.inr (0, 0), .inl (.inl a1), .inl (.inl a2)] (I, L) (fun v σ => ∃ r, d79 a1 a2 I = some r ∧ v = some (.inl (.inl r.1)) ∧ σ.1 = r.2) := by
  obtain ⟨r, r', e, e', -⟩ := mark_rf a1 a2 hG q
  exact D79 e ⟨r, e, rfl, rfl⟩
theorem Pf160 {d : Nat} {a1 a2 : Int32} {I I1 : jI} {L : jL} (hG : gG aGI I) (q : RD2 I I1) : jPM d 160 [.inr (31, 0), .inl (.inl a1), .inl (.inl a2)] (I1, L) (fun v σ => ∃ r, d160 a1 a2 I1 = some r ∧ v = some (.inl (.inl r.1)) ∧ σ.1 = r.2) := by
  obtain ⟨r, r', e, e', -⟩ := mark_rf a1 a2 hG q
  exact D160 e' ⟨r', e', rfl, rfl⟩
theorem Qf79 {a1 a2 : Int32} {x1 x2 : Int32} {I I1 I2 : jI} (hG : gG aGI I) (q : RD2 I I1) (h : RFi I I1) (q1 : ∃ r, d79 a1 a2 I = some r ∧ (some (.inl (.inl x1)) : Option jV) = some (.inl (.inl r.1)) ∧ I1 = r.2) (q2 : ∃ r, d160 a1 a2 I1 = some r ∧ (some (.inl (.inl x2)) : Option jV) = some (.inl (.inl r.1)) ∧ I2 = r.2) : RFi I1 I2 := by
  obtain ⟨s, c1, c2, c3⟩ := q1
  obtain ⟨r, r', e, e', -, z⟩ := mark_rf a1 a2 hG q
  obtain ⟨s', b1, b2, b3⟩ := q2
  rw [e] at c1
  rw [e'] at b1
  cases c1
  cases b1
  have z := z h
  rw [← b3] at z
  rw [← c3] at z
  exact z
theorem Qf77 {a1 : Int32} {x1 x2 : Int32} {I I1 I2 : jI} (hG : gG aGI I) (hGJ : gG aGI I1) (ht : RT2 I I1) (h : RFi I I1) (q1 : ∃ r, d77 a1 I = some r ∧ (some (.inl (.inl x1)) : Option jV) = some (.inl (.inl r.1)) ∧ I1 = r.2) (q2 : ∃ r, d150 a1 I1 = some r ∧ (some (.inl (.inl x2)) : Option jV) = some (.inl (.inl r.1)) ∧ I2 = r.2) : RFi I1 I2 := by
  obtain ⟨s, c1, c2, c3⟩ := q1
  obtain ⟨r, r', e, e', -, z⟩ := house_rf a1 hG hGJ ht
  obtain ⟨s', b1, b2, b3⟩ := q2
  rw [e] at c1
  rw [e'] at b1
  cases c1
  cases b1
  have z := z h
  rw [← b3] at z
  rw [← c3] at z
  exact z
theorem Qf88 {a1 : Int32} {x1 x2 : Int32} {I I1 I2 : jI} (hG : gG aGI I) (q : RD2 I I1) (h : RFi I I1) (q1 : ∃ r, d88 a1 I = some r ∧ (some (.inl (.inl x1)) : Option jV) = some (.inl (.inl r.1)) ∧ I1 = r.2) (q2 : ∃ r, d176 a1 I1 = some r ∧ (some (.inl (.inl x2)) : Option jV) = some (.inl (.inl r.1)) ∧ I2 = r.2) : RFi I1 I2 := by
  obtain ⟨s, c1, c2, c3⟩ := q1
  obtain ⟨r, r', e, e', -, z⟩ := on_rf a1 hG q
  obtain ⟨s', b1, b2, b3⟩ := q2
  rw [e] at c1
  rw [e'] at b1
  cases c1
  cases b1
  have z := z h
  rw [← b3] at z
  rw [← c3] at z
  exact z
theorem Qs68 {a1 a2 : Int32} {x1 x2 : Int32} {I I1 I2 : jI} (hG : gG aGI I) (q : RD2 I I1) (h : RR I I1) (hf : RFi I I1) (q1 : ∃ r, d68 a1 a2 I = some r ∧ (some (.inl (.inl x1)) : Option jV) = some (.inl (.inl r.1)) ∧ I1 = r.2) (q2 : ∃ r, d130 a1 a2 I1 = some r ∧ (some (.inl (.inl x2)) : Option jV) = some (.inl (.inl r.1)) ∧ I2 = r.2) : RFi I1 I2 := by
  obtain ⟨s, c1, c2, c3⟩ := q1
  obtain ⟨r, r', e, e', -, -, z⟩ := row_eq a1 a2 h
  obtain ⟨s', b1, b2, b3⟩ := q2
  rw [e] at c1
  rw [e'] at b1
  cases c1
  cases b1
  have z := z hf
  rw [← b3] at z
  rw [← c3] at z
  exact z
theorem Qs69 {a1 a2 a3 : Int32} {x1 x2 : Int32} {I I1 I2 : jI} (hG : gG aGI I) (q : RD2 I I1) (h : RR I I1) (hf : RFi I I1) (q1 : ∃ r, d69 a1 a2 a3 I = some r ∧ (some (.inl (.inl x1)) : Option jV) = some (.inl (.inl r.1)) ∧ I1 = r.2) (q2 : ∃ r, d133 a1 a2 a3 I1 = some r ∧ (some (.inl (.inl x2)) : Option jV) = some (.inl (.inl r.1)) ∧ I2 = r.2) : RFi I1 I2 := by
  obtain ⟨s, c1, c2, c3⟩ := q1
  obtain ⟨r, r', e, e', -, -, z⟩ := lay_eq a1 a2 a3 hG h
  obtain ⟨s', b1, b2, b3⟩ := q2
  rw [e] at c1
  rw [e'] at b1
  cases c1
  cases b1
  have z := z hf
  rw [← b3] at z
  rw [← c3] at z
  exact z
theorem Qs70 {a1 a2 : Int32} {x1 x2 : Int32} {I I1 I2 : jI} (hG : gG aGI I) (q : RD2 I I1) (h : RR I I1) (hf : RFi I I1) (q1 : ∃ r, d70 a1 a2 I = some r ∧ (some (.inl (.inl x1)) : Option jV) = some (.inl (.inl r.1)) ∧ I1 = r.2) (q2 : ∃ r, d134 a1 a2 I1 = some r ∧ (some (.inl (.inl x2)) : Option jV) = some (.inl (.inl r.1)) ∧ I2 = r.2) : RFi I1 I2 := by
  obtain ⟨s, c1, c2, c3⟩ := q1
  obtain ⟨r, r', e, e', -, -, z⟩ := at_eq a1 a2 hG h
  obtain ⟨s', b1, b2, b3⟩ := q2
  rw [e] at c1
  rw [e'] at b1
  cases c1
  cases b1
  have z := z hf
  rw [← b3] at z
  rw [← c3] at z
  exact z
theorem Qs71 {a1 : Int32} {x1 x2 : Int32} {I I1 I2 : jI} (hG : gG aGI I) (q : RD2 I I1) (h : RR I I1) (hf : RFi I I1) (q1 : ∃ r, d71 a1 I = some r ∧ (some (.inl (.inl x1)) : Option jV) = some (.inl (.inl r.1)) ∧ I1 = r.2) (q2 : ∃ r, d135 a1 I1 = some r ∧ (some (.inl (.inl x2)) : Option jV) = some (.inl (.inl r.1)) ∧ I2 = r.2) : RFi I1 I2 := by
  obtain ⟨s, c1, c2, c3⟩ := q1
  obtain ⟨r, r', e, e', -, -, z⟩ := tear_eq a1 hG h
  obtain ⟨s', b1, b2, b3⟩ := q2
  rw [e] at c1
  rw [e'] at b1
  cases c1
  cases b1
  have z := z hf
  rw [← b3] at z
  rw [← c3] at z
  exact z
theorem Qs72 {a1 a2 a3 a4 a5 : Int32} {x1 x2 : Int32} {I I1 I2 : jI} (hG : gG aGI I) (q : RD2 I I1) (h : RR I I1) (hf : RFi I I1) (q1 : ∃ r, d72 a1 a2 a3 a4 a5 I = some r ∧ (some (.inl (.inl x1)) : Option jV) = some (.inl (.inl r.1)) ∧ I1 = r.2) (q2 : ∃ r, d137 a1 a2 a3 a4 a5 I1 = some r ∧ (some (.inl (.inl x2)) : Option jV) = some (.inl (.inl r.1)) ∧ I2 = r.2) : RFi I1 I2 := by
  obtain ⟨s, c1, c2, c3⟩ := q1
  obtain ⟨r, r', e, e', -, -, z⟩ := copy_eq a1 a2 a3 a4 a5 hG h
  obtain ⟨s', b1, b2, b3⟩ := q2
  rw [e] at c1
  rw [e'] at b1
  cases c1
  cases b1
  have z := z hf
  rw [← b3] at z
  rw [← c3] at z
  exact z
theorem Qs73 {a1 : Int32} {x1 x2 : Int32} {I I1 I2 : jI} (hG : gG aGI I) (q : RD2 I I1) (h : RR I I1) (hf : RFi I I1) (q1 : ∃ r, d73 a1 I = some r ∧ (some (.inl (.inl x1)) : Option jV) = some (.inl (.inl r.1)) ∧ I1 = r.2) (q2 : ∃ r, d138 a1 I1 = some r ∧ (some (.inl (.inl x2)) : Option jV) = some (.inl (.inl r.1)) ∧ I2 = r.2) : RFi I1 I2 := by
  obtain ⟨s, c1, c2, c3⟩ := q1
  obtain ⟨r, r', e, e', -, -, z⟩ := mean_eq a1 hG h
  obtain ⟨s', b1, b2, b3⟩ := q2
  rw [e] at c1
  rw [e'] at b1
  cases c1
  cases b1
  have z := z hf
  rw [← b3] at z
  rw [← c3] at z
  exact z
theorem Qs99 {a1 a2 : Int32} {x1 x2 : Int32} {I I1 I2 : jI} (hG : gG aGI I) (q : RD2 I I1) (h : RR I I1) (hf : RFi I I1) (q1 : ∃ r, d99 a1 a2 I = some r ∧ (some (.inl (.inl x1)) : Option jV) = some (.inl (.inl r.1)) ∧ I1 = r.2) (q2 : ∃ r, d195 a1 a2 I1 = some r ∧ (some (.inl (.inl x2)) : Option jV) = some (.inl (.inl r.1)) ∧ I2 = r.2) : RFi I1 I2 := by
  obtain ⟨s, c1, c2, c3⟩ := q1
  obtain ⟨r, r', e, e', -, -, z⟩ := kinds_eq a1 a2 hG q h
  obtain ⟨s', b1, b2, b3⟩ := q2
  rw [e] at c1
  rw [e'] at b1
  cases c1
  cases b1
  have z := z hf
  rw [← b3] at z
  rw [← c3] at z
  exact z
theorem Qs100 {a1 a2 : Int32} {x1 x2 : Int32} {I I1 I2 : jI} (hG : gG aGI I) (q : RD2 I I1) (h : RR I I1) (hf : RFi I I1) (q1 : ∃ r, d100 a1 a2 I = some r ∧ (some (.inl (.inl x1)) : Option jV) = some (.inl (.inl r.1)) ∧ I1 = r.2) (q2 : ∃ r, d196 a1 a2 I1 = some r ∧ (some (.inl (.inl x2)) : Option jV) = some (.inl (.inl r.1)) ∧ I2 = r.2) : RFi I1 I2 := by
  obtain ⟨s, c1, c2, c3⟩ := q1
  obtain ⟨r, r', e, e', -, -, z⟩ := prices_eq a1 a2 hG q h
  obtain ⟨s', b1, b2, b3⟩ := q2
  rw [e] at c1
  rw [e'] at b1
  cases c1
  cases b1
  have z := z hf
  rw [← b3] at z
  rw [← c3] at z
  exact z
theorem RT2_fr {W : List Nat} {I I' : jI} (h : RT I) (f : fr W I I') (hw : (jel 37 W || jel 38 W) = false) : RT2 I I' := by
  simp only [Bool.or_eq_false_iff] at hw
  refine ⟨fun t ht => ?_, fun t j ht hj => ?_⟩
  · rw [fr_arr f (g := 37) (fun _ => rfl) hw.1]; exact h.1 t ht
  · rw [fr_arr f (g := 38) (fun _ => rfl) hw.2]; exact h.2 t j ht hj
end
