noncomputable def rdW : List aR := [(31, (0, 0), (15, 21)), (40, (0, 0), (0, 23))]
noncomputable def rP (I : Nat → Nat → Nat → Int32) : Prop := ∀ j : Nat, (j : Int) < (I 31 0 21).toInt → 0 ≤ (I 40 0 (4 * j + 3)).toInt ∧ (I 40 0 (4 * j + 3)).toInt ≤ 9
theorem gR_31 {I0 I : Nat → Nat → Nat → Int32} {L0 L : Nat → Nat → Nat → Int64} {j : Nat} {x : Int32} (h : gR rdW I0 L0 I L) (h1 : 15 ≤ j) (h2 : j ≤ 21) : gR rdW I0 L0 (jup I 31 0 j x) L := gR_upI h ⟨(31, (0, 0), (15, 21)), List.mem_cons_self, rfl, by simp, by simp, by simp; omega, by simp; omega⟩
theorem gR_40 {I0 I : Nat → Nat → Nat → Int32} {L0 L : Nat → Nat → Nat → Int64} {j : Nat} {x : Int32} (h : gR rdW I0 L0 I L) (h2 : j ≤ 23) : gR rdW I0 L0 (jup I 40 0 j x) L := gR_upI h ⟨(40, (0, 0), (0, 23)), List.mem_cons_of_mem _ List.mem_cons_self, rfl, by simp, by simp, by simp, by simp; omega⟩
theorem gR_oP {I0 I I' : Nat → Nat → Nat → Int32} {L0 L : Nat → Nat → Nat → Int64} (h : gR rdW I0 L0 I L) (o : oP I I') : gR rdW I0 L0 I' L := fun g i j hn => by
  rw [o.1 g i j (fun q => hn ?_)]
  · exact h g i j hn
  · rw [q.1, q.2.1, q.2.2]
    exact ⟨(31, (0, 0), (15, 21)), List.mem_cons_self, rfl, by simp, by simp, by simp, by simp⟩
theorem rP_oP {I I' : Nat → Nat → Nat → Int32} (h : rP I) (o : oP I I') : rP I' := fun j hj => by
  rw [o.1 31 0 21 (by decide)] at hj
  rw [o.1 40 0 (4 * j + 3) (fun q => absurd q.1 (by decide))]
  exact h j hj
/-- what the reader keeps: bounds, frame, place, packets read -/
noncomputable def rI (I0 : Nat → Nat → Nat → Int32) (L0 : Nat → Nat → Nat → Int64) (I : Nat → Nat → Nat → Int32) (L : Nat → Nat → Nat → Int64) : Prop := gG aGI I ∧ gR rdW I0 L0 I L ∧ rd I ∧ rP I
theorem rI_oP {I0 I I' : Nat → Nat → Nat → Int32} {L0 L : Nat → Nat → Nat → Int64} (h : rI I0 L0 I L) (o : oP I I') : rI I0 L0 I' L := ⟨oP_gG h.1 o, gR_oP h.2.1 o, oP_rd h.2.2.1 o, rP_oP h.2.2.2 o⟩
theorem rI_18 {I0 I : Nat → Nat → Nat → Int32} {L0 L : Nat → Nat → Nat → Int64} {x : Int32} (h : rI I0 L0 I L) : rI I0 L0 (jup I 31 0 18 x) L := ⟨gG_upn h.1 (by decide), gR_31 h.2.1 (by decide) (by decide), h.2.2.1, h.2.2.2⟩
theorem rI_19 {I0 I : Nat → Nat → Nat → Int32} {L0 L : Nat → Nat → Nat → Int64} {x : Int32} (h : rI I0 L0 I L) : rI I0 L0 (jup I 31 0 19 x) L := ⟨gG_upn h.1 (by decide), gR_31 h.2.1 (by decide) (by decide), h.2.2.1, h.2.2.2⟩
set_option maxHeartbeats 1000000 in
theorem hd_readsNeed {d : Nat} (hd : 4 ≤ d) {I0 I : Nat → Nat → Nat → Int32} {L0 L : Nat → Nat → Nat → Int64} {k : jK} (h : rI I0 L0 I L) (hk : ∀ I' v, rI I0 L0 I' L → (v = 0 ∨ v = 1) → k (some (.inl (.inl v))) (I', L)) : jWPM d 145 [.inr (31, 0)] (I, L) k := by
  obtain ⟨d, rfl⟩ : ∃ d', d = d' + 1 := ⟨d - 1, by omega⟩
  have hd : 3 ≤ d := by omega
  refine jWB_run [] 60 ?_
  conv => whnf
  refine hd_skip (Nat.le_trans (by decide) hd) h.2.2.1 (fun I1 o1 => ?_)
  have h1 := rI_oP h o1
  have hr := h1.2.2.1
  obtain ⟨r1, r2, r3, r4, r5⟩ := hr
  conv => whnf
  refine ⟨fun q => ⟨Or.inl rfl, hk _ _ h1 (Or.inl rfl)⟩, fun q => ?_⟩
  have hne : (I1 31 0 16).toInt ≠ (I1 31 0 17).toInt := fun e => q (Int32.toInt_inj.mp e)
  conv => whnf
  refine hd_here (Nat.le_trans (by decide) hd) h1.2.2.1 (by omega) ?_
  conv => whnf
  refine ⟨fun q => ?_, fun q => ⟨Or.inl rfl, hk _ _ h1 (Or.inl rfl)⟩⟩
  have e : (I1 31 0 16 + 1).toInt = (I1 31 0 16).toInt + 1 := by rw [i32_add (by simp; omega)]; simp
  have h2 := rI_oP h1 (oP_up (x := I1 31 0 16 + 1) (by omega) (by omega))
  conv => whnf
  refine hd_figure (Nat.le_trans (by decide) hd) h2.2.2.1 (by decide) (by decide) (by decide) (by decide) (fun I3 v o3 hv => ?_)
  have h3 := rI_18 (x := v) (rI_oP h2 o3)
  conv => whnf
  refine ⟨fun q => ?_, fun q => ?_⟩
  · conv => whnf
    refine hd_twoFigures (Nat.le_trans (by decide) hd) h3.2.2.1 (fun I4 v o4 => ?_)
    have h4 := rI_19 (x := v) (rI_oP h3 o4)
    conv => whnf
    exact ⟨fun q => ⟨Or.inl rfl, hk _ _ h4 (Or.inl rfl)⟩, fun q => ⟨Or.inr rfl, hk _ _ h4 (Or.inr rfl)⟩⟩
  · conv => whnf
    have h4 := rI_19 (x := -9) h3
    exact ⟨fun q => ⟨Or.inl rfl, hk _ _ h4 (Or.inl rfl)⟩, fun q => ⟨Or.inr rfl, hk _ _ h4 (Or.inr rfl)⟩⟩
theorem gi_many {I : Nat → Nat → Nat → Int32} (h : gG aGI I) : 0 ≤ (I 31 0 21).toInt ∧ (I 31 0 21).toInt ≤ 6 := h (31, (0, 0), (21, 21), (0, 6)) (by decide) 0 21 (by decide) (by decide) (by decide) (by decide)
theorem rI_40 {I0 I : Nat → Nat → Nat → Int32} {L0 L : Nat → Nat → Nat → Int64} {j : Nat} {x : Int32} (h : rI I0 L0 I L) (h1 : 4 * (I 31 0 21).toInt ≤ (j : Int)) (h2 : j ≤ 23) : rI I0 L0 (jup I 40 0 j x) L := ⟨gG_up h.1 (by decide), gR_40 h.2.1 h2, h.2.2.1, fun i hi => by
  have hi : (i : Int) < (I 31 0 21).toInt := hi
  rw [jup_of (fun q => by omega)]
  exact h.2.2.2 i hi⟩
set_option maxHeartbeats 2000000 in
theorem hd_readsPacket {d : Nat} (hd : 4 ≤ d) {I0 I : Nat → Nat → Nat → Int32} {L0 L : Nat → Nat → Nat → Int64} {k : jK} (h : rI I0 L0 I L) (hp : (I 31 0 16).toInt < (I 31 0 17).toInt) (hk : ∀ I' v, rI I0 L0 I' L → (v = 0 ∨ (v = 1 ∧ (I' 31 0 17).toInt - (I' 31 0 16).toInt < (I 31 0 17).toInt - (I 31 0 16).toInt)) → k (some (.inl (.inl v))) (I', L)) : jWPM d 147 [.inr (31, 0)] (I, L) k := by
  obtain ⟨d, rfl⟩ : ∃ d', d = d' + 1 := ⟨d - 1, by omega⟩
  have hd : 3 ≤ d := by omega
  have hr := h.2.2.1
  obtain ⟨r1, r2, r3, r4, r5⟩ := hr
  have hm := gi_many h.1
  have eb : (4 * I 31 0 21).toInt = 4 * (I 31 0 21).toInt := by rw [i32_mul (by simp; omega)]; simp
  refine jWB_run [67] 60 ?_
  conv => whnf
  refine hd_here (Nat.le_trans (by decide) hd) h.2.2.1 (by omega) ?_
  conv => whnf
  refine use_c cT133 (Nat.le_trans (by decide) hd) ⟨⟨rfl, (i32_rng _).1, (i32_rng _).2⟩, trivial⟩ h.1 (fun v I' L' g1 g2 g3 => ?_)
  obtain ⟨rfl, rfl⟩ := gR_nil g2
  obtain ⟨kd, rfl, -, -⟩ := g3
  conv => whnf
  refine ⟨fun q => ⟨Or.inl rfl, hk _ _ h (Or.inl rfl)⟩, fun q => ?_⟩
  conv => whnf
  refine ⟨fun q6 => ?_, fun q => ⟨Or.inl rfl, hk _ _ h (Or.inl rfl)⟩⟩
  have hm6 : (I' 31 0 21).toInt ≠ 6 := fun e => q6 (i32_of e 6 rfl)
  have e : (I' 31 0 16 + 1).toInt = (I' 31 0 16).toInt + 1 := by rw [i32_add (by simp; omega)]; simp
  have o1 : oP I' (jup I' 31 0 16 (I' 31 0 16 + 1)) := oP_up (by omega) (by omega)
  have h1 := rI_oP h o1
  have m1 : (I' 31 0 16).toInt + 1 ≤ (jup I' 31 0 16 (I' 31 0 16 + 1) 31 0 16).toInt := by show _ ≤ (I' 31 0 16 + 1).toInt; omega
  conv => whnf
  revert m1 o1 h1
  generalize jup I' 31 0 16 (I' 31 0 16 + 1) = J1
  intro o1 h1 m1
  refine hd_figure (Nat.le_trans (by decide) hd) h1.2.2.1 (by decide) (by decide) (by decide) (by decide) (fun J2 gr o2 hv => ?_)
  have keepq : ∀ (J : Nat → Nat → Nat → Int32) (pr : Int32), oP J2 J → jWB (jWPM d) k none (jco 147) (67, [some (.inr (31, 0)), some (.inl (.inl (4 * I' 31 0 21))), some (.inl (.inl kd)), some (.inl (.inl gr)), some (.inl (.inl pr)), none], [], J, L') := by
    intro J pr oJ
    have o3 := oP_tr o1 (oP_tr o2 oJ)
    have h3 := rI_oP h o3
    have last : ∀ (J' : Nat → Nat → Nat → Int32) (ke : Int32), oP J J' → (ke = -9 ∨ (1 ≤ ke.toInt ∧ ke.toInt ≤ 9)) → jWB (jWPM d) k none (jco 147) (88, [some (.inr (31, 0)), some (.inl (.inl (4 * I' 31 0 21))), some (.inl (.inl kd)), some (.inl (.inl gr)), some (.inl (.inl pr)), some (.inl (.inl ke))], [], J', L') := by
      intro J' ke oJ' hke
      have o4 := oP_tr o3 oJ'
      have h4 := rI_oP h o4
      refine jWB_run [] 60 ?_
      conv => whnf
      refine ⟨fun q => ?_, fun q => ⟨Or.inl rfl, hk _ _ h4 (Or.inl rfl)⟩⟩
      have hke := hke.resolve_left q
      have em : J' 31 0 21 = I' 31 0 21 := o4.1 31 0 21 (by decide)
      have e17 : J' 31 0 17 = I' 31 0 17 := o4.1 31 0 17 (by decide)
      have hpl : (I' 31 0 16).toInt + 1 ≤ (J' 31 0 16).toInt := by
        have := o2.2.1; have := oJ.2.1; have := oJ'.2.1; omega
      have ib : (4 * I' 31 0 21).toNatClampNeg = 4 * (I' 31 0 21).toInt.toNat := by have := cl_t (x := 4 * I' 31 0 21) (by omega); omega
      have ib1 : (4 * I' 31 0 21 + 1).toInt = 4 * (I' 31 0 21).toInt + 1 := by rw [i32_add (by rw [eb]; simp; omega), eb]; simp
      have ib2 : (4 * I' 31 0 21 + 2).toInt = 4 * (I' 31 0 21).toInt + 2 := by rw [i32_add (by rw [eb]; simp; omega), eb]; simp
      have ib3 : (4 * I' 31 0 21 + 3).toInt = 4 * (I' 31 0 21).toInt + 3 := by rw [i32_add (by rw [eb]; simp; omega), eb]; simp
      have n1 : (4 * I' 31 0 21 + 1).toNatClampNeg = 4 * (I' 31 0 21).toInt.toNat + 1 := by have := cl_t (x := 4 * I' 31 0 21 + 1) (by omega); omega
      have n2 : (4 * I' 31 0 21 + 2).toNatClampNeg = 4 * (I' 31 0 21).toInt.toNat + 2 := by have := cl_t (x := 4 * I' 31 0 21 + 2) (by omega); omega
      have n3 : (4 * I' 31 0 21 + 3).toNatClampNeg = 4 * (I' 31 0 21).toInt.toNat + 3 := by have := cl_t (x := 4 * I' 31 0 21 + 3) (by omega); omega
      conv => whnf
      refine ⟨vp_in_iff.mpr (by omega), ?_⟩
      conv => whnf
      refine ⟨vp_in_iff.mpr (by omega), ?_⟩
      conv => whnf
      refine ⟨vp_in_iff.mpr (by omega), ?_⟩
      conv => whnf
      refine ⟨vp_in_iff.mpr (by omega), ?_⟩
      conv => whnf
      rw [ib, n1, n2, n3]
      refine ⟨Or.inr rfl, ?_⟩
      have hem : (J' 31 0 21).toInt = (I' 31 0 21).toInt := by rw [em]
      have w1 := rI_40 (j := 4 * (I' 31 0 21).toInt.toNat) (x := kd) h4 (by omega) (by omega)
      have w2 := rI_40 (j := 4 * (I' 31 0 21).toInt.toNat + 1) (x := gr) w1 (by show 4 * (J' 31 0 21).toInt ≤ _; omega) (by omega)
      have w3 := rI_40 (j := 4 * (I' 31 0 21).toInt.toNat + 2) (x := pr) w2 (by show 4 * (J' 31 0 21).toInt ≤ _; omega) (by omega)
      have w4 := rI_40 (j := 4 * (I' 31 0 21).toInt.toNat + 3) (x := ke) w3 (by show 4 * (J' 31 0 21).toInt ≤ _; omega) (by omega)
      have em1 : (J' 31 0 21 + 1).toInt = (I' 31 0 21).toInt + 1 := by rw [em, i32_add (by simp; omega)]; simp
      refine hk _ _ ⟨gG_up1 w4.1 ?_, gR_31 w4.2.1 (by decide) (by decide), w4.2.2.1, ?_⟩ (Or.inr ⟨rfl, ?_⟩)
      · have hx : 0 ≤ (J' 31 0 21 + 1).toInt ∧ (J' 31 0 21 + 1).toInt ≤ 6 := by omega
        revert hx
        show 0 ≤ (J' 31 0 21 + 1).toInt ∧ (J' 31 0 21 + 1).toInt ≤ 6 → ∀ e ∈ aGI, e.1 = 31 → e.2.2.1.1 ≤ 21 → 21 ≤ e.2.2.1.2 → e.2.2.2.1 ≤ (J' 31 0 21 + 1).toInt ∧ (J' 31 0 21 + 1).toInt ≤ e.2.2.2.2
        generalize (J' 31 0 21 + 1).toInt = z
        intro hx e he a b c
        have : ∀ e ∈ aGI, e.1 = 31 → e.2.2.1.1 ≤ 21 → 21 ≤ e.2.2.1.2 → e.2.2.2 = (0, 6) := by decide
        rw [this e he a b c]; exact hx
      · intro i hi
        have hi : (i : Int) < (J' 31 0 21 + 1).toInt := hi
        by_cases c : i = (I' 31 0 21).toInt.toNat
        · subst c
          have : ∀ (A : Nat → Nat → Nat → Int32) (y : Int32), jup (jup A 40 0 (4 * (I' 31 0 21).toInt.toNat + 3) ke) 31 0 21 y 40 0 (4 * (I' 31 0 21).toInt.toNat + 3) = ke := fun A y => by simp [jup]
          rw [this]; omega
        · exact w4.2.2.2 i (by show (i : Int) < (J' 31 0 21).toInt; omega)
      · show (J' 31 0 17).toInt - (J' 31 0 16).toInt < _
        rw [e17]; omega
    refine jWB_run [88] 60 ?_
    conv => whnf
    refine ⟨fun q => ?_, fun q => last J (-9) (oP_rf (oP_rd h.2.2.1 o3)) (Or.inl rfl)⟩
    conv => whnf
    refine hd_figure (Nat.le_trans (by decide) hd) h3.2.2.1 (by decide) (by decide) (by decide) (by decide) (fun J4 ke o4 hv => ?_)
    exact last J4 ke o4 hv
  conv => whnf
  refine ⟨fun q => ?_, fun q => ?_⟩
  · conv => whnf
    refine hd_twoFigures (Nat.le_trans (by decide) hd) (oP_rd h1.2.2.1 o2) (fun J3 pr o3 => ?_)
    exact keepq J3 pr o3
  · exact keepq J2 (-9) (oP_rf (oP_rd h1.2.2.1 o2))
