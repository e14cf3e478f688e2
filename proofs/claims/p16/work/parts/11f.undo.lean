theorem lg_parts {x : Int32} (h : lgOK x) : (x / 1000).toInt = x.toInt / 1000 ∧ (x / 100 - x / 100 / 10 * 10).toInt = x.toInt / 100 % 10 ∧ (x - x / 100 * 100).toInt = x.toInt % 100 := by
  obtain ⟨h0, h1, -⟩ := h
  have c1 : (1000 : Int32).toInt = 1000 := rfl
  have c2 : (100 : Int32).toInt = 100 := rfl
  have c3 : (10 : Int32).toInt = 10 := rfl
  have e1 : (x / 100).toInt = x.toInt / 100 := by rw [td32 (by decide), c2, Int.tdiv_eq_ediv_of_nonneg h0]
  refine ⟨?_, ?_, ?_⟩
  · rw [td32 (by decide), c1, Int.tdiv_eq_ediv_of_nonneg h0]
  · rw [tm32 (by decide), c3, e1, Int.tmod_eq_emod_of_nonneg (by omega)]
  · rw [tm32 (by decide), c2, Int.tmod_eq_emod_of_nonneg h0]
theorem lg_same {x : Int32} (h : lgOK x) : x / 1000 * 1000 + (x / 100 - x / 100 / 10 * 10) * 100 + (x - x / 100 * 100) = x := by
  obtain ⟨e1, e2, e3⟩ := lg_parts h
  obtain ⟨h0, h1, h2⟩ := h
  refine Int32.toInt_inj.mp ?_
  rw [code_t (by rw [e1]; omega) (by rw [e1]; omega) (by rw [e2]; omega) (by rw [e2]; omega) (by rw [e3]; omega) (by rw [e3]; omega), e1, e2, e3]
  omega
noncomputable def uI (I J : Nat → Nat → Nat → Int32) (n : Nat) : Prop := (J 4 1 15).toInt = (n : Int) ∧ (∀ e : Nat, J 22 1 e = I 22 1 e) ∧ (∀ i : Nat, i ≤ 5 → (J 19 1 i).toInt + cnt (I 22 1) i n = (I 19 0 i).toInt) ∧ (∀ g x j : Nat, x ≠ 1 → J g x j = I g x j)
theorem jJ_undo {I J : Nat → Nat → Nat → Int32} {n : Nat} (hG : gG aGI I) (h : jJ I) (hu : uI I J n) (hn : (n : Int) ≤ (I 4 1 15).toInt) : jJ J := by
  obtain ⟨u1, u2, u3, u4⟩ := hu
  refine ⟨?_, ?_, ⟨fun e he => ?_, fun i hi => ?_⟩, fun k hk q => ?_⟩
  · rw [u4 _ _ _ (by decide)]; exact h.1
  · rw [u4 _ _ _ (by decide)]; exact h.2.1
  · rw [u1] at he
    rw [u2]
    exact h.2.2.1.1 e (by omega)
  · rw [u1, u4 19 0 i (by decide), ← u3 i hi, cnt_ext (lg' := I 22 1) (fun e _ => u2 e)]
    rfl
  · rw [u4 _ _ _ (by decide)] at q
    exact hJ_cells (gi_deeds hG (by omega)).2 (h.2.2.2 k hk q) (u4 _ _ _ (by omega)) (fun e _ => u4 _ _ _ (by omega)) (fun e _ => u4 _ _ _ (by omega)) (fun e _ => u4 _ _ _ (by omega))
theorem uI_next {I J J' : Nat → Nat → Nat → Int32} {L L' : Nat → Nat → Nat → Int64} {n : Nat} (hu : uI I J n) (hg : lgOK (I 22 1 n)) (hR : gR pfW J L J' L') (hp : pfP J J' (I 22 1 n / 1000) (I 22 1 n / 100 - I 22 1 n / 100 / 10 * 10) (I 22 1 n - I 22 1 n / 100 * 100)) : uI I J' (n + 1) := by
  obtain ⟨u1, u2, u3, u4⟩ := hu
  obtain ⟨p1, p2, p3, p4⟩ := hp
  have hs := lg_same hg
  obtain ⟨e1, e2, e3⟩ := lg_parts hg
  have hc := code_ok (dd := I 22 1 n / 1000) (i := I 22 1 n / 100 - I 22 1 n / 100 / 10 * 10) (v := I 22 1 n - I 22 1 n / 100 * 100) (by rw [e1]; have := hg.1; omega) (by rw [e1]; have := hg.2.1; omega) (by rw [e2]; have := hg.1; omega) (by rw [e2]; have := hg.2.2; omega) (by rw [e3]; have := hg.1; omega) (by rw [e3]; have := hg.1; omega)
  rw [hs] at hc
  have nn : (J 4 1 15).toNatClampNeg = n := by
    have := cl_t (x := J 4 1 15) (by omega)
    omega
  refine ⟨by rw [p2, u1]; simp, fun e => ?_, fun i hi => ?_, fun g x j hx => ?_⟩
  · rw [p3 e, hs]
    by_cases q : e = (J 4 1 15).toNatClampNeg
    · rw [if_pos q, q, nn]
    · rw [if_neg q, u2 e]
  · show (J' 19 1 i).toInt + (cnt (I 22 1) i n + shr (I 22 1 n) i) = _
    rw [p4 i, hc.2 i, ← u3 i hi]
    omega
  · rw [← u4 g x j hx]
    exact (hR g x j (fun ⟨r, hr, q1, q2, q3, q4⟩ => by
      have : ∀ r ∈ pfW, r.2.1 = (1, 1) := by decide
      rw [this r hr] at q2 q3
      omega)).1
theorem uI_gram {I J : Nat → Nat → Nat → Int32} {n : Nat} (hG : gG aGI I) (h : jJ I) (hu : uI I J n) (hn : (n : Int) < (I 4 1 15).toInt) {i : Nat} (hi : i ≤ 5) (hs : shr (I 22 1 n) i = 1) : 1 ≤ (J 19 1 i).toInt := by
  have h1 := hu.2.2.1 i hi
  have h2 := h.2.2.1.2 i hi
  have h3 := cnt_ge (I 22 1) i (n + 1) (I 4 1 15).toInt.toNat (by omega)
  have h4 := (gi_grams hG (x := 1) (j := i) (by omega) hi).1
  have h5 : cnt (I 22 1) i (n + 1) = cnt (I 22 1) i n + shr (I 22 1 n) i := rfl
  omega
set_option maxHeartbeats 1000000 in
theorem hd_doAgain {d : Nat} (hd : 8 ≤ d) {n : Int32} {I : Nat → Nat → Nat → Int32} {L : Nat → Nat → Nat → Int64} {k : jK} (hG : gG aGI I) (hJ : jJ I) (h0 : 0 ≤ n.toInt) (h1 : n.toInt < (I 4 1 15).toInt) (hk : ∀ I' L', gG aGI I' → jJ I' → k none (I', L')) : jWPM d 30 [.inr (4, 1), .inr (4, 0), .inl (.inl n)] (I, L) k := by
  obtain ⟨d, rfl⟩ : ∃ d', d = d' + 1 := ⟨d - 1, by omega⟩
  have hd : 7 ≤ d := by omega
  have hb := (gi_deeds hG (x := 1) (by omega)).2
  have loop : ∀ (N : Nat) (e : Int32) (J : Nat → Nat → Nat → Int32) (L' : Nat → Nat → Nat → Int64), n.toInt - e.toInt ≤ (N : Int) → 0 ≤ e.toInt → e.toInt ≤ n.toInt → gG aGI J → uI I J e.toNatClampNeg → jWB (jWPM d) k none (jco 30) (7, [some (.inr (4, 1)), some (.inr (4, 0)), some (.inl (.inl n)), some (.inl (.inl e))], [], J, L') := by
    intro N
    induction N with
    | zero =>
      intro e J L' a1 a2 a3 a4 a5
      have ne := cl_t a2
      refine jWB_run [7] 60 ?_
      conv => whnf
      refine ⟨fun q => hk _ _ a4 (jJ_undo hG hJ a5 (by omega)), fun q => ?_⟩
      rw [le_t] at q; exfalso; omega
    | succ N ih =>
      intro e J L' a1 a2 a3 a4 a5
      have ne := cl_t a2
      refine jWB_run [7] 60 ?_
      conv => whnf
      refine ⟨fun q => hk _ _ a4 (jJ_undo hG hJ a5 (by omega)), fun q => ?_⟩
      rw [le_t] at q
      have ei : (e + 1).toInt = e.toInt + 1 := by rw [i32_add (by simp; omega)]; simp
      have ni := cl_t (x := e + 1) (by omega)
      have en : (e + 1).toNatClampNeg = e.toNatClampNeg + 1 := by omega
      have hg : lgOK (I 22 1 e.toNatClampNeg) := hJ.2.2.1.1 _ (by omega)
      have u2 : J 22 1 e.toNatClampNeg = I 22 1 e.toNatClampNeg := a5.2.1 _
      have u1 : (J 4 1 15).toInt = e.toInt := by rw [a5.1]; exact ne
      obtain ⟨e1, e2, e3⟩ := lg_parts hg
      have gi : 0 ≤ (J 22 1 e.toNatClampNeg / 100 - J 22 1 e.toNatClampNeg / 100 / 10 * 10).toInt := by rw [u2, e2]; have := hg.1; omega
      have gj : (J 22 1 e.toNatClampNeg / 100 - J 22 1 e.toNatClampNeg / 100 / 10 * 10).toInt ≤ 5 := by rw [u2, e2]; exact hg.2.2
      have gk : 0 ≤ (J 22 1 e.toNatClampNeg / 1000).toInt := by rw [u2, e1]; have := hg.1; omega
      have gl : (J 22 1 e.toNatClampNeg / 1000).toInt ≤ 4 := by rw [u2, e1]; have := hg.2.1; omega
      have gn := cl_t gi
      have gm : J 22 1 e.toNatClampNeg / 1000 = 2 → 1 ≤ (J 19 1 (J 22 1 e.toNatClampNeg / 100 - J 22 1 e.toNatClampNeg / 100 / 10 * 10).toNatClampNeg).toInt := by
        intro z
        rw [u2] at z gn gj ⊢
        refine uI_gram hG hJ a5 (by omega) (by omega) ?_
        unfold shr
        rw [if_pos]
        refine ⟨by rw [← e1, z]; rfl, by rw [← e2, gn]⟩
      have nx : ∀ I1 L1, gG aGI I1 → gR pfW J L' I1 L1 → ((I1 = J ∧ L1 = L' ∧ (J 4 1 15).toInt = 40) ∨ pfP J I1 (J 22 1 e.toNatClampNeg / 1000) (J 22 1 e.toNatClampNeg / 100 - J 22 1 e.toNatClampNeg / 100 / 10 * 10) (J 22 1 e.toNatClampNeg - J 22 1 e.toNatClampNeg / 100 * 100)) → jWB (jWPM d) k none (jco 30) (7, [some (.inr (4, 1)), some (.inr (4, 0)), some (.inl (.inl n)), some (.inl (.inl (e + 1)))], [], I1, L1) := by
        intro I1 L1 g1 g2 g3
        rcases g3 with g3 | g3
        · exfalso; have := g3.2.2; omega
        · rw [u2] at g3
          have u := uI_next a5 hg g2 g3
          rw [← en] at u
          exact ih (e + 1) I1 L1 (by omega) (by omega) (by omega) g1 u
      conv => whnf
      refine ⟨fun q => ?_, fun q => ?_⟩
      · exfalso
        have q : 40 ≤ e.toInt := le_t.mp q
        omega
      conv => whnf
      refine ⟨vp_in_iff.mpr (by omega), ?_⟩
      conv => whnf
      refine ⟨by decide, ?_⟩
      conv => whnf
      refine ⟨vp_in_iff.mpr (by omega), ?_⟩
      conv => whnf
      refine ⟨by decide, ?_⟩
      conv => whnf
      refine ⟨by decide, ?_⟩
      conv => whnf
      refine ⟨vp_in_iff.mpr (by omega), ?_⟩
      conv => whnf
      refine ⟨by decide, ?_⟩
      conv => whnf
      refine hd_perform (Nat.le_trans (by decide) hd) a4 gk gl gi gj gm (fun x I1 L1 g1 g2 g3 => ?_)
      exact nx I1 L1 g1 g2 g3
  refine jWB_run [7] 60 ?_
  conv => whnf
  refine hd_takeStanding (Nat.le_trans (by decide) hd) (a := 1) (b := 0) (by decide) (by decide) (by decide) hG (fun I1 g1 g2 g3 g4 => ?_)
  have o : ∀ g x j : Nat, x ≠ 1 → I1 g x j = I g x j := fun g x j hx => taW_out (gR_mono g2 (fun r hr => List.mem_cons_of_mem _ hr)) hx
  have g5 : ∀ j, I1 22 1 j = I 22 1 j := fun j => (g2 22 1 j (fun ⟨r, hr, q⟩ => by
    simp only [tsW, List.mem_cons, List.not_mem_nil, or_false] at hr
    rcases hr with rfl | rfl | rfl | rfl | rfl | rfl <;> (have q1 := q.1; simp at q1))).1
  exact loop n.toInt.toNat 0 I1 L (by rw [Int.toNat_of_nonneg h0]; exact Int.le_of_eq (Int.sub_zero _)) (by decide) h0 g1 ⟨by rw [g4, hJ.1]; rfl, g5, fun i hi => by rw [g3 i (by omega)]; exact Int.add_zero _, o⟩
set_option maxHeartbeats 1000000 in
theorem jK_undo : jKP 86 [(2, 0, (0, 0)), (0, 0, anyI)] (1, anyI) := by
  intro d hd as I L has hG hJ k hk
  obtain ⟨d, rfl⟩ : ∃ d', d = d' + 1 := ⟨d - 1, by omega⟩
  have hd : 12 ≤ d := by omega
  match as, has with
  | [.inr (g0, n0), .inl (.inl n)], has =>
    obtain ⟨⟨-, e1, e2, e3⟩, -⟩ := has
    dsimp only at e1 e2 e3
    obtain rfl : n0 = 0 := by omega
    subst e1
    have same : ∀ x : Int32, k (some (.inl (.inl x))) (I, L) := fun x => hk _ _ _ hG hJ (any_ok x)
    refine jWB_run [] 60 ?_
    conv => whnf
    refine ⟨fun _ => same _, fun q1 => ⟨fun q2 => ?_, fun _ => same _⟩⟩
    have q1 : ¬ n.toInt < 0 := fun z => q1 (lt_t.mpr z)
    have q2 : n.toInt < (I 4 1 15).toInt := lt_t.mp q2
    conv => whnf
    refine hd_doAgain (Nat.le_trans (by decide) hd) hG hJ (by omega) q2 (fun I1 L1 g1 g2 => ?_)
    exact hk _ _ _ g1 g2 (any_ok _)
