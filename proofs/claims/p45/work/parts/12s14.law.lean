section
/-! the calls that change houses, as the law makes them -/
noncomputable def cdC : List Nat := [6, 18, 19, 20, 21, 22, 23, 5006, 5007, 5008, 5009, 5010, 5011, 5012, 5013, 5014, 5015]
noncomputable def cdM : List Nat := [32, 33, 34, 32001, 32002, 32003]
theorem cd_C {g i j : Nat} (h : gI rdC g i j) : jcd g j ∈ cdC := by
  obtain ⟨r, hr, e, -, -, a3, a4⟩ := h
  simp only [rdC, List.mem_cons, List.not_mem_nil, or_false] at hr
  rcases hr with rfl | rfl | rfl | rfl | rfl | rfl | rfl | rfl | rfl <;> cases e
  · have : j = 6 ∨ j = 7 ∨ j = 8 ∨ j = 9 ∨ j = 10 ∨ j = 11 ∨ j = 12 ∨ j = 13 ∨ j = 14 ∨ j = 15 := by simp at a3 a4; omega
    rcases this with rfl | rfl | rfl | rfl | rfl | rfl | rfl | rfl | rfl | rfl <;> decide
  · have : j = 9 ∨ j = 10 ∨ j = 11 ∨ j = 12 ∨ j = 13 ∨ j = 14 ∨ j = 15 := by simp at a3 a4; omega
    rcases this with rfl | rfl | rfl | rfl | rfl | rfl | rfl <;> decide
  all_goals simp [jcd, cdC]
theorem cd_M {g i j : Nat} (h : gI rdM g i j) : jcd g j ∈ cdM := by
  obtain ⟨r, hr, e, -, -, a3, a4⟩ := h
  simp only [rdM, List.mem_cons, List.not_mem_nil, or_false] at hr
  rcases hr with rfl | rfl | rfl | rfl <;> cases e
  · have : j = 1 ∨ j = 2 ∨ j = 3 := by simp at a3 a4; omega
    rcases this with rfl | rfl | rfl <;> decide
  all_goals simp [jcd, cdM]
theorem cd_no {A W : List Nat} (hw : A.all (fun c => !(jel c W)) = true) {c : Nat} (hc : c ∈ A) : jel c W = false := by
  have := List.all_eq_true.mp hw c hc
  cases e : jel c W with
  | false => rfl
  | true => rw [e] at this; cases this
theorem RD_frM {W : List Nat} {I J J' : jI} (hG : gG aGI I) (q : RD2 I J) (f : fr W J J') (hw : cdM.all (fun c => !(jel c W)) = true) : RD2 I J' := RD_cells hG q (fun _ _ _ _ => rfl) (fun g i j z => f g i j (cd_no hw (cd_M z)))
theorem RD_frC {W : List Nat} {I I' J : jI} (hG : gG aGI I) (q : RD2 I J) (f : fr W I I') (hw : cdC.all (fun c => !(jel c W)) = true) : RD2 I' J := RD_cells hG q (fun g i j z => f g i j (cd_no hw (cd_C z))) (fun _ _ _ _ => rfl)
theorem RD_fr {W : List Nat} {I I' : jI} (hG : gG aGI I) (q : RD2 I I) (f : fr W I I') (hw : (cdC ++ cdM).all (fun c => !(jel c W)) = true) : RD2 I' I' := RD_cells hG q (fun g i j z => f g i j (cd_no hw (List.mem_append_left _ (cd_C z)))) (fun g i j z => f g i j (cd_no hw (List.mem_append_right _ (cd_M z))))
theorem pKR {m : Nat} {c : aK} (h : aKP aGI m c) {d : Nat} {as : List jV} {I : jI} {L : jL} (has : aAs c.1 as) (hG : gG aGI I) : jPM d m as (I, L) (fun _ σ => gR c.2.2.1 I L σ.1 σ.2) := pK h has hG (fun _ _ _ _ r _ => r)
noncomputable def rtW : List aR := [(16, (0, 0), (0, 3)), (30, (0, 3), (0, 59)), (37, (0, 0), (0, 3)), (38, (0, 0), (0, 239))]
theorem RT_gR {W : List aR} {I I' : jI} {L L' : jL} (hw : rApart W rtW = true) (q : RT I) (h : gR W I L I' L') : RT I' := by
  have key : ∀ g i j, gI rtW g i j → I' g i j = I g i j := fun g i j z => (h g i j (rApart_of hw z)).1
  refine ⟨fun t ht => ?_, fun t j ht hj => ?_⟩
  · rw [key 37 0 t ⟨(37, (0, 0), (0, 3)), by decide, rfl, by simp, by simp, by simp, by simp; omega⟩, key 16 0 t ⟨(16, (0, 0), (0, 3)), by decide, rfl, by simp, by simp, by simp, by simp; omega⟩]
    exact q.1 t ht
  · rw [key 38 0 (60 * t + j) ⟨(38, (0, 0), (0, 239)), by decide, rfl, by simp, by simp, by simp; omega, by simp; omega⟩, key 30 t j ⟨(30, (0, 3), (0, 59)), by decide, rfl, by simp, by simp; omega, by simp, by simp; omega⟩]
    exact q.2 t j ht hj
theorem Pq81 {d : Nat} {a1 : Int32} {a2 : Int32} {I : jI} {L : jL} (hG : gG aGI I) (hJ : jJ I) (q : RD2 I I) : jPM d 81 [.inr (0, 0), .inl (.inl a1), .inl (.inl a2)] (I, L) (fun v σ => (∃ r, d81 a1 a2 I = some r ∧ v = some (.inl (.inl r.1)) ∧ σ.1 = r.2) ∧ fr [19, 20, 22, 23, 5009, 5010, 5011, 5012, 5013, 5014, 5015] I σ.1) := by
  obtain ⟨r, r', e, -⟩ := buy_eq a1 a2 hG q
  exact jPM_and (D81 e ⟨r, e, rfl, rfl⟩) (Fx81 (fun _ I' L' f => f))
theorem Pq166 {d : Nat} {a1 : Int32} {a2 : Int32} {I I1 : jI} {L : jL} (hG : gG aGI I) (g1 : gG aGI I1) (hJ : jJ I) (q : RD2 I I) (f : fr [19, 20, 22, 23, 5009, 5010, 5011, 5012, 5013, 5014, 5015] I I1) : jPM d 166 [.inr (31, 0), .inl (.inl a1), .inl (.inl a2)] (I1, L) (fun v σ => (∃ r, d166 a1 a2 I1 = some r ∧ v = some (.inl (.inl r.1)) ∧ σ.1 = r.2) ∧ fr [32] I1 σ.1) := by
  obtain ⟨r, r', -, e, -⟩ := buy_eq a1 a2 hG (RD_frM hG q f rfl)
  exact jPM_and (D166 e ⟨r', e, rfl, rfl⟩) (Fx166 (fun _ I' L' f => f))
theorem Qq81 {a1 : Int32} {a2 : Int32} {x1 x2 : Int32} {I I1 I2 : jI} (hG : gG aGI I) (g1 : gG aGI I1) (hJ : jJ I) (q : RD2 I I) (q1 : (∃ r, d81 a1 a2 I = some r ∧ (some (.inl (.inl x1)) : Option jV) = some (.inl (.inl r.1)) ∧ I1 = r.2) ∧ fr [19, 20, 22, 23, 5009, 5010, 5011, 5012, 5013, 5014, 5015] I I1) (q2 : (∃ r, d166 a1 a2 I1 = some r ∧ (some (.inl (.inl x2)) : Option jV) = some (.inl (.inl r.1)) ∧ I2 = r.2) ∧ fr [32] I1 I2) : x1 = x2 ∧ RD2 I2 I2 := by
  obtain ⟨⟨s, c1, c2, c3⟩, f⟩ := q1
  obtain ⟨r, r', e, e', k, z⟩ := buy_eq a1 a2 hG (RD_frM hG q f rfl)
  obtain ⟨⟨s', b1, b2, b3⟩, f2⟩ := q2
  rw [e] at c1
  rw [e'] at b1
  cases c1
  cases b1
  cases c2
  cases b2
  rw [← b3] at z
  rw [← c3] at z
  exact ⟨k, RD_frC g1 z f2 rfl⟩
theorem Pq82 {d : Nat} {I : jI} {L : jL} (hG : gG aGI I) (hJ : jJ I) (q : RD2 I I) : jPM d 82 [.inr (0, 0)] (I, L) (fun v σ => (∃ r, d82 I = some r ∧ v = some (.inl (.inl r.1)) ∧ σ.1 = r.2) ∧ fr [19, 20, 22, 23, 5009, 5010, 5011, 5012, 5013, 5014, 5015] I σ.1) := by
  obtain ⟨r, r', e, -⟩ := week_eq hG q
  exact jPM_and (D82 e ⟨r, e, rfl, rfl⟩) (Fx82 (fun _ I' L' f => f))
theorem Pq168 {d : Nat} {I I1 : jI} {L : jL} (hG : gG aGI I) (g1 : gG aGI I1) (hJ : jJ I) (q : RD2 I I) (f : fr [19, 20, 22, 23, 5009, 5010, 5011, 5012, 5013, 5014, 5015] I I1) : jPM d 168 [.inr (31, 0)] (I1, L) (fun v σ => (∃ r, d168 I1 = some r ∧ v = some (.inl (.inl r.1)) ∧ σ.1 = r.2) ∧ fr [32] I1 σ.1) := by
  obtain ⟨r, r', -, e, -⟩ := week_eq hG (RD_frM hG q f rfl)
  exact jPM_and (D168 e ⟨r', e, rfl, rfl⟩) (Fx168 (fun _ I' L' f => f))
theorem Qq82 {x1 x2 : Int32} {I I1 I2 : jI} (hG : gG aGI I) (g1 : gG aGI I1) (hJ : jJ I) (q : RD2 I I) (q1 : (∃ r, d82 I = some r ∧ (some (.inl (.inl x1)) : Option jV) = some (.inl (.inl r.1)) ∧ I1 = r.2) ∧ fr [19, 20, 22, 23, 5009, 5010, 5011, 5012, 5013, 5014, 5015] I I1) (q2 : (∃ r, d168 I1 = some r ∧ (some (.inl (.inl x2)) : Option jV) = some (.inl (.inl r.1)) ∧ I2 = r.2) ∧ fr [32] I1 I2) : x1 = x2 ∧ RD2 I2 I2 := by
  obtain ⟨⟨s, c1, c2, c3⟩, f⟩ := q1
  obtain ⟨r, r', e, e', k, z⟩ := week_eq hG (RD_frM hG q f rfl)
  obtain ⟨⟨s', b1, b2, b3⟩, f2⟩ := q2
  rw [e] at c1
  rw [e'] at b1
  cases c1
  cases b1
  cases c2
  cases b2
  rw [← b3] at z
  rw [← c3] at z
  exact ⟨k, RD_frC g1 z f2 rfl⟩
theorem Pq83 {d : Nat} {a1 : Int32} {I : jI} {L : jL} (hG : gG aGI I) (hJ : jJ I) (q : RD2 I I) : jPM d 83 [.inr (0, 0), .inl (.inl a1)] (I, L) (fun v σ => (∃ r, d83 a1 I = some r ∧ v = some (.inl (.inl r.1)) ∧ σ.1 = r.2) ∧ fr [19, 20, 22, 23, 5009, 5010, 5011, 5012, 5013, 5014, 5015] I σ.1) := by
  obtain ⟨r, r', e, -⟩ := shrink_eq a1 hG q
  exact jPM_and (D83 e ⟨r, e, rfl, rfl⟩) (Fx83 (fun _ I' L' f => f))
theorem Pq169 {d : Nat} {a1 : Int32} {I I1 : jI} {L : jL} (hG : gG aGI I) (g1 : gG aGI I1) (hJ : jJ I) (q : RD2 I I) (f : fr [19, 20, 22, 23, 5009, 5010, 5011, 5012, 5013, 5014, 5015] I I1) : jPM d 169 [.inr (31, 0), .inl (.inl a1)] (I1, L) (fun v σ => (∃ r, d169 a1 I1 = some r ∧ v = some (.inl (.inl r.1)) ∧ σ.1 = r.2) ∧ fr [32] I1 σ.1) := by
  obtain ⟨r, r', -, e, -⟩ := shrink_eq a1 hG (RD_frM hG q f rfl)
  exact jPM_and (D169 e ⟨r', e, rfl, rfl⟩) (Fx169 (fun _ I' L' f => f))
theorem Qq83 {a1 : Int32} {x1 x2 : Int32} {I I1 I2 : jI} (hG : gG aGI I) (g1 : gG aGI I1) (hJ : jJ I) (q : RD2 I I) (q1 : (∃ r, d83 a1 I = some r ∧ (some (.inl (.inl x1)) : Option jV) = some (.inl (.inl r.1)) ∧ I1 = r.2) ∧ fr [19, 20, 22, 23, 5009, 5010, 5011, 5012, 5013, 5014, 5015] I I1) (q2 : (∃ r, d169 a1 I1 = some r ∧ (some (.inl (.inl x2)) : Option jV) = some (.inl (.inl r.1)) ∧ I2 = r.2) ∧ fr [32] I1 I2) : x1 = x2 ∧ RD2 I2 I2 := by
  obtain ⟨⟨s, c1, c2, c3⟩, f⟩ := q1
  obtain ⟨r, r', e, e', k, z⟩ := shrink_eq a1 hG (RD_frM hG q f rfl)
  obtain ⟨⟨s', b1, b2, b3⟩, f2⟩ := q2
  rw [e] at c1
  rw [e'] at b1
  cases c1
  cases b1
  cases c2
  cases b2
  rw [← b3] at z
  rw [← c3] at z
  exact ⟨k, RD_frC g1 z f2 rfl⟩
theorem Pq84 {d : Nat} {a1 : Int32} {a2 : Int32} {I : jI} {L : jL} (hG : gG aGI I) (hJ : jJ I) (q : RD2 I I) : jPM d 84 [.inr (0, 0), .inl (.inl a1), .inl (.inl a2)] (I, L) (fun v σ => (∃ r, d84 a1 a2 I = some r ∧ v = some (.inl (.inl r.1)) ∧ σ.1 = r.2) ∧ fr [19, 20, 22, 23, 5009, 5010, 5011, 5012, 5013, 5014, 5015] I σ.1) := by
  obtain ⟨r, r', e, -⟩ := price_eq a1 a2 hG q
  exact jPM_and (D84 e ⟨r, e, rfl, rfl⟩) (Fx84 (fun _ I' L' f => f))
theorem Pq171 {d : Nat} {a1 : Int32} {a2 : Int32} {I I1 : jI} {L : jL} (hG : gG aGI I) (g1 : gG aGI I1) (hJ : jJ I) (q : RD2 I I) (f : fr [19, 20, 22, 23, 5009, 5010, 5011, 5012, 5013, 5014, 5015] I I1) : jPM d 171 [.inr (31, 0), .inl (.inl a1), .inl (.inl a2)] (I1, L) (fun v σ => (∃ r, d171 a1 a2 I1 = some r ∧ v = some (.inl (.inl r.1)) ∧ σ.1 = r.2) ∧ fr [32] I1 σ.1) := by
  obtain ⟨r, r', -, e, -⟩ := price_eq a1 a2 hG (RD_frM hG q f rfl)
  exact jPM_and (D171 e ⟨r', e, rfl, rfl⟩) (Fx171 (fun _ I' L' f => f))
theorem Qq84 {a1 : Int32} {a2 : Int32} {x1 x2 : Int32} {I I1 I2 : jI} (hG : gG aGI I) (g1 : gG aGI I1) (hJ : jJ I) (q : RD2 I I) (q1 : (∃ r, d84 a1 a2 I = some r ∧ (some (.inl (.inl x1)) : Option jV) = some (.inl (.inl r.1)) ∧ I1 = r.2) ∧ fr [19, 20, 22, 23, 5009, 5010, 5011, 5012, 5013, 5014, 5015] I I1) (q2 : (∃ r, d171 a1 a2 I1 = some r ∧ (some (.inl (.inl x2)) : Option jV) = some (.inl (.inl r.1)) ∧ I2 = r.2) ∧ fr [32] I1 I2) : x1 = x2 ∧ RD2 I2 I2 := by
  obtain ⟨⟨s, c1, c2, c3⟩, f⟩ := q1
  obtain ⟨r, r', e, e', k, z⟩ := price_eq a1 a2 hG (RD_frM hG q f rfl)
  obtain ⟨⟨s', b1, b2, b3⟩, f2⟩ := q2
  rw [e] at c1
  rw [e'] at b1
  cases c1
  cases b1
  cases c2
  cases b2
  rw [← b3] at z
  rw [← c3] at z
  exact ⟨k, RD_frC g1 z f2 rfl⟩
theorem Pq85 {d : Nat} {a1 : Int32} {I : jI} {L : jL} (hG : gG aGI I) (hJ : jJ I) (q : RD2 I I) : jPM d 85 [.inr (0, 0), .inl (.inl a1)] (I, L) (fun v σ => (∃ r, d85 a1 I = some r ∧ v = some (.inl (.inl r.1)) ∧ σ.1 = r.2) ∧ fr [19, 20, 22, 23, 5009, 5010, 5011, 5012, 5013, 5014, 5015] I σ.1) := by
  obtain ⟨r, r', e, -⟩ := card_eq a1 hG q
  exact jPM_and (D85 e ⟨r, e, rfl, rfl⟩) (Fx85 (fun _ I' L' f => f))
theorem Pq172 {d : Nat} {a1 : Int32} {I I1 : jI} {L : jL} (hG : gG aGI I) (g1 : gG aGI I1) (hJ : jJ I) (q : RD2 I I) (f : fr [19, 20, 22, 23, 5009, 5010, 5011, 5012, 5013, 5014, 5015] I I1) : jPM d 172 [.inr (31, 0), .inl (.inl a1)] (I1, L) (fun v σ => (∃ r, d172 a1 I1 = some r ∧ v = some (.inl (.inl r.1)) ∧ σ.1 = r.2) ∧ fr [32] I1 σ.1) := by
  obtain ⟨r, r', -, e, -⟩ := card_eq a1 hG (RD_frM hG q f rfl)
  exact jPM_and (D172 e ⟨r', e, rfl, rfl⟩) (Fx172 (fun _ I' L' f => f))
theorem Qq85 {a1 : Int32} {x1 x2 : Int32} {I I1 I2 : jI} (hG : gG aGI I) (g1 : gG aGI I1) (hJ : jJ I) (q : RD2 I I) (q1 : (∃ r, d85 a1 I = some r ∧ (some (.inl (.inl x1)) : Option jV) = some (.inl (.inl r.1)) ∧ I1 = r.2) ∧ fr [19, 20, 22, 23, 5009, 5010, 5011, 5012, 5013, 5014, 5015] I I1) (q2 : (∃ r, d172 a1 I1 = some r ∧ (some (.inl (.inl x2)) : Option jV) = some (.inl (.inl r.1)) ∧ I2 = r.2) ∧ fr [32] I1 I2) : x1 = x2 ∧ RD2 I2 I2 := by
  obtain ⟨⟨s, c1, c2, c3⟩, f⟩ := q1
  obtain ⟨r, r', e, e', k, z⟩ := card_eq a1 hG (RD_frM hG q f rfl)
  obtain ⟨⟨s', b1, b2, b3⟩, f2⟩ := q2
  rw [e] at c1
  rw [e'] at b1
  cases c1
  cases b1
  cases c2
  cases b2
  rw [← b3] at z
  rw [← c3] at z
  exact ⟨k, RD_frC g1 z f2 rfl⟩
theorem Pq86 {d : Nat} {a1 : Int32} {I : jI} {L : jL} (hG : gG aGI I) (hJ : jJ I) (q : RD2 I I) : jPM d 86 [.inr (0, 0), .inl (.inl a1)] (I, L) (fun v σ => (∃ r, d86 a1 I = some r ∧ v = some (.inl (.inl r.1)) ∧ σ.1 = r.2) ∧ fr [18, 19, 20, 21, 22, 23, 5006, 5007, 5008, 5009, 5010, 5011, 5012, 5013, 5014, 5015] I σ.1) := by
  obtain ⟨r, r', e, -⟩ := undo_eq a1 hG hJ q
  exact jPM_and (D86 e ⟨r, e, rfl, rfl⟩) (Fx86 (fun _ I' L' f => f))
theorem Pq173 {d : Nat} {a1 : Int32} {I I1 : jI} {L : jL} (hG : gG aGI I) (g1 : gG aGI I1) (hJ : jJ I) (q : RD2 I I) (f : fr [18, 19, 20, 21, 22, 23, 5006, 5007, 5008, 5009, 5010, 5011, 5012, 5013, 5014, 5015] I I1) : jPM d 173 [.inr (31, 0), .inl (.inl a1)] (I1, L) (fun v σ => (∃ r, d173 a1 I1 = some r ∧ v = some (.inl (.inl r.1)) ∧ σ.1 = r.2) ∧ fr [32] I1 σ.1) := by
  obtain ⟨r, r', -, e, -⟩ := undo_eq a1 hG hJ (RD_frM hG q f rfl)
  exact jPM_and (D173 e ⟨r', e, rfl, rfl⟩) (Fx173 (fun _ I' L' f => f))
theorem Qq86 {a1 : Int32} {x1 x2 : Int32} {I I1 I2 : jI} (hG : gG aGI I) (g1 : gG aGI I1) (hJ : jJ I) (q : RD2 I I) (q1 : (∃ r, d86 a1 I = some r ∧ (some (.inl (.inl x1)) : Option jV) = some (.inl (.inl r.1)) ∧ I1 = r.2) ∧ fr [18, 19, 20, 21, 22, 23, 5006, 5007, 5008, 5009, 5010, 5011, 5012, 5013, 5014, 5015] I I1) (q2 : (∃ r, d173 a1 I1 = some r ∧ (some (.inl (.inl x2)) : Option jV) = some (.inl (.inl r.1)) ∧ I2 = r.2) ∧ fr [32] I1 I2) : RD2 I2 I2 := by
  obtain ⟨⟨s, c1, c2, c3⟩, f⟩ := q1
  obtain ⟨r, r', e, e', z⟩ := undo_eq a1 hG hJ (RD_frM hG q f rfl)
  obtain ⟨⟨s', b1, b2, b3⟩, f2⟩ := q2
  rw [e] at c1
  rw [e'] at b1
  cases c1
  cases b1
  cases c2
  cases b2
  rw [← b3] at z
  rw [← c3] at z
  exact RD_frC g1 z f2 rfl
theorem Pq87 {d : Nat} {a1 : Int32} {I : jI} {L : jL} (hG : gG aGI I) (hJ : jJ I) (q : RD2 I I) : jPM d 87 [.inr (0, 0), .inl (.inl a1)] (I, L) (fun v σ => (∃ r, d87 a1 I = some r ∧ v = some (.inl (.inl r.1)) ∧ σ.1 = r.2) ∧ fr [6, 18, 19, 20, 21, 22, 23, 5006, 5007, 5008, 5009, 5010, 5011, 5012, 5013, 5014, 5015] I σ.1) := by
  obtain ⟨r, r', e, -⟩ := keep_eq a1 hG q
  exact jPM_and (D87 e ⟨r, e, rfl, rfl⟩) (Fx87 (fun _ I' L' f => f))
theorem Pq175 {d : Nat} {a1 : Int32} {I I1 : jI} {L : jL} (hG : gG aGI I) (g1 : gG aGI I1) (hJ : jJ I) (q : RD2 I I) (f : fr [6, 18, 19, 20, 21, 22, 23, 5006, 5007, 5008, 5009, 5010, 5011, 5012, 5013, 5014, 5015] I I1) : jPM d 175 [.inr (31, 0), .inl (.inl a1)] (I1, L) (fun v σ => (∃ r, d175 a1 I1 = some r ∧ v = some (.inl (.inl r.1)) ∧ σ.1 = r.2) ∧ fr [32] I1 σ.1) := by
  obtain ⟨r, r', -, e, -⟩ := keep_eq a1 hG (RD_frM hG q f rfl)
  exact jPM_and (D175 e ⟨r', e, rfl, rfl⟩) (Fx175 (fun _ I' L' f => f))
theorem Qq87 {a1 : Int32} {x1 x2 : Int32} {I I1 I2 : jI} (hG : gG aGI I) (g1 : gG aGI I1) (hJ : jJ I) (q : RD2 I I) (q1 : (∃ r, d87 a1 I = some r ∧ (some (.inl (.inl x1)) : Option jV) = some (.inl (.inl r.1)) ∧ I1 = r.2) ∧ fr [6, 18, 19, 20, 21, 22, 23, 5006, 5007, 5008, 5009, 5010, 5011, 5012, 5013, 5014, 5015] I I1) (q2 : (∃ r, d175 a1 I1 = some r ∧ (some (.inl (.inl x2)) : Option jV) = some (.inl (.inl r.1)) ∧ I2 = r.2) ∧ fr [32] I1 I2) : x1 = x2 ∧ RD2 I2 I2 := by
  obtain ⟨⟨s, c1, c2, c3⟩, f⟩ := q1
  obtain ⟨r, r', e, e', k, z⟩ := keep_eq a1 hG (RD_frM hG q f rfl)
  obtain ⟨⟨s', b1, b2, b3⟩, f2⟩ := q2
  rw [e] at c1
  rw [e'] at b1
  cases c1
  cases b1
  cases c2
  cases b2
  rw [← b3] at z
  rw [← c3] at z
  exact ⟨k, RD_frC g1 z f2 rfl⟩
theorem Pq88 {d : Nat} {a1 : Int32} {I : jI} {L : jL} (hG : gG aGI I) (hJ : jJ I) (q : RD2 I I) : jPM d 88 [.inr (0, 0), .inl (.inl a1)] (I, L) (fun v σ => (∃ r, d88 a1 I = some r ∧ v = some (.inl (.inl r.1)) ∧ σ.1 = r.2) ∧ fr [12, 18, 19, 20, 21, 22, 23, 1013, 5006, 5007, 5008, 5009, 5010, 5011, 5012, 5013, 5014, 5015] I σ.1) := by
  obtain ⟨r, r', e, -⟩ := on_eq a1 hG q
  exact jPM_and (D88 e ⟨r, e, rfl, rfl⟩) (Fx88 (fun _ I' L' f => f))
theorem Pq176 {d : Nat} {a1 : Int32} {I I1 : jI} {L : jL} (hG : gG aGI I) (g1 : gG aGI I1) (hJ : jJ I) (q : RD2 I I) (f : fr [12, 18, 19, 20, 21, 22, 23, 1013, 5006, 5007, 5008, 5009, 5010, 5011, 5012, 5013, 5014, 5015] I I1) : jPM d 176 [.inr (31, 0), .inl (.inl a1)] (I1, L) (fun v σ => (∃ r, d176 a1 I1 = some r ∧ v = some (.inl (.inl r.1)) ∧ σ.1 = r.2) ∧ fr [32, 39, 32013] I1 σ.1) := by
  obtain ⟨r, r', -, e, -⟩ := on_eq a1 hG (RD_frM hG q f rfl)
  exact jPM_and (D176 e ⟨r', e, rfl, rfl⟩) (Fx176 (fun _ I' L' f => f))
theorem Qq88 {a1 : Int32} {x1 x2 : Int32} {I I1 I2 : jI} (hG : gG aGI I) (g1 : gG aGI I1) (hJ : jJ I) (q : RD2 I I) (q1 : (∃ r, d88 a1 I = some r ∧ (some (.inl (.inl x1)) : Option jV) = some (.inl (.inl r.1)) ∧ I1 = r.2) ∧ fr [12, 18, 19, 20, 21, 22, 23, 1013, 5006, 5007, 5008, 5009, 5010, 5011, 5012, 5013, 5014, 5015] I I1) (q2 : (∃ r, d176 a1 I1 = some r ∧ (some (.inl (.inl x2)) : Option jV) = some (.inl (.inl r.1)) ∧ I2 = r.2) ∧ fr [32, 39, 32013] I1 I2) : x1 = x2 ∧ RD2 I2 I2 := by
  obtain ⟨⟨s, c1, c2, c3⟩, f⟩ := q1
  obtain ⟨r, r', e, e', k, z⟩ := on_eq a1 hG (RD_frM hG q f rfl)
  obtain ⟨⟨s', b1, b2, b3⟩, f2⟩ := q2
  rw [e] at c1
  rw [e'] at b1
  cases c1
  cases b1
  cases c2
  cases b2
  rw [← b3] at z
  rw [← c3] at z
  exact ⟨k, RD_frC g1 z f2 rfl⟩
theorem Pq105 {d : Nat} {a1 : Int32} {a2 : Int32} {I : jI} {L : jL} (hG : gG aGI I) (hJ : jJ I) (q : RD2 I I) : jPM d 105 [.inr (0, 0), .inl (.inl a1), .inl (.inl a2)] (I, L) (fun v σ => (∃ r, d105 a1 a2 I = some r ∧ v = some (.inl (.inl r.1)) ∧ σ.1 = r.2) ∧ fr [19, 20, 22, 23, 5009, 5010, 5011, 5012, 5013, 5014, 5015] I σ.1) := by
  obtain ⟨r, r', e, -⟩ := lots_eq a1 a2 hG hJ q
  exact jPM_and (D105 e ⟨r, e, rfl, rfl⟩) (Fx105 (fun _ I' L' f => f))
theorem Pq207 {d : Nat} {a1 : Int32} {a2 : Int32} {I I1 : jI} {L : jL} (hG : gG aGI I) (g1 : gG aGI I1) (hJ : jJ I) (q : RD2 I I) (f : fr [19, 20, 22, 23, 5009, 5010, 5011, 5012, 5013, 5014, 5015] I I1) : jPM d 207 [.inr (31, 0), .inl (.inl a1), .inl (.inl a2)] (I1, L) (fun v σ => (∃ r, d207 a1 a2 I1 = some r ∧ v = some (.inl (.inl r.1)) ∧ σ.1 = r.2) ∧ fr [32] I1 σ.1) := by
  obtain ⟨r, r', -, e, -⟩ := lots_eq a1 a2 hG hJ (RD_frM hG q f rfl)
  exact jPM_and (D207 e ⟨r', e, rfl, rfl⟩) (Fx207 (fun _ I' L' f => f))
theorem Qq105 {a1 : Int32} {a2 : Int32} {x1 x2 : Int32} {I I1 I2 : jI} (hG : gG aGI I) (g1 : gG aGI I1) (hJ : jJ I) (q : RD2 I I) (q1 : (∃ r, d105 a1 a2 I = some r ∧ (some (.inl (.inl x1)) : Option jV) = some (.inl (.inl r.1)) ∧ I1 = r.2) ∧ fr [19, 20, 22, 23, 5009, 5010, 5011, 5012, 5013, 5014, 5015] I I1) (q2 : (∃ r, d207 a1 a2 I1 = some r ∧ (some (.inl (.inl x2)) : Option jV) = some (.inl (.inl r.1)) ∧ I2 = r.2) ∧ fr [32] I1 I2) : x1 = x2 ∧ RD2 I2 I2 := by
  obtain ⟨⟨s, c1, c2, c3⟩, f⟩ := q1
  obtain ⟨r, r', e, e', k, z⟩ := lots_eq a1 a2 hG hJ (RD_frM hG q f rfl)
  obtain ⟨⟨s', b1, b2, b3⟩, f2⟩ := q2
  rw [e] at c1
  rw [e'] at b1
  cases c1
  cases b1
  cases c2
  cases b2
  rw [← b3] at z
  rw [← c3] at z
  exact ⟨k, RD_frC g1 z f2 rfl⟩
theorem Pq77 {d : Nat} {a1 : Int32} {I : jI} {L : jL} (hG : gG aGI I) (hJ : jJ I) (hT : RT I) (q : RD2 I I) : jPM d 77 [.inr (0, 0), .inl (.inl a1)] (I, L) (fun v σ => (∃ r, d77 a1 I = some r ∧ v = some (.inl (.inl r.1)) ∧ σ.1 = r.2) ∧ fr [6, 12, 17, 18, 19, 20, 21, 22, 23, 1013, 4002, 4003, 4004, 5006, 5007, 5008, 5009, 5010, 5011, 5012, 5013, 5014, 5015] I σ.1) := by
  obtain ⟨r, r', e, -⟩ := house_eq2 a1 hG hG hJ hT rfl rfl q
  exact jPM_and (D77 e ⟨r, e, rfl, rfl⟩) (Fx77 (fun _ I' L' f => f))
theorem Pq150 {d : Nat} {a1 : Int32} {I I1 : jI} {L : jL} (hG : gG aGI I) (g1 : gG aGI I1) (hJ : jJ I) (hT : RT I) (q : RD2 I I) (f : fr [6, 12, 17, 18, 19, 20, 21, 22, 23, 1013, 4002, 4003, 4004, 5006, 5007, 5008, 5009, 5010, 5011, 5012, 5013, 5014, 5015] I I1) : jPM d 150 [.inr (31, 0), .inl (.inl a1)] (I1, L) (fun v σ => (∃ r, d150 a1 I1 = some r ∧ v = some (.inl (.inl r.1)) ∧ σ.1 = r.2) ∧ fr [32, 33, 34, 39, 40, 32001, 32002, 32003, 32013, 32015, 32016, 32017, 32018, 32019, 32021] I1 σ.1) := by
  obtain ⟨r, r', -, e, -⟩ := house_eq2 a1 hG g1 hJ hT (fr_arr f (fun _ => rfl) rfl) (fr_arr f (fun _ => rfl) rfl) (RD_frM hG q f rfl)
  exact jPM_and (D150 e ⟨r', e, rfl, rfl⟩) (Fx150 (fun _ I' L' f => f))
theorem Qq77 {a1 : Int32} {x1 x2 : Int32} {I I1 I2 : jI} (hG : gG aGI I) (g1 : gG aGI I1) (hJ : jJ I) (hT : RT I) (q : RD2 I I) (q1 : (∃ r, d77 a1 I = some r ∧ (some (.inl (.inl x1)) : Option jV) = some (.inl (.inl r.1)) ∧ I1 = r.2) ∧ fr [6, 12, 17, 18, 19, 20, 21, 22, 23, 1013, 4002, 4003, 4004, 5006, 5007, 5008, 5009, 5010, 5011, 5012, 5013, 5014, 5015] I I1) (q2 : (∃ r, d150 a1 I1 = some r ∧ (some (.inl (.inl x2)) : Option jV) = some (.inl (.inl r.1)) ∧ I2 = r.2) ∧ fr [32, 33, 34, 39, 40, 32001, 32002, 32003, 32013, 32015, 32016, 32017, 32018, 32019, 32021] I1 I2) : x1 = x2 ∧ RD2 I2 I2 := by
  obtain ⟨⟨s, c1, c2, c3⟩, f⟩ := q1
  obtain ⟨r, r', e, e', k, z⟩ := house_eq2 a1 hG g1 hJ hT (fr_arr f (fun _ => rfl) rfl) (fr_arr f (fun _ => rfl) rfl) (RD_frM hG q f rfl)
  obtain ⟨⟨s', b1, b2, b3⟩, f2⟩ := q2
  rw [e] at c1
  rw [e'] at b1
  cases c1
  cases b1
  cases c2
  cases b2
  rw [← b3] at z
  rw [← c3] at z
  exact ⟨k, RD_frC g1 z f2 rfl⟩
end
section
/-! what is asked of a PACKET: the same on both sides -/
theorem card01 {I : jI} (hG : gG aGI I) : I 4 1 14 = 0 ∨ I 4 1 14 = 1 := by
  have f14 := hG (4, (0, 5), (14, 14), (0, 1)) (by decide) 1 14 (by simp) (by simp) (by simp) (by simp)
  have a : 0 ≤ (I 4 1 14).toInt := f14.1
  have b : (I 4 1 14).toInt ≤ 1 := f14.2
  have : (I 4 1 14).toInt = 0 ∨ (I 4 1 14).toInt = 1 := by omega
  rcases this with z | z
  · exact Or.inl (eq_t.mpr z)
  · exact Or.inr (eq_t.mpr z)
theorem cost_cm {I J : jI} {m : Nat} {i n : Int32} (hG : gG aGI I) (c : cur I J m) (h0 : 0 ≤ i.toInt) (hi : i.toNatClampNeg < m) : d153 0 i n J = d35 1 i n I := by
  obtain ⟨⟨-, -, ai, af⟩, ⟨-, hm⟩, -⟩ := c
  have ni := cl_t h0
  have i23 : Int32.toNatClampNeg ((0 + 23) + i) = 23 + i.toNatClampNeg := by rw [(ixa (a := 0 + 23) (by decide) (by decide) h0 (by omega)).2]; rfl
  have i6 : Int32.toNatClampNeg (0 + 6) = 1 + 5 := rfl
  unfold d153 d35
  rw [i23, i6, (ai _ hi).1.2, (ai _ hi).2.1, af 5 (by decide)]
  exact cost_m (card01 hG)
theorem got_cm {I J : jI} {m : Nat} {i : Int32} (c : cur I J m) (h0 : 0 ≤ i.toInt) (hi : i.toNatClampNeg < m) : d155 0 i J = d36 1 i I := by
  obtain ⟨⟨-, -, ai, af⟩, ⟨-, hm⟩, -⟩ := c
  have ni := cl_t h0
  have i17 : Int32.toNatClampNeg ((0 + 17) + i) = 17 + i.toNatClampNeg := by rw [(ixa (a := 0 + 17) (by decide) (by decide) h0 (by omega)).2]; rfl
  unfold d155 d36
  rw [i17, (ai _ hi).1.1, (ai _ hi).2.1]
  rfl
theorem kps_cm {I J : jI} {m : Nat} {i : Int32} (c : cur I J m) (hi : i.toNatClampNeg < m) : d156 i J = d37 1 i I := by
  obtain ⟨⟨-, -, ai, af⟩, ⟨-, hm⟩, -⟩ := c
  unfold d156 d37
  rw [(ai _ hi).2.1, (ai _ hi).2.2]
  rfl
theorem isA_cm {k w : Int32} {I J : jI} {i : Nat} (h : J 33 0 i = k) (hw : w = 1 ∨ w = 2 ∨ w = 3 ∨ w = 4 ∨ w = 5) : (d3 k w I = 0) = ((if k = w then (1 : Int32) else if w = 1 then (if k = 4 then 1 else if w = 2 then (if k = 5 then 1 else 0) else 0) else if w = 2 then (if k = 5 then 1 else 0) else 0) = 0) := by
  unfold d3 d4
  by_cases a : k = w
  · rw [if_pos a, if_pos a]
  rw [if_neg a, if_neg a]
  by_cases k4 : k = 4
  · subst k4
    rcases hw with rfl | rfl | rfl | rfl | rfl <;> rfl
  by_cases k5 : k = 5
  · subst k5
    rcases hw with rfl | rfl | rfl | rfl | rfl <;> rfl
  rw [if_neg k4, if_neg k5, if_neg k4, if_neg k5]
  rcases hw with rfl | rfl | rfl | rfl | rfl <;> rfl
theorem mark_an {I J : jI} (i w : Int32) (hG : gG aGI I) (q : RD2 I J) : ∃ r r', d79 i w I = some r ∧ d160 i w J = some r' ∧ r.1 = r'.1 := by
  have c := RD_cur hG q
  have hp := gi_packets hG
  have c3 : J 31 0 3 = I 4 1 6 := c.1.1.1
  have z0 : (0 : Int32).toInt = 0 := rfl
  unfold d79 d160
  rw [has_c, isP_m (by rw [c3]; exact hp), c3, in_i]
  by_cases h1 : 0 ≤ i.toInt ∧ i.toInt < (I 4 1 6).toInt
  · rw [if_pos h1, if_neg one0, if_neg one0]
    obtain ⟨hi, hi5, hm0⟩ := RD_hi c h1
    have ai := c.1.2.2.1 _ hi
    by_cases h2 : 1 ≤ w.toInt ∧ w.toInt ≤ 5
    · have hw : w = 1 ∨ w = 2 ∨ w = 3 ∨ w = 4 ∨ w = 5 := by
        have : w.toInt = 1 ∨ w.toInt = 2 ∨ w.toInt = 3 ∨ w.toInt = 4 ∨ w.toInt = 5 := by omega
        rcases this with z | z | z | z | z
        · exact Or.inl (eq_t.mpr z)
        · exact Or.inr (Or.inl (eq_t.mpr z))
        · exact Or.inr (Or.inr (Or.inl (eq_t.mpr z)))
        · exact Or.inr (Or.inr (Or.inr (Or.inl (eq_t.mpr z))))
        · exact Or.inr (Or.inr (Or.inr (Or.inr (eq_t.mpr z))))
      rw [if_neg (show ¬ w ≤ 0 by rw [le_t, z0]; omega), if_pos (show w < 6 by rw [lt_t]; show w.toInt < 6; omega), if_pos (show (1 : Int64).toInt ≤ w.toInt ∧ w.toInt ≤ (5 : Int64).toInt from h2), if_neg one0]
      have i23 : Int32.toNatClampNeg (23 + i) = 23 + i.toNatClampNeg := by rw [(ixa (a := 23) (by decide) (by decide) h1.1 (by omega)).2]; rfl
      have i17 : Int32.toNatClampNeg (17 + i) = 17 + i.toNatClampNeg := by rw [(ixa (a := 17) (by decide) (by decide) h1.1 (by omega)).2]; rfl
      have i6 : Int32.toNatClampNeg 6 = 1 + 5 := rfl
      have c01 := card01 hG
      unfold d159
      rw [ai.2.1, i23, ai.1.2, i17, ai.1.1, i6, c.1.2.2.2 5 (by decide), ai.2.2, cost_cm hG c h1.1 hi, cost_cm hG c h1.1 hi, got_cm c h1.1 hi, kps_cm c hi, cost_m (Or.inl rfl), cost_m (Or.inr rfl), cost_m c01]
      have hA := isA_cm (k := I 18 1 i.toNatClampNeg) (w := w) (I := I) (J := J) ai.2.1 hw
      by_cases h3 : d3 (I 18 1 i.toNatClampNeg) w I = 0
      · rw [if_pos h3, if_pos (hA.mp h3)]
        exact ⟨_, _, rfl, rfl, rfl⟩
      · rw [if_neg h3, if_neg (fun z => h3 (hA.mpr z))]
        unfold d41
        rcases hw with rfl | rfl | rfl | rfl | rfl <;> exact ⟨_, _, rfl, rfl, rfl⟩
    · rw [if_neg (show ¬ ((1 : Int64).toInt ≤ w.toInt ∧ w.toInt ≤ (5 : Int64).toInt) from h2), if_pos rfl]
      by_cases h3 : w ≤ 0
      · rw [if_pos h3]
        exact ⟨_, _, rfl, rfl, rfl⟩
      · rw [if_neg h3, if_neg (show ¬ w < 6 from fun z => by rw [lt_t] at z; have z : w.toInt < 6 := z; rw [le_t, z0] at h3; exact h2 ⟨by omega, by omega⟩)]
        exact ⟨_, _, rfl, rfl, rfl⟩
  · rw [if_neg h1, if_pos rfl, if_pos rfl]
    exact ⟨_, _, rfl, rfl, rfl⟩
theorem cost_1 {k p c : Int32} (hp : 0 ≤ p.toInt ∧ p.toInt ≤ 99) : 0 ≤ (kost k 1 p c).toInt ∧ (kost k 1 p c).toInt ≤ 99 := by
  have one : (1 : Int32).toInt = 1 := rfl
  have e1 : (1 * p).toInt = p.toInt := by rw [i32_mul (by rw [one]; omega), one]; omega
  have e6 : 0 ≤ (d6 (1 * p) c zI).toInt ∧ (d6 (1 * p) c zI).toInt ≤ 99 := by
    unfold d6
    by_cases h : c = 0
    · rw [if_pos h, e1]; exact hp
    · rw [if_neg h]
      have three : (3 : Int32).toInt = 3 := rfl
      have four : (4 : Int32).toInt = 4 := rfl
      have e3 : (1 * p * 3).toInt = p.toInt * 3 := by rw [i32_mul (by rw [e1, three]; omega), e1, three]
      rw [td32 (by decide), e3, four, Int.tdiv_eq_ediv_of_nonneg (by omega)]
      omega
  have eh : ((1 - 1 / 3) * p).toInt = p.toInt := e1
  unfold kost d5
  by_cases h1 : k = 1
  · rw [if_pos h1]; exact e6
  rw [if_neg h1]
  by_cases h2 : k = 2
  · rw [if_pos h2, eh]; exact hp
  rw [if_neg h2]
  by_cases h3 : k = 3
  · have two : (2 : Int32).toInt = 2 := rfl
    rw [if_pos h3, td32 (by decide), e1, two, Int.tdiv_eq_ediv_of_nonneg (by omega)]
    omega
  rw [if_neg h3]
  by_cases h4 : k = 4
  · rw [if_pos h4]
    by_cases g : 0 < d6 (1 * p) c zI - 1
    · rw [if_pos g, i32_sub (by omega), one]
      rw [lt_t, i32_sub (by omega), one] at g
      have g : 0 < (d6 (1 * p) c zI).toInt - 1 := g
      omega
    · rw [if_neg g]; decide
  rw [if_neg h4]
  by_cases h5 : k = 5
  · rw [if_pos h5, eh]; exact hp
  rw [if_neg h5, e1]
  exact hp
end
section
theorem lay_l : ∀ (N F : Nat) (x : Int32) (Y : jI), x.toInt + (N : Int) = 29 → 0 ≤ x.toInt → N < F → ∃ r, d185_2 F x Y = some r ∧ (∀ j, r 32 0 j = if 4596 + x.toNatClampNeg ≤ j ∧ j < 4625 then Y 32 0 (j - 4596) else Y 32 0 j) ∧ ∀ g, ¬ g = 32 → r g = Y g
  | _, 0, _, _, _, _, h => absurd h (by omega)
  | 0, F + 1, x, Y, hx, h0, _ => by
    have nx := cl_t h0
    rw [d185_2, if_pos (show (29 : Int32) ≤ x by rw [le_t]; show (29 : Int) ≤ _; omega)]
    exact ⟨_, rfl, fun j => by rw [if_neg (by omega)], fun _ _ => rfl⟩
  | N + 1, F + 1, x, Y, hx, h0, hF => by
    have nx := cl_t h0
    have e := i32_inc (x := x) (by omega)
    have nx1 := cl_t (x := x + 1) (by omega)
    have xn : (x + 1).toNatClampNeg = x.toNatClampNeg + 1 := by omega
    have ix : Int32.toNatClampNeg (4596 + x) = 4596 + x.toNatClampNeg := by rw [(ixa (a := 4596) (by decide) (by decide) h0 (by omega)).2]; rfl
    rw [d185_2, if_neg (show ¬ (29 : Int32) ≤ x by rw [le_t]; show ¬ (29 : Int) ≤ _; omega), ix]
    obtain ⟨r, r1, r2, r3⟩ := lay_l N F (x + 1) (jup Y 32 0 (4596 + x.toNatClampNeg) (Y 32 0 x.toNatClampNeg)) (by omega) (by omega) (by omega)
    refine ⟨r, r1, fun j => ?_, fun g h => (r3 g h).trans (jup_g h)⟩
    rw [r2, xn, jup_c, jup_c]
    by_cases c : 4596 + x.toNatClampNeg ≤ j ∧ j < 4625
    · rw [if_pos c]
      by_cases c2 : j = 4596 + x.toNatClampNeg
      · rw [if_neg (by omega), if_pos c2, show j - 4596 = x.toNatClampNeg by omega]
      · rw [if_pos (by omega), if_neg (by omega)]
    · rw [if_neg c, if_neg (by omega), if_neg (by omega)]
theorem lay_m {Y : jI} : ∃ r, d185 Y = some r ∧ (∀ j, j < 29 → r 32 0 (4596 + j) = Y 32 0 j) ∧ (∀ j, j < 4596 → r 32 0 j = Y 32 0 j) ∧ ∀ g, ¬ g = 32 → r g = Y g := by
  obtain ⟨r, r1, r2, r3⟩ := lay_l 29 70 0 Y (by decide) (by decide) (by decide)
  have c0 : Int32.toNatClampNeg 0 = 0 := rfl
  rw [c0] at r2
  unfold d185
  rw [r1]
  refine ⟨r, rfl, fun j hj => ?_, fun j hj => ?_, r3⟩
  · rw [r2, if_pos (by omega), show 4596 + j - 4596 = j by omega]
  · rw [r2, if_neg (by omega)]
end
section
theorem RD_mid {W : List aR} {I I1 : jI} {L L1 : jL} (hw : rApart W rdM = true) (hG : gG aGI I) (q : RD2 I I) (h : gR W I L I1 L1) : RD2 I I1 := RD_cells hG q (fun _ _ _ _ => rfl) (fun g i j z => (h g i j (rApart_of hw z)).1)
end
