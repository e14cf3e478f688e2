/-! the calls that change houses, as the law makes them -/
noncomputable def cdC : List Nat := [6, 18, 19, 20, 21, 22, 23, 5006, 5007, 5008, 5009, 5010, 5011, 5012, 5013, 5014, 5015]
noncomputable def cdM : List Nat := [32, 33, 34, 32001, 32002, 32003]
theorem cd_C {g i j : Nat} (h : gI rdC g i j) : jcd g j ∈ cdC := by
  obtain ⟨r, hr, e, -, -, a3, a4⟩ := h
  simp only [rdC, List.mem_cons, List.not_mem_nil, or_false] at hr
  rcases hr with rfl | rfl | rfl | rfl | rfl | rfl | rfl | rfl | rfl <;> cases e
  · have : j = 6 ∨ j = 7 ∨ j = 8 ∨ j = 9 ∨ j = 10 ∨ j = 11 ∨ j = 12 ∨ j = 13 ∨ j = 14 ∨ j = 15 := by simp at a3 a4; omega
    rcases this with rfl | rfl | rfl | rfl | rfl | rfl | rfl | rfl | rfl | rfl <;> decide
  · have : j = 9 ∨ j = 10 ∨ j = 11 ∨ j = 12 ∨ j = 13 ∨ j = 14 ∨ j = 15 := by simp at a3 a4; omega
    rcases this with rfl | rfl | rfl | rfl | rfl | rfl | rfl <;> decide
  all_goals simp [jcd, cdC]
theorem cd_M {g i j : Nat} (h : gI rdM g i j) : jcd g j ∈ cdM := by
  obtain ⟨r, hr, e, -, -, a3, a4⟩ := h
  simp only [rdM, List.mem_cons, List.not_mem_nil, or_false] at hr
  rcases hr with rfl | rfl | rfl | rfl <;> cases e
  · have : j = 1 ∨ j = 2 ∨ j = 3 := by simp at a3 a4; omega
    rcases this with rfl | rfl | rfl <;> decide
  all_goals simp [jcd, cdM]
theorem cd_no {A W : List Nat} (hw : A.all (fun c => !(jel c W)) = true) {c : Nat} (hc : c ∈ A) : jel c W = false := by
  have := List.all_eq_true.mp hw c hc
  cases e : jel c W with
  | false => rfl
  | true => rw [e] at this; cases this
theorem RD_frM {W : List Nat} {I J J' : jI} (hG : gG aGI I) (q : RD2 I J) (f : fr W J J') (hw : cdM.all (fun c => !(jel c W)) = true) : RD2 I J' := RD_cells hG q (fun _ _ _ _ => rfl) (fun g i j z => f g i j (cd_no hw (cd_M z)))
theorem RD_frC {W : List Nat} {I I' J : jI} (hG : gG aGI I) (q : RD2 I J) (f : fr W I I') (hw : cdC.all (fun c => !(jel c W)) = true) : RD2 I' J := RD_cells hG q (fun g i j z => f g i j (cd_no hw (cd_C z))) (fun _ _ _ _ => rfl)
theorem RD_fr {W : List Nat} {I I' : jI} (hG : gG aGI I) (q : RD2 I I) (f : fr W I I') (hw : (cdC ++ cdM).all (fun c => !(jel c W)) = true) : RD2 I' I' := RD_cells hG q (fun g i j z => f g i j (cd_no hw (List.mem_append_left _ (cd_C z)))) (fun g i j z => f g i j (cd_no hw (List.mem_append_right _ (cd_M z))))
theorem pKR {m : Nat} {c : aK} (h : aKP aGI m c) {d : Nat} {as : List jV} {I : jI} {L : jL} (has : aAs c.1 as) (hG : gG aGI I) : jPM d m as (I, L) (fun _ σ => gR c.2.2.1 I L σ.1 σ.2) := pK h has hG (fun _ _ _ _ r _ => r)
noncomputable def rtW : List aR := [(16, (0, 0), (0, 3)), (30, (0, 3), (0, 59)), (37, (0, 0), (0, 3)), (38, (0, 0), (0, 239))]
theorem RT_gR {W : List aR} {I I' : jI} {L L' : jL} (hw : rApart W rtW = true) (q : RT I) (h : gR W I L I' L') : RT I' := by
  have key : ∀ g i j, gI rtW g i j → I' g i j = I g i j := fun g i j z => (h g i j (rApart_of hw z)).1
  refine ⟨fun t ht => ?_, fun t j ht hj => ?_⟩
  · rw [key 37 0 t ⟨(37, (0, 0), (0, 3)), by decide, rfl, by simp, by simp, by simp, by simp; omega⟩, key 16 0 t ⟨(16, (0, 0), (0, 3)), by decide, rfl, by simp, by simp, by simp, by simp; omega⟩]
    exact q.1 t ht
  · rw [key 38 0 (60 * t + j) ⟨(38, (0, 0), (0, 239)), by decide, rfl, by simp, by simp, by simp; omega, by simp; omega⟩, key 30 t j ⟨(30, (0, 3), (0, 59)), by decide, rfl, by simp, by simp; omega, by simp, by simp; omega⟩]
    exact q.2 t j ht hj
theorem Pq81 {d : Nat} {a1 : Int32} {a2 : Int32} {I : jI} {L : jL} (hG : gG aGI I) (hJ : jJ I) (q : RD2 I I) : jPM d 81 [.inr (0, 0), .inl (.inl a1), .inl (.inl a2)] (I, L) (fun v σ => (∃ r, d81 a1 a2 I = some r ∧ v = some (.inl (.inl r.1)) ∧ σ.1 = r.2) ∧ fr [19, 20, 22, 23, 5009, 5010, 5011, 5012, 5013, 5014, 5015] I σ.1) := by
  obtain ⟨r, r', e, -⟩ := buy_eq a1 a2 hG q
  exact jPM_and (D81 e ⟨r, e, rfl, rfl⟩) (Fx81 (fun _ I' L' f => f))
theorem Pq166 {d : Nat} {a1 : Int32} {a2 : Int32} {I I1 : jI} {L : jL} (hG : gG aGI I) (g1 : gG aGI I1) (hJ : jJ I) (q : RD2 I I) (f : fr [19, 20, 22, 23, 5009, 5010, 5011, 5012, 5013, 5014, 5015] I I1) : jPM d 166 [.inr (31, 0), .inl (.inl a1), .inl (.inl a2)] (I1, L) (fun v σ => (∃ r, d166 a1 a2 I1 = some r ∧ v = some (.inl (.inl r.1)) ∧ σ.1 = r.2) ∧ fr [32] I1 σ.1) := by
  obtain ⟨r, r', -, e, -⟩ := buy_eq a1 a2 hG (RD_frM hG q f rfl)
  exact jPM_and (D166 e ⟨r', e, rfl, rfl⟩) (Fx166 (fun _ I' L' f => f))
theorem Qq81 {a1 : Int32} {a2 : Int32} {x1 x2 : Int32} {I I1 I2 : jI} (hG : gG aGI I) (g1 : gG aGI I1) (hJ : jJ I) (q : RD2 I I) (q1 : (∃ r, d81 a1 a2 I = some r ∧ (some (.inl (.inl x1)) : Option jV) = some (.inl (.inl r.1)) ∧ I1 = r.2) ∧ fr [19, 20, 22, 23, 5009, 5010, 5011, 5012, 5013, 5014, 5015] I I1) (q2 : (∃ r, d166 a1 a2 I1 = some r ∧ (some (.inl (.inl x2)) : Option jV) = some (.inl (.inl r.1)) ∧ I2 = r.2) ∧ fr [32] I1 I2) : x1 = x2 ∧ RD2 I2 I2 := by
  obtain ⟨⟨s, c1, c2, c3⟩, f⟩ := q1
  obtain ⟨r, r', e, e', k, z⟩ := buy_eq a1 a2 hG (RD_frM hG q f rfl)
  obtain ⟨⟨s', b1, b2, b3⟩, f2⟩ := q2
  rw [e] at c1
  rw [e'] at b1
  cases c1
  cases b1
  cases c2
  cases b2
  rw [← b3] at z
  rw [← c3] at z
  exact ⟨k, RD_frC g1 z f2 rfl⟩
theorem Pq82 {d : Nat} {I : jI} {L : jL} (hG : gG aGI I) (hJ : jJ I) (q : RD2 I I) : jPM d 82 [.inr (0, 0)] (I, L) (fun v σ => (∃ r, d82 I = some r ∧ v = some (.inl (.inl r.1)) ∧ σ.1 = r.2) ∧ fr [19, 20, 22, 23, 5009, 5010, 5011, 5012, 5013, 5014, 5015] I σ.1) := by
  obtain ⟨r, r', e, -⟩ := week_eq hG q
  exact jPM_and (D82 e ⟨r, e, rfl, rfl⟩) (Fx82 (fun _ I' L' f => f))
theorem Pq168 {d : Nat} {I I1 : jI} {L : jL} (hG : gG aGI I) (g1 : gG aGI I1) (hJ : jJ I) (q : RD2 I I) (f : fr [19, 20, 22, 23, 5009, 5010, 5011, 5012, 5013, 5014, 5015] I I1) : jPM d 168 [.inr (31, 0)] (I1, L) (fun v σ => (∃ r, d168 I1 = some r ∧ v = some (.inl (.inl r.1)) ∧ σ.1 = r.2) ∧ fr [32] I1 σ.1) := by
  obtain ⟨r, r', -, e, -⟩ := week_eq hG (RD_frM hG q f rfl)
  exact jPM_and (D168 e ⟨r', e, rfl, rfl⟩) (Fx168 (fun _ I' L' f => f))
theorem Qq82 {x1 x2 : Int32} {I I1 I2 : jI} (hG : gG aGI I) (g1 : gG aGI I1) (hJ : jJ I) (q : RD2 I I) (q1 : (∃ r, d82 I = some r ∧ (some (.inl (.inl x1)) : Option jV) = some (.inl (.inl r.1)) ∧ I1 = r.2) ∧ fr [19, 20, 22, 23, 5009, 5010, 5011, 5012, 5013, 5014, 5015] I I1) (q2 : (∃ r, d168 I1 = some r ∧ (some (.inl (.inl x2)) : Option jV) = some (.inl (.inl r.1)) ∧ I2 = r.2) ∧ fr [32] I1 I2) : x1 = x2 ∧ RD2 I2 I2 := by
  obtain ⟨⟨s, c1, c2, c3⟩, f⟩ := q1
  obtain ⟨r, r', e, e', k, z⟩ := week_eq hG (RD_frM hG q f rfl)
  obtain ⟨⟨s', b1, b2, b3⟩, f2⟩ := q2
  rw [e] at c1
  rw [e'] at b1
  cases c1
  cases b1
  cases c2
  cases b2
  rw [← b3] at z
  rw [← c3] at z
  exact ⟨k, RD_frC g1 z f2 rfl⟩
theorem Pq83 {d : Nat} {a1 : Int32} {I : jI} {L : jL} (hG : gG aGI I) (hJ : jJ I) (q : RD2 I I) : jPM d 83 [.inr (0, 0), .inl (.inl a1)] (I, L) (fun v σ => (∃ r, d83 a1 I = some r ∧ v = some (.inl (.inl r.1)) ∧ σ.1 = r.2) ∧ fr [19, 20, 22, 23, 5009, 5010, 5011, 5012, 5013, 5014, 5015] I σ.1) := by
  obtain ⟨r, r', e, -⟩ := shrink_eq a1 hG q
  exact jPM_and (D83 e ⟨r, e, rfl, rfl⟩) (Fx83 (fun _ I' L' f => f))
theorem Pq169 {d : Nat} {a1 : Int32} {I I1 : jI} {L : jL} (hG : gG aGI I) (g1 : gG aGI I1) (hJ : jJ I) (q : RD2 I I) (f : fr [19, 20, 22, 23, 5009, 5010, 5011, 5012, 5013, 5014, 5015] I I1) : jPM d 169 [.inr (31, 0), .inl (.inl a1)] (I1, L) (fun v σ => (∃ r, d169 a1 I1 = some r ∧ v = some (.inl (.inl r.1)) ∧ σ.1 = r.2) ∧ fr [32] I1 σ.1) := by
  obtain ⟨r, r', -, e, -⟩ := shrink_eq a1 hG (RD_frM hG q f rfl)
  exact jPM_and (D169 e ⟨r', e, rfl, rfl⟩) (Fx169 (fun _ I' L' f => f))
theorem Qq83 {a1 : Int32} {x1 x2 : Int32} {I I1 I2 : jI} (hG : gG aGI I) (g1 : gG aGI I1) (hJ : jJ I) (q : RD2 I I) (q1 : (∃ r, d83 a1 I = some r ∧ (some (.inl (.inl x1)) : Option jV) = some (.inl (.inl r.1)) ∧ I1 = r.2) ∧ fr [19, 20, 22, 23, 5009, 5010, 5011, 5012, 5013, 5014, 5015] I I1) (q2 : (∃ r, d169 a1 I1 = some r ∧ (some (.inl (.inl x2)) : Option jV) = some (.inl (.inl r.1)) ∧ I2 = r.2) ∧ fr [32] I1 I2) : x1 = x2 ∧ RD2 I2 I2 := by
  obtain ⟨⟨s, c1, c2, c3⟩, f⟩ := q1
  obtain ⟨r, r', e, e', k, z⟩ := shrink_eq a1 hG (RD_frM hG q f rfl)
  obtain ⟨⟨s', b1, b2, b3⟩, f2⟩ := q2
  rw [e] at c1
  rw [e'] at b1
  cases c1
  cases b1
  cases c2
  cases b2
  rw [← b3] at z
  rw [← c3] at z
  exact ⟨k, RD_frC g1 z f2 rfl⟩
theorem Pq84 {d : Nat} {a1 : Int32} {a2 : Int32} {I : jI} {L : jL} (hG : gG aGI I) (hJ : jJ I) (q : RD2 I I) : jPM d 84 [.inr (0, 0), .inl (.inl a1), .inl (.inl a2)] (I, L) (fun v σ => (∃ r, d84 a1 a2 I = some r ∧ v = some (.inl (.inl r.1)) ∧ σ.1 = r.2) ∧ fr [19, 20, 22, 23, 5009, 5010, 5011, 5012, 5013, 5014, 5015] I σ.1) := by
  obtain ⟨r, r', e, -⟩ := price_eq a1 a2 hG q
  exact jPM_and (D84 e ⟨r, e, rfl, rfl⟩) (Fx84 (fun _ I' L' f => f))
theorem Pq171 {d : Nat} {a1 : Int32} {a2 : Int32} {I I1 : jI} {L : jL} (hG : gG aGI I) (g1 : gG aGI I1) (hJ : jJ I) (q : RD2 I I) (f : fr [19, 20, 22, 23, 5009, 5010, 5011, 5012, 5013, 5014, 5015] I I1) : jPM d 171 [.inr (31, 0), .inl (.inl a1), .inl (.inl a2)] (I1, L) (fun v σ => (∃ r, d171 a1 a2 I1 = some r ∧ v = some (.inl (.inl r.1)) ∧ σ.1 = r.2) ∧ fr [32] I1 σ.1) := by
  obtain ⟨r, r', -, e, -⟩ := price_eq a1 a2 hG (RD_frM hG q f rfl)
  exact jPM_and (D171 e ⟨r', e, rfl, rfl⟩) (Fx171 (fun _ I' L' f => f))
theorem Qq84 {a1 : Int32} {a2 : Int32} {x1 x2 : Int32} {I I1 I2 : jI} (hG : gG aGI I) (g1 : gG aGI I1) (hJ : jJ I) (q : RD2 I I) (q1 : (∃ r, d84 a1 a2 I = some r ∧ (some (.inl (.inl x1)) : Option jV) = some (.inl (.inl r.1)) ∧ I1 = r.2) ∧ fr [19, 20, 22, 23, 5009, 5010, 5011, 5012, 5013, 5014, 5015] I I1) (q2 : (∃ r, d171 a1 a2 I1 = some r ∧ (some (.inl (.inl x2)) : Option jV) = some (.inl (.inl r.1)) ∧ I2 = r.2) ∧ fr [32] I1 I2) : x1 = x2 ∧ RD2 I2 I2 := by
  obtain ⟨⟨s, c1, c2, c3⟩, f⟩ := q1
  obtain ⟨r, r', e, e', k, z⟩ := price_eq a1 a2 hG (RD_frM hG q f rfl)
  obtain ⟨⟨s', b1, b2, b3⟩, f2⟩ := q2
  rw [e] at c1
  rw [e'] at b1
  cases c1
  cases b1
  cases c2
  cases b2
  rw [← b3] at z
  rw [← c3] at z
  exact ⟨k, RD_frC g1 z f2 rfl⟩
theorem Pq85 {d : Nat} {a1 : Int32} {I : jI} {L : jL} (hG : gG aGI I) (hJ : jJ I) (q : RD2 I I) : jPM d 85 [.inr (0, 0), .inl (.inl a1)] (I, L) (fun v σ => (∃ r, d85 a1 I = some r ∧ v = some (.inl (.inl r.1)) ∧ σ.1 = r.2) ∧ fr [19, 20, 22, 23, 5009, 5010, 5011, 5012, 5013, 5014, 5015] I σ.1) := by
  obtain ⟨r, r', e, -⟩ := card_eq a1 hG q
  exact jPM_and (D85 e ⟨r, e, rfl, rfl⟩) (Fx85 (fun _ I' L' f => f))
theorem Pq172 {d : Nat} {a1 : Int32} {I I1 : jI} {L : jL} (hG : gG aGI I) (g1 : gG aGI I1) (hJ : jJ I) (q : RD2 I I) (f : fr [19, 20, 22, 23, 5009, 5010, 5011, 5012, 5013, 5014, 5015] I I1) : jPM d 172 [.inr (31, 0), .inl (.inl a1)] (I1, L) (fun v σ => (∃ r, d172 a1 I1 = some r ∧ v = some (.inl (.inl r.1)) ∧ σ.1 = r.2) ∧ fr [32] I1 σ.1) := by
  obtain ⟨r, r', -, e, -⟩ := card_eq a1 hG (RD_frM hG q f rfl)
  exact jPM_and (D172 e ⟨r', e, rfl, rfl⟩) (Fx172 (fun _ I' L' f => f))
theorem Qq85 {a1 : Int32} {x1 x2 : Int32} {I I1 I2 : jI} (hG : gG aGI I) (g1 : gG aGI I1) (hJ : jJ I) (q : RD2 I I) (q1 : (∃ r, d85 a1 I = some r ∧ (some (.inl (.inl x1)) : Option jV) = some (.inl (.inl r.1)) ∧ I1 = r.2) ∧ fr [19, 20, 22, 23, 5009, 5010, 5011, 5012, 5013, 5014, 5015] I I1) (q2 : (∃ r, d172 a1 I1 = some r ∧ (some (.inl (.inl x2)) : Option jV) = some (.inl (.inl r.1)) ∧ I2 = r.2) ∧ fr [32] I1 I2) : x1 = x2 ∧ RD2 I2 I2 := by
  obtain ⟨⟨s, c1, c2, c3⟩, f⟩ := q1
  obtain ⟨r, r', e, e', k, z⟩ := card_eq a1 hG (RD_frM hG q f rfl)
  obtain ⟨⟨s', b1, b2, b3⟩, f2⟩ := q2
  rw [e] at c1
  rw [e'] at b1
  cases c1
  cases b1
  cases c2
  cases b2
  rw [← b3] at z
  rw [← c3] at z
  exact ⟨k, RD_frC g1 z f2 rfl⟩
theorem Pq86 {d : Nat} {a1 : Int32} {I : jI} {L : jL} (hG : gG aGI I) (hJ : jJ I) (q : RD2 I I) : jPM d 86 [.inr (0, 0), .inl (.inl a1)] (I, L) (fun v σ => (∃ r, d86 a1 I = some r ∧ v = some (.inl (.inl r.1)) ∧ σ.1 = r.2) ∧ fr [18, 19, 20, 21, 22, 23, 5006, 5007, 5008, 5009, 5010, 5011, 5012, 5013, 5014, 5015] I σ.1) := by
  obtain ⟨r, r', e, -⟩ := undo_eq a1 hG hJ q
  exact jPM_and (D86 e ⟨r, e, rfl, rfl⟩) (Fx86 (fun _ I' L' f => f))
theorem Pq173 {d : Nat} {a1 : Int32} {I I1 : jI} {L : jL} (hG : gG aGI I) (g1 : gG aGI I1) (hJ : jJ I) (q : RD2 I I) (f : fr [18, 19, 20, 21, 22, 23, 5006, 5007, 5008, 5009, 5010, 5011, 5012, 5013, 5014, 5015] I I1) : jPM d 173 [.inr (31, 0), .inl (.inl a1)] (I1, L) (fun v σ => (∃ r, d173 a1 I1 = some r ∧ v = some (.inl (.inl r.1)) ∧ σ.1 = r.2) ∧ fr [32] I1 σ.1) := by
  obtain ⟨r, r', -, e, -⟩ := undo_eq a1 hG hJ (RD_frM hG q f rfl)
  exact jPM_and (D173 e ⟨r', e, rfl, rfl⟩) (Fx173 (fun _ I' L' f => f))
theorem Qq86 {a1 : Int32} {x1 x2 : Int32} {I I1 I2 : jI} (hG : gG aGI I) (g1 : gG aGI I1) (hJ : jJ I) (q : RD2 I I) (q1 : (∃ r, d86 a1 I = some r ∧ (some (.inl (.inl x1)) : Option jV) = some (.inl (.inl r.1)) ∧ I1 = r.2) ∧ fr [18, 19, 20, 21, 22, 23, 5006, 5007, 5008, 5009, 5010, 5011, 5012, 5013, 5014, 5015] I I1) (q2 : (∃ r, d173 a1 I1 = some r ∧ (some (.inl (.inl x2)) : Option jV) = some (.inl (.inl r.1)) ∧ I2 = r.2) ∧ fr [32] I1 I2) : RD2 I2 I2 := by
  obtain ⟨⟨s, c1, c2, c3⟩, f⟩ := q1
  obtain ⟨r, r', e, e', z⟩ := undo_eq a1 hG hJ (RD_frM hG q f rfl)
  obtain ⟨⟨s', b1, b2, b3⟩, f2⟩ := q2
  rw [e] at c1
  rw [e'] at b1
  cases c1
  cases b1
  cases c2
  cases b2
  rw [← b3] at z
  rw [← c3] at z
  exact RD_frC g1 z f2 rfl
theorem Pq87 {d : Nat} {a1 : Int32} {I : jI} {L : jL} (hG : gG aGI I) (hJ : jJ I) (q : RD2 I I) : jPM d 87 [.inr (0, 0), .inl (.inl a1)] (I, L) (fun v σ => (∃ r, d87 a1 I = some r ∧ v = some (.inl (.inl r.1)) ∧ σ.1 = r.2) ∧ fr [6, 18, 19, 20, 21, 22, 23, 5006, 5007, 5008, 5009, 5010, 5011, 5012, 5013, 5014, 5015] I σ.1) := by
  obtain ⟨r, r', e, -⟩ := keep_eq a1 hG q
  exact jPM_and (D87 e ⟨r, e, rfl, rfl⟩) (Fx87 (fun _ I' L' f => f))
theorem Pq175 {d : Nat} {a1 : Int32} {I I1 : jI} {L : jL} (hG : gG aGI I) (g1 : gG aGI I1) (hJ : jJ I) (q : RD2 I I) (f : fr [6, 18, 19, 20, 21, 22, 23, 5006, 5007, 5008, 5009, 5010, 5011, 5012, 5013, 5014, 5015] I I1) : jPM d 175 [.inr (31, 0), .inl (.inl a1)] (I1, L) (fun v σ => (∃ r, d175 a1 I1 = some r ∧ v = some (.inl (.inl r.1)) ∧ σ.1 = r.2) ∧ fr [32] I1 σ.1) := by
  obtain ⟨r, r', -, e, -⟩ := keep_eq a1 hG (RD_frM hG q f rfl)
  exact jPM_and (D175 e ⟨r', e, rfl, rfl⟩) (Fx175 (fun _ I' L' f => f))
theorem Qq87 {a1 : Int32} {x1 x2 : Int32} {I I1 I2 : jI} (hG : gG aGI I) (g1 : gG aGI I1) (hJ : jJ I) (q : RD2 I I) (q1 : (∃ r, d87 a1 I = some r ∧ (some (.inl (.inl x1)) : Option jV) = some (.inl (.inl r.1)) ∧ I1 = r.2) ∧ fr [6, 18, 19, 20, 21, 22, 23, 5006, 5007, 5008, 5009, 5010, 5011, 5012, 5013, 5014, 5015] I I1) (q2 : (∃ r, d175 a1 I1 = some r ∧ (some (.inl (.inl x2)) : Option jV) = some (.inl (.inl r.1)) ∧ I2 = r.2) ∧ fr [32] I1 I2) : x1 = x2 ∧ RD2 I2 I2 := by
  obtain ⟨⟨s, c1, c2, c3⟩, f⟩ := q1
  obtain ⟨r, r', e, e', k, z⟩ := keep_eq a1 hG (RD_frM hG q f rfl)
  obtain ⟨⟨s', b1, b2, b3⟩, f2⟩ := q2
  rw [e] at c1
  rw [e'] at b1
  cases c1
  cases b1
  cases c2
  cases b2
  rw [← b3] at z
  rw [← c3] at z
  exact ⟨k, RD_frC g1 z f2 rfl⟩
theorem Pq88 {d : Nat} {a1 : Int32} {I : jI} {L : jL} (hG : gG aGI I) (hJ : jJ I) (q : RD2 I I) : jPM d 88 [.inr (0, 0), .inl (.inl a1)] (I, L) (fun v σ => (∃ r, d88 a1 I = some r ∧ v = some (.inl (.inl r.1)) ∧ σ.1 = r.2) ∧ fr [12, 18, 19, 20, 21, 22, 23, 1013, 5006, 5007, 5008, 5009, 5010, 5011, 5012, 5013, 5014, 5015] I σ.1) := by
  obtain ⟨r, r', e, -⟩ := on_eq a1 hG q
  exact jPM_and (D88 e ⟨r, e, rfl, rfl⟩) (Fx88 (fun _ I' L' f => f))
theorem Pq176 {d : Nat} {a1 : Int32} {I I1 : jI} {L : jL} (hG : gG aGI I) (g1 : gG aGI I1) (hJ : jJ I) (q : RD2 I I) (f : fr [12, 18, 19, 20, 21, 22, 23, 1013, 5006, 5007, 5008, 5009, 5010, 5011, 5012, 5013, 5014, 5015] I I1) : jPM d 176 [.inr (31, 0), .inl (.inl a1)] (I1, L) (fun v σ => (∃ r, d176 a1 I1 = some r ∧ v = some (.inl (.inl r.1)) ∧ σ.1 = r.2) ∧ fr [32, 39, 32013] I1 σ.1) := by
  obtain ⟨r, r', -, e, -⟩ := on_eq a1 hG (RD_frM hG q f rfl)
  exact jPM_and (D176 e ⟨r', e, rfl, rfl⟩) (Fx176 (fun _ I' L' f => f))
theorem Qq88 {a1 : Int32} {x1 x2 : Int32} {I I1 I2 : jI} (hG : gG aGI I) (g1 : gG aGI I1) (hJ : jJ I) (q : RD2 I I) (q1 : (∃ r, d88 a1 I = some r ∧ (some (.inl (.inl x1)) : Option jV) = some (.inl (.inl r.1)) ∧ I1 = r.2) ∧ fr [12, 18, 19, 20, 21, 22, 23, 1013, 5006, 5007, 5008, 5009, 5010, 5011, 5012, 5013, 5014, 5015] I I1) (q2 : (∃ r, d176 a1 I1 = some r ∧ (some (.inl (.inl x2)) : Option jV) = some (.inl (.inl r.1)) ∧ I2 = r.2) ∧ fr [32, 39, 32013] I1 I2) : x1 = x2 ∧ RD2 I2 I2 := by
  obtain ⟨⟨s, c1, c2, c3⟩, f⟩ := q1
  obtain ⟨r, r', e, e', k, z⟩ := on_eq a1 hG (RD_frM hG q f rfl)
  obtain ⟨⟨s', b1, b2, b3⟩, f2⟩ := q2
  rw [e] at c1
  rw [e'] at b1
  cases c1
  cases b1
  cases c2
  cases b2
  rw [← b3] at z
  rw [← c3] at z
  exact ⟨k, RD_frC g1 z f2 rfl⟩
theorem Pq105 {d : Nat} {a1 : Int32} {a2 : Int32} {I : jI} {L : jL} (hG : gG aGI I) (hJ : jJ I) (q : RD2 I I) : jPM d 105 [.inr (0, 0), .inl (.inl a1), .inl (.inl a2)] (I, L) (fun v σ => (∃ r, d105 a1 a2 I = some r ∧ v = some (.inl (.inl r.1)) ∧ σ.1 = r.2) ∧ fr [19, 20, 22, 23, 5009, 5010, 5011, 5012, 5013, 5014, 5015] I σ.1) := by
  obtain ⟨r, r', e, -⟩ := lots_eq a1 a2 hG hJ q
  exact jPM_and (D105 e ⟨r, e, rfl, rfl⟩) (Fx105 (fun _ I' L' f => f))
theorem Pq207 {d : Nat} {a1 : Int32} {a2 : Int32} {I I1 : jI} {L : jL} (hG : gG aGI I) (g1 : gG aGI I1) (hJ : jJ I) (q : RD2 I I) (f : fr [19, 20, 22, 23, 5009, 5010, 5011, 5012, 5013, 5014, 5015] I I1) : jPM d 207 [.inr (31, 0), .inl (.inl a1), .inl (.inl a2)] (I1, L) (fun v σ => (∃ r, d207 a1 a2 I1 = some r ∧ v = some (.inl (.inl r.1)) ∧ σ.1 = r.2) ∧ fr [32] I1 σ.1) := by
  obtain ⟨r, r', -, e, -⟩ := lots_eq a1 a2 hG hJ (RD_frM hG q f rfl)
  exact jPM_and (D207 e ⟨r', e, rfl, rfl⟩) (Fx207 (fun _ I' L' f => f))
theorem Qq105 {a1 : Int32} {a2 : Int32} {x1 x2 : Int32} {I I1 I2 : jI} (hG : gG aGI I) (g1 : gG aGI I1) (hJ : jJ I) (q : RD2 I I) (q1 : (∃ r, d105 a1 a2 I = some r ∧ (some (.inl (.inl x1)) : Option jV) = some (.inl (.inl r.1)) ∧ I1 = r.2) ∧ fr [19, 20, 22, 23, 5009, 5010, 5011, 5012, 5013, 5014, 5015] I I1) (q2 : (∃ r, d207 a1 a2 I1 = some r ∧ (some (.inl (.inl x2)) : Option jV) = some (.inl (.inl r.1)) ∧ I2 = r.2) ∧ fr [32] I1 I2) : x1 = x2 ∧ RD2 I2 I2 := by
  obtain ⟨⟨s, c1, c2, c3⟩, f⟩ := q1
  obtain ⟨r, r', e, e', k, z⟩ := lots_eq a1 a2 hG hJ (RD_frM hG q f rfl)
  obtain ⟨⟨s', b1, b2, b3⟩, f2⟩ := q2
  rw [e] at c1
  rw [e'] at b1
  cases c1
  cases b1
  cases c2
  cases b2
  rw [← b3] at z
  rw [← c3] at z
  exact ⟨k, RD_frC g1 z f2 rfl⟩
theorem Pq77 {d : Nat} {a1 : Int32} {I : jI} {L : jL} (hG : gG aGI I) (hJ : jJ I) (hT : RT I) (q : RD2 I I) : jPM d 77 [.inr (0, 0), .inl (.inl a1)] (I, L) (fun v σ => (∃ r, d77 a1 I = some r ∧ v = some (.inl (.inl r.1)) ∧ σ.1 = r.2) ∧ fr [6, 12, 17, 18, 19, 20, 21, 22, 23, 1013, 4002, 4003, 4004, 5006, 5007, 5008, 5009, 5010, 5011, 5012, 5013, 5014, 5015] I σ.1) := by
  obtain ⟨r, r', e, -⟩ := house_eq2 a1 hG hG hJ hT rfl rfl q
  exact jPM_and (D77 e ⟨r, e, rfl, rfl⟩) (Fx77 (fun _ I' L' f => f))
theorem Pq150 {d : Nat} {a1 : Int32} {I I1 : jI} {L : jL} (hG : gG aGI I) (g1 : gG aGI I1) (hJ : jJ I) (hT : RT I) (q : RD2 I I) (f : fr [6, 12, 17, 18, 19, 20, 21, 22, 23, 1013, 4002, 4003, 4004, 5006, 5007, 5008, 5009, 5010, 5011, 5012, 5013, 5014, 5015] I I1) : jPM d 150 [.inr (31, 0), .inl (.inl a1)] (I1, L) (fun v σ => (∃ r, d150 a1 I1 = some r ∧ v = some (.inl (.inl r.1)) ∧ σ.1 = r.2) ∧ fr [32, 33, 34, 39, 40, 32001, 32002, 32003, 32013, 32015, 32016, 32017, 32018, 32019, 32021] I1 σ.1) := by
  obtain ⟨r, r', -, e, -⟩ := house_eq2 a1 hG g1 hJ hT (fr_arr f (fun _ => rfl) rfl) (fr_arr f (fun _ => rfl) rfl) (RD_frM hG q f rfl)
  exact jPM_and (D150 e ⟨r', e, rfl, rfl⟩) (Fx150 (fun _ I' L' f => f))
theorem Qq77 {a1 : Int32} {x1 x2 : Int32} {I I1 I2 : jI} (hG : gG aGI I) (g1 : gG aGI I1) (hJ : jJ I) (hT : RT I) (q : RD2 I I) (q1 : (∃ r, d77 a1 I = some r ∧ (some (.inl (.inl x1)) : Option jV) = some (.inl (.inl r.1)) ∧ I1 = r.2) ∧ fr [6, 12, 17, 18, 19, 20, 21, 22, 23, 1013, 4002, 4003, 4004, 5006, 5007, 5008, 5009, 5010, 5011, 5012, 5013, 5014, 5015] I I1) (q2 : (∃ r, d150 a1 I1 = some r ∧ (some (.inl (.inl x2)) : Option jV) = some (.inl (.inl r.1)) ∧ I2 = r.2) ∧ fr [32, 33, 34, 39, 40, 32001, 32002, 32003, 32013, 32015, 32016, 32017, 32018, 32019, 32021] I1 I2) : x1 = x2 ∧ RD2 I2 I2 := by
  obtain ⟨⟨s, c1, c2, c3⟩, f⟩ := q1
  obtain ⟨r, r', e, e', k, z⟩ := house_eq2 a1 hG g1 hJ hT (fr_arr f (fun _ => rfl) rfl) (fr_arr f (fun _ => rfl) rfl) (RD_frM hG q f rfl)
  obtain ⟨⟨s', b1, b2, b3⟩, f2⟩ := q2
  rw [e] at c1
  rw [e'] at b1
  cases c1
  cases b1
  cases c2
  cases b2
  rw [← b3] at z
  rw [← c3] at z
  exact ⟨k, RD_frC g1 z f2 rfl⟩
