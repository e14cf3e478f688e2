/-! a house's standing as 28 cells, of the class and of the reference -/
noncomputable def vC (m : Nat) (I : jI) (h : Nat) : Nat → Int32 := fun k => if k < 6 then I 4 h (9 + k) else if k < 16 then I 23 h (k - 6) else if k < 22 then (if k - 16 < m then I 19 h (k - 16) else 0) else if k < 28 then (if k - 22 < m then I 20 h (k - 22) else 0) else 0
noncomputable def vM (m : Nat) (I : jI) (b : Nat) : Nat → Int32 := fun k => if k < 16 then I 32 0 (b + k) else if k < 22 then (if k - 16 < m then I 32 0 (b + k) else 0) else if k < 28 then (if k - 22 < m then I 32 0 (b + k) else 0) else 0
noncomputable def vK (m k : Nat) : Prop := k < 16 ∨ (k < 22 ∧ k - 16 < m) ∨ (22 ≤ k ∧ k < 28 ∧ k - 22 < m)
theorem vC_l {m h k : Nat} {I : jI} (hk : k < 10) : vC m I h (6 + k) = I 23 h k := by
  unfold vC
  rw [if_neg (by omega), if_pos (by omega), show 6 + k - 6 = k by omega]
theorem vC_g {m h k : Nat} {I : jI} (hk : k < m) (hm : m ≤ 6) : vC m I h (16 + k) = I 19 h k := by
  unfold vC
  rw [if_neg (by omega), if_neg (by omega), if_pos (by omega), show 16 + k - 16 = k by omega, if_pos hk]
theorem vC_p {m h k : Nat} {I : jI} (hk : k < m) (hm : m ≤ 6) : vC m I h (22 + k) = I 20 h k := by
  unfold vC
  rw [if_neg (by omega), if_neg (by omega), if_neg (by omega), if_pos (by omega), show 22 + k - 22 = k by omega, if_pos hk]
theorem vC_f {m h k : Nat} {I : jI} (hk : k < 6) : vC m I h k = I 4 h (9 + k) := by
  unfold vC
  rw [if_pos hk]
theorem vM_k {m b k : Nat} {I : jI} (hk : vK m k) : vM m I b k = I 32 0 (b + k) := by
  unfold vM
  rcases hk with h | ⟨h, h'⟩ | ⟨h, h', h''⟩
  · rw [if_pos h]
  · by_cases c : k < 16
    · rw [if_pos c]
    · rw [if_neg c, if_pos h, if_pos h']
  · rw [if_neg (by omega), if_neg (by omega), if_pos h', if_pos h'']
theorem vM_n {m b k : Nat} {I : jI} (hk : ¬ vK m k) : vM m I b k = 0 := by
  unfold vM
  have a1 : ¬ k < 16 := fun z => hk (Or.inl z)
  rw [if_neg a1]
  by_cases c : k < 22
  · rw [if_pos c, if_neg (fun z => hk (Or.inr (Or.inl ⟨c, z⟩)))]
  · rw [if_neg c]
    by_cases d : k < 28
    · rw [if_pos d, if_neg (fun z => hk (Or.inr (Or.inr ⟨by omega, d, z⟩)))]
    · rw [if_neg d]
theorem vC_n {m h k : Nat} {I : jI} (hk : ¬ vK m k) : vC m I h k = 0 := by
  unfold vC
  have a1 : ¬ k < 16 := fun z => hk (Or.inl z)
  rw [if_neg (by omega), if_neg a1]
  by_cases c : k < 22
  · rw [if_pos c, if_neg (fun z => hk (Or.inr (Or.inl ⟨c, z⟩)))]
  · rw [if_neg c]
    by_cases d : k < 28
    · rw [if_pos d, if_neg (fun z => hk (Or.inr (Or.inr ⟨by omega, d, z⟩)))]
    · rw [if_neg d]
theorem vK_28 {m k : Nat} (h : vK m k) : k < 28 := by rcases h with h | h | h <;> omega
theorem vM_ext {m b b' : Nat} {I I' : jI} (h : ∀ k, k < 28 → I' 32 0 (b' + k) = I 32 0 (b + k)) : vM m I' b' = vM m I b := by
  funext k
  by_cases c : vK m k
  · rw [vM_k c, vM_k c, h k (vK_28 c)]
  · rw [vM_n c, vM_n c]
theorem vC_ext {m h h' : Nat} {I I' : jI} (hm : m ≤ 6) (h4 : ∀ j, 9 ≤ j → j < 15 → I' 4 h' j = I 4 h j) (h23 : ∀ j, j < 10 → I' 23 h' j = I 23 h j) (h19 : ∀ j, j < 6 → I' 19 h' j = I 19 h j) (h20 : ∀ j, j < 6 → I' 20 h' j = I 20 h j) : vC m I' h' = vC m I h := by
  funext k
  by_cases c : vK m k
  · rcases c with c | ⟨c, c'⟩ | ⟨c, c', c''⟩
    · by_cases d : k < 6
      · rw [vC_f d, vC_f d, h4 _ (by omega) (by omega)]
      · obtain ⟨j, rfl⟩ : ∃ j, k = 6 + j := ⟨k - 6, by omega⟩
        rw [vC_l (by omega), vC_l (by omega), h23 j (by omega)]
    · by_cases d : k < 16
      · by_cases d' : k < 6
        · rw [vC_f d', vC_f d', h4 _ (by omega) (by omega)]
        · obtain ⟨j, rfl⟩ : ∃ j, k = 6 + j := ⟨k - 6, by omega⟩
          rw [vC_l (by omega), vC_l (by omega), h23 j (by omega)]
      · obtain ⟨j, rfl⟩ : ∃ j, k = 16 + j := ⟨k - 16, by omega⟩
        rw [vC_g (by omega) hm, vC_g (by omega) hm, h19 j (by omega)]
    · obtain ⟨j, rfl⟩ : ∃ j, k = 22 + j := ⟨k - 22, by omega⟩
      rw [vC_p (by omega) hm, vC_p (by omega) hm, h20 j (by omega)]
  · rw [vC_n c, vC_n c]
theorem vM_up {m b k : Nat} {I : jI} {v : Int32} (hk : vK m k) : vM m (jup I 32 0 (b + k) v) b = upS (vM m I b) k v := by
  funext j
  unfold upS
  by_cases c : vK m j
  · rw [vM_k c, jup_c]
    by_cases e : j = k
    · rw [if_pos (by omega), if_pos e]
    · rw [if_neg (by omega), if_neg e, vM_k c]
  · rw [vM_n c, if_neg (show ¬ j = k from fun z => c (by rw [z]; exact hk)), vM_n c]
theorem vC_4 {m h j : Nat} {I : jI} {v : Int32} (h1 : j < 6) : vC m (jup I 4 h (9 + j) v) h = upS (vC m I h) j v := by
  funext k
  unfold upS
  by_cases c : k = j
  · rw [if_pos c, c, vC_f h1, jup_c, if_pos rfl]
  · rw [if_neg c]
    unfold vC
    by_cases d : k < 6
    · rw [if_pos d, if_pos d, jup_c, if_neg (by omega)]
    · rw [if_neg d, if_neg d]
      rw [jup_g (show ¬ 23 = 4 by decide), jup_g (show ¬ 19 = 4 by decide), jup_g (show ¬ 20 = 4 by decide)]
theorem vC_23 {m h j : Nat} {I : jI} {v : Int32} (h1 : j < 10) : vC m (jup I 23 h j v) h = upS (vC m I h) (6 + j) v := by
  funext k
  unfold upS
  by_cases c : k = 6 + j
  · rw [if_pos c, c, vC_l h1, jup_c, if_pos rfl]
  · rw [if_neg c]
    unfold vC
    rw [jup_g (show ¬ 4 = 23 by decide), jup_g (show ¬ 19 = 23 by decide), jup_g (show ¬ 20 = 23 by decide)]
    by_cases d : k < 6
    · rw [if_pos d, if_pos d]
    · rw [if_neg d, if_neg d]
      by_cases e : k < 16
      · rw [if_pos e, if_pos e, jup_c, if_neg (by omega)]
      · rw [if_neg e, if_neg e]
theorem vC_19 {m h j : Nat} {I : jI} {v : Int32} (h1 : j < m) (hm : m ≤ 6) : vC m (jup I 19 h j v) h = upS (vC m I h) (16 + j) v := by
  funext k
  unfold upS
  by_cases c : k = 16 + j
  · rw [if_pos c, c, vC_g h1 hm, jup_c, if_pos rfl]
  · rw [if_neg c]
    unfold vC
    rw [jup_g (show ¬ 4 = 19 by decide), jup_g (show ¬ 23 = 19 by decide), jup_g (show ¬ 20 = 19 by decide)]
    by_cases d : k < 6
    · rw [if_pos d, if_pos d]
    · rw [if_neg d, if_neg d]
      by_cases e : k < 16
      · rw [if_pos e, if_pos e]
      · rw [if_neg e, if_neg e, jup_c, if_neg (show ¬ k - 16 = j by omega)]
theorem vC_20 {m h j : Nat} {I : jI} {v : Int32} (h1 : j < m) (hm : m ≤ 6) : vC m (jup I 20 h j v) h = upS (vC m I h) (22 + j) v := by
  funext k
  unfold upS
  by_cases c : k = 22 + j
  · rw [if_pos c, c, vC_p h1 hm, jup_c, if_pos rfl]
  · rw [if_neg c]
    unfold vC
    rw [jup_g (show ¬ 4 = 20 by decide), jup_g (show ¬ 23 = 20 by decide), jup_g (show ¬ 19 = 20 by decide)]
    by_cases d : k < 22
    · rw [if_pos d, if_pos d]
    · rw [if_neg (show ¬ k < 6 by omega), if_neg (show ¬ k < 6 by omega), if_neg (show ¬ k < 16 by omega), if_neg (show ¬ k < 16 by omega), if_neg d, if_neg d, jup_c, if_neg (show ¬ k - 22 = j by omega)]
/-! what a deed does -/
noncomputable def zI : jI := fun _ _ _ => 0
noncomputable def kost (k n p c : Int32) : Int32 := d5 k n p c zI
noncomputable def gotS (k g : Int32) : Int32 := d7 k g zI
noncomputable def kpsS (k w : Int32) : Int32 := d8 k w zI
theorem cost_c {k n p c : Int32} {I : jI} : d5 k n p c I = kost k n p c := rfl
theorem got_c {k g : Int32} {I : jI} : d7 k g I = gotS k g := rfl
theorem kps_c {k w : Int32} {I : jI} : d8 k w I = kpsS k w := rfl
theorem some_m {x : Int32} {I : jI} : d123 x I = if 0 < x then x else 0 := by
  unfold d123
  by_cases h : 0 < x
  · rw [if_pos h, if_pos (by rw [le_t]; rw [lt_t] at h; omega)]
  · rw [if_neg h]
    by_cases q : 0 ≤ x
    · rw [if_pos q]
      rw [lt_t] at h
      rw [le_t] at q
      exact eq_t.mpr (by omega)
    · rw [if_neg q]
theorem cost_m {k n p c : Int32} {I : jI} (hc : c = 0 ∨ c = 1) : d152 k p n c I = kost k n p c := by
  unfold kost d152 d5 d6
  rcases hc with rfl | rfl
  · rw [if_neg (show ¬ (0 : Int32) = 1 by decide)]
    simp only [some_m, if_true]
  · rw [if_pos rfl]
    simp only [some_m, Int32.mul_comm 3, if_neg (show ¬ (1 : Int32) = 0 by decide)]
theorem got_m {k g : Int32} {I : jI} : d154 k g I = gotS k g := rfl
noncomputable def lrd (s : Nat → Int32) : Nat → Int32 := fun k => s (6 + k)
noncomputable def stW (nd : Int32) (s : Nat → Int32) : Nat → Int32 := fun j => if j = 0 then s 0 + 1 else if j = 2 then s 2 + (nd - (eatV 10 nd (lrd s) 0).1) else if j = 3 then s 3 + (eatV 10 nd (lrd s) 0).1 else if j = 4 then s 4 + (eatV 10 nd (lrd s) 0).2 0 else if 6 ≤ j ∧ j < 15 then (eatV 10 nd (lrd s) 0).2 (j - 5) else if j = 15 then 0 else s j
noncomputable def stB (kd kp : Nat → Int32) (i : Nat) (n : Int32) (s : Nat → Int32) : Nat → Int32 := upS (upS s 1 (s 1 + kost (kd i) n (s (22 + i)) (s 5))) (6 + (kpsS (kd i) (kp i)).toNatClampNeg) (s (6 + (kpsS (kd i) (kp i)).toNatClampNeg) + n * gotS (kd i) (s (16 + i)))
noncomputable def stp (kd kp : Nat → Int32) (nd dd i v : Int32) (s : Nat → Int32) : Nat → Int32 := if dd = 0 then stB kd kp i.toNatClampNeg v s else if dd = 1 then stW nd s else if dd = 2 then upS s (16 + i.toNatClampNeg) (s (16 + i.toNatClampNeg) - 1) else if dd = 3 then upS s (22 + i.toNatClampNeg) v else upS s 5 (if v = 1 then 1 else 0)
noncomputable def anS (kd : Nat → Int32) (nd dd i v : Int32) (s : Nat → Int32) : Int32 := if dd = 0 then kost (kd i.toNatClampNeg) v (s (22 + i.toNatClampNeg)) (s 5) else if dd = 1 then (eatV 10 nd (lrd s) 0).2 0 else if dd = 2 then s (16 + i.toNatClampNeg) - 1 else if dd = 3 then s (22 + i.toNatClampNeg) else v
theorem kps_b {k w : Int32} (h : 0 ≤ w.toInt ∧ w.toInt ≤ 9) : (kpsS k w).toNatClampNeg < 10 := by
  unfold kpsS d8
  by_cases c : k = 5
  · rw [if_pos c]
    have e : (w / 2).toInt = w.toInt / 2 := by rw [td32 (by decide)]; exact Int.tdiv_eq_ediv_of_nonneg h.1
    have := cl_t (x := w / 2) (by omega)
    omega
  · rw [if_neg c]
    have := cl_t h.1
    omega
theorem got_b {k g : Int32} (h : 0 ≤ g.toInt ∧ g.toInt ≤ 9) : 0 ≤ (gotS k g).toInt ∧ (gotS k g).toInt ≤ 9 := by
  unfold gotS d7
  by_cases c : k = 3
  · rw [if_pos c]
    have e : (g / 2).toInt = g.toInt / 2 := by rw [td32 (by decide)]; exact Int.tdiv_eq_ediv_of_nonneg h.1
    omega
  · rw [if_neg c]
    exact h
