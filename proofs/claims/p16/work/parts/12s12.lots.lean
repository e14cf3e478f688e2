/-! lots -/
theorem use_tw {d m : Nat} {as : List jV} {I I' : jI} {L L' : jL} {v : Option jV} {K : jK} (h : jWPM d m as (I, L) K) (hp : ∀ (d : Nat) (k : jK), k v (I', L') → jPM d m as (I, L) k) : K v (I', L') := by
  have t := jWPM_comb d m as (I, L) K (fun w σ => w = v ∧ σ = (I', L')) h (hp _ _ ⟨rfl, rfl⟩)
  refine Classical.byContradiction (fun n => jWPM_no _ _ _ _ (jWPM_mono _ _ _ _ _ _ (fun w σ q => n ?_) t))
  obtain ⟨q1, q2, q3⟩ := q
  subst q2
  subst q3
  exact q1
noncomputable def lWk (K : jI) : Option jI := (d167 0 K).bind fun r => some r.2
noncomputable def lSh (i : Int32) (w : Int32) (K : jI) : Option jI := if w = 3 then (if K 32 0 (Int32.toNatClampNeg (17 + i)) ≤ 1 then lWk K else some (jup K 32 0 (Int32.toNatClampNeg (17 + i)) ((K 32 0 (Int32.toNatClampNeg (17 + i))) - 1))) else lWk K
noncomputable def lbM (i w : Int32) (K : jI) : Option jI := if 2 ≤ w then lSh i w K else (d164 0 i 1 K).bind fun r => if r = 0 then lSh i w K else some (d165 0 i 1 K).2
theorem lots_ml {n : Int32} {F : Nat} {lot lt : Int64} {x w i : Int32} {J : jI} (hl : lot * 48271 - lot * 48271 / 2147483647 * 2147483647 = lt) (hw : Int64.toInt32 (lt / 8 - lt / 8 / 4 * 4) = w) (hi : Int64.toInt32 (lt - lt / Int32.toInt64 (J 31 0 3) * Int32.toInt64 (J 31 0 3)) = i) : d207_58 n (F + 1) lot x J = if n ≤ x then some J else (d163 J).bind fun r => (lbM i w r).bind fun Y => d207_58 n F lt (x + 1) Y := by
  rw [d207_58, hl, hw, hi]
  by_cases h : n ≤ x
  · rw [if_pos h, if_pos h]
  · rw [if_neg h, if_neg h]
    cases d163 J with
    | none => rfl
    | some r =>
      dsimp only [Option.bind_some]
      have wk : (lWk r).bind (fun Y => d207_58 n F lt (x + 1) Y) = (d167 0 r).bind fun r3 => d207_58 n F lt (x + 1) r3.2 := by
        unfold lWk
        cases d167 0 r <;> rfl
      have sh : (lSh i w r).bind (fun Y => d207_58 n F lt (x + 1) Y) = if w = 3 then (if r 32 0 (Int32.toNatClampNeg (17 + i)) ≤ 1 then ((d167 0 r).bind fun r3 => d207_58 n F lt (x + 1) r3.2) else d207_58 n F lt (x + 1) (jup r 32 0 (Int32.toNatClampNeg (17 + i)) ((r 32 0 (Int32.toNatClampNeg (17 + i))) - 1))) else ((d167 0 r).bind fun r2 => d207_58 n F lt (x + 1) r2.2) := by
        unfold lSh
        by_cases a : w = 3
        · rw [if_pos a, if_pos a]
          by_cases b : r 32 0 (Int32.toNatClampNeg (17 + i)) ≤ 1
          · rw [if_pos b, if_pos b, wk]
          · rw [if_neg b, if_neg b]; rfl
        · rw [if_neg a, if_neg a, wk]
      unfold lbM
      by_cases a : 2 ≤ w
      · rw [if_pos a, if_pos a, sh]
      · rw [if_neg a, if_neg a]
        cases d164 0 i 1 r with
        | none => rfl
        | some z =>
          dsimp only [Option.bind_some]
          by_cases b : z = 0
          · rw [if_pos b, if_pos b, sh]
          · rw [if_neg b, if_neg b]; rfl
theorem room_k {I K : jI} {m : Nat} {i n : Int32} (hm : m ≤ 6) (k1 : vM m K 1 = vC m I 1) (k8 : K 31 0 2 = I 4 1 8) (k33 : K 33 0 i.toNatClampNeg = I 18 1 i.toNatClampNeg) (hi0 : 0 ≤ i.toInt) (hi : i.toNatClampNeg < m) : d164 0 i n K = some (if I 4 1 8 < smV 10 0 (I 23 1) 0 + n * gotS (I 18 1 i.toNatClampNeg) (I 19 1 i.toNatClampNeg) then 0 else 1) := by
  have ni := cl_t hi0
  have at_ : ∀ k, vK m k → K 32 0 (1 + k) = vC m I 1 k := fun k hk => by rw [← k1, vM_k hk]
  have s : smV 10 0 (fun k => K 32 0 (0 + 7 + k)) 0 = smV 10 0 (I 23 1) 0 := smV_ext 10 0 _ _ 0 (fun j _ b => by show K 32 0 (0 + 7 + j) = _; rw [show 0 + 7 + j = 1 + (6 + j) by omega, at_ _ (vK_l (by omega)), vC_l (by omega)])
  unfold d164
  rw [sum_m (a := 0) ⟨by decide, by decide⟩ (b := 0) rfl, s]
  dsimp only [Option.bind_some]
  have i17 : Int32.toNatClampNeg ((0 + 17) + i) = 17 + i.toNatClampNeg := by rw [(ixa (a := 0 + 17) (by decide) (by decide) hi0 (by omega)).2]; rfl
  unfold d155
  rw [i17, got_m, k33, k8, show 17 + i.toNatClampNeg = 1 + (16 + i.toNatClampNeg) by omega, at_ _ (vK_g hi hm), vC_g hi hm]
  by_cases c : I 4 1 8 < smV 10 0 (I 23 1) 0 + n * gotS (I 18 1 i.toNatClampNeg) (I 19 1 i.toNatClampNeg)
  · rw [if_pos c, if_pos c]
  · rw [if_neg c, if_neg c]
theorem way_c {w : Int32} : (1 < w) ↔ (2 ≤ w) := by
  have c1 : (1 : Int32).toInt = 1 := rfl
  have c2 : (2 : Int32).toInt = 2 := rfl
  rw [lt_t, le_t, c1, c2]
  omega
theorem lot_eq {I J : jI} {i w : Int32} (hG : gG aGI I) (q : RD2 I J) (hD : (I 4 1 15).toInt ≤ 39) (h0 : 0 ≤ i.toInt) (h1 : i.toInt < (I 4 1 6).toInt) : ∃ T K Y, (if 1 < w then (if w = 3 then (if d34 1 i I = 0 then (d44 1 1 0 0 I).bind fun r => some r.2 else (d44 1 2 i 0 I).bind fun r => some r.2) else (d44 1 1 0 0 I).bind fun r => some r.2) else (d33 1 i 1 I).bind fun r4 => if r4 = 0 then (if w = 3 then (if d34 1 i I = 0 then (d44 1 1 0 0 I).bind fun r => some r.2 else (d44 1 2 i 0 I).bind fun r => some r.2) else (d44 1 1 0 0 I).bind fun r => some r.2) else (d44 1 0 i 1 I).bind fun r => some r.2) = some T ∧ d163 J = some K ∧ lbM i w K = some Y ∧ RD2 T Y ∧ (T 4 1 15 = I 4 1 15 + 1 ∧ T 4 1 6 = I 4 1 6) := by
  have c := RD_cur hG q
  obtain ⟨hm, hmi⟩ := mP_6 hG
  obtain ⟨hi, hi5, hm0⟩ := RD_hi c ⟨h0, h1⟩
  have c1 : (1 : Int32).toInt = 1 := rfl
  have gb := (c.2.2.2.1.2.1 _ hi).1
  have i17 : Int32.toNatClampNeg (17 + i) = 17 + i.toNatClampNeg := by rw [(ixa (a := 17) (by decide) (by decide) h0 (by omega)).2]; rfl
  have week : ∃ T K Y, ((d44 1 1 0 0 I).bind fun r => some r.2) = some T ∧ d163 J = some K ∧ lWk K = some Y ∧ RD2 T Y ∧ (T 4 1 15 = I 4 1 15 + 1 ∧ T 4 1 6 = I 4 1 6) := by
    obtain ⟨r, K, e1, e2, ⟨k1, ⟨k31, k33, k34⟩, k28⟩, e3, e5, e4⟩ := deed_eq' (dd := 1) (i := 0) (v := 0) hG q (by omega) (by decide) (by decide) (by decide) (by decide) (by decide) (by decide) (fun z => absurd z (by decide)) (fun z => absurd z (by decide)) (fun z => absurd z (by decide))
    obtain ⟨s, s1, s2, s3, s4, s5⟩ := week_m c.1.1.2.1 k31 k1
    unfold lWk
    refine ⟨r.2, K, s.2, by rw [e1]; rfl, e2, by rw [s1]; rfl, e4 _ s3 s4 s5, e5⟩
  have kall : ∀ K, d163 J = some K → vM (mP I) K 1 = vC (mP I) I 1 ∧ (K 31 = J 31 ∧ K 33 = J 33 ∧ K 34 = J 34) := by
    obtain ⟨r, K, e1, e2, ⟨k1, k2, k28⟩, e3, e5, e4⟩ := deed_eq' (dd := 1) (i := 0) (v := 0) hG q (by omega) (by decide) (by decide) (by decide) (by decide) (by decide) (by decide) (fun z => absurd z (by decide)) (fun z => absurd z (by decide)) (fun z => absurd z (by decide))
    intro K' e
    rw [e2] at e
    cases e
    exact ⟨k1, k2⟩
  have shr_ : ∃ T K Y, (if w = 3 then (if d34 1 i I = 0 then (d44 1 1 0 0 I).bind fun r => some r.2 else (d44 1 2 i 0 I).bind fun r => some r.2) else (d44 1 1 0 0 I).bind fun r => some r.2) = some T ∧ d163 J = some K ∧ lSh i w K = some Y ∧ RD2 T Y ∧ (T 4 1 15 = I 4 1 15 + 1 ∧ T 4 1 6 = I 4 1 6) := by
    by_cases hw : w = 3
    · rw [if_pos hw]
      unfold d34 lSh
      by_cases hg : (I 19 1 i.toNatClampNeg).toInt ≤ 1
      · rw [if_pos (show I 19 1 i.toNatClampNeg ≤ 1 by rw [le_t, c1]; exact hg), if_pos rfl]
        obtain ⟨T, K, Y, a1, a2, a3, a4⟩ := week
        refine ⟨T, K, Y, a1, a2, ?_, a4⟩
        have kk := (kall K a2).1
        rw [if_pos hw, i17, if_pos (show K 32 0 (17 + i.toNatClampNeg) ≤ 1 by rw [show 17 + i.toNatClampNeg = 1 + (16 + i.toNatClampNeg) by omega, ← vM_k (m := mP I) (b := 1) (I := K) (vK_g hi hm), kk, vC_g hi hm, le_t, c1]; exact hg)]
        exact a3
      · rw [if_neg (show ¬ I 19 1 i.toNatClampNeg ≤ 1 by rw [le_t, c1]; exact hg), if_neg one0]
        obtain ⟨r, K, e1, e2, ⟨k1, ⟨k31, k33, k34⟩, k28⟩, e3, e5, e4⟩ := deed_eq' (dd := 2) (i := i) (v := 0) hG q (by omega) (by decide) (by decide) h0 hi5 (by decide) (by decide) (fun _ => hi) (fun z => absurd z (by decide)) (fun _ => by omega)
        have kg : K 32 0 (17 + i.toNatClampNeg) = vC (mP I) I 1 (16 + i.toNatClampNeg) := by
          rw [← k1, vM_k (vK_g hi hm), show 1 + (16 + i.toNatClampNeg) = 17 + i.toNatClampNeg by omega]
        refine ⟨r.2, K, _, by rw [e1]; rfl, e2, by rw [if_pos hw, i17, if_neg (show ¬ K 32 0 (17 + i.toNatClampNeg) ≤ 1 by rw [kg, vC_g hi hm, le_t, c1]; exact hg)], e4 _ ?_ (fun j hj => by rw [jup_c, if_neg (by omega)]) (fun g h => jup_g h), e5⟩
        show vM (mP I) (jup K 32 0 (17 + i.toNatClampNeg) (K 32 0 (17 + i.toNatClampNeg) - 1)) 1 = upS (vM (mP I) K 1) (16 + i.toNatClampNeg) (vM (mP I) K 1 (16 + i.toNatClampNeg) - 1)
        rw [kg, ← k1, show 17 + i.toNatClampNeg = 1 + (16 + i.toNatClampNeg) by omega, vM_up (vK_g hi hm)]
    · rw [if_neg hw]
      unfold lSh
      obtain ⟨T, K, Y, a1, a2, a3, a4⟩ := week
      exact ⟨T, K, Y, a1, a2, by rw [if_neg hw]; exact a3, a4⟩
  unfold lbM
  by_cases hw : 1 < w
  · rw [if_pos hw]
    obtain ⟨T, K, Y, a1, a2, a3, a4⟩ := shr_
    exact ⟨T, K, Y, a1, a2, by rw [if_pos (way_c.mp hw)]; exact a3, a4⟩
  · have hw' : ¬ 2 ≤ w := fun z => hw (way_c.mpr z)
    rw [if_neg hw, room_c]
    dsimp only [Option.bind_some]
    have rk : ∀ K, d163 J = some K → d164 0 i 1 K = some (if I 4 1 8 < smV 10 0 (I 23 1) 0 + 1 * gotS (I 18 1 i.toNatClampNeg) (I 19 1 i.toNatClampNeg) then 0 else 1) := fun K e => by
      obtain ⟨k1, k31, k33, k34⟩ := kall K e
      exact room_k hm k1 (by rw [k31]; exact c.1.1.2.2.1) (by rw [k33]; exact (c.1.2.2.1 _ hi).2.1) h0 hi
    by_cases h3 : I 4 1 8 < smV 10 0 (I 23 1) 0 + 1 * gotS (I 18 1 i.toNatClampNeg) (I 19 1 i.toNatClampNeg)
    · rw [if_pos h3, if_pos rfl]
      obtain ⟨T, K, Y, a1, a2, a3, a4⟩ := shr_
      refine ⟨T, K, Y, a1, a2, ?_, a4⟩
      rw [if_neg hw', rk K a2, if_pos h3]
      dsimp only [Option.bind_some]
      rw [if_pos rfl]
      exact a3
    · rw [if_neg h3, if_neg one0]
      obtain ⟨r, K, e1, e2, ⟨k1, ⟨k31, k33, k34⟩, k28⟩, e3, e5, e4⟩ := deed_eq' (dd := 0) (i := i) (v := 1) hG q (by omega) (by decide) (by decide) h0 hi5 (by decide) (by decide) (fun _ => hi) (fun _ => buy_l hG q hi ⟨by decide, by decide⟩ h3) (fun z => absurd z (by decide))
      obtain ⟨-, -, -, af⟩ := c.1
      have f14 := hG (4, (0, 5), (14, 14), (0, 1)) (by decide) 1 14 (by simp) (by simp) (by simp) (by simp)
      have K6 : K 32 0 6 = I 4 1 14 := by rw [k28 6 (by decide) (by decide)]; exact af 5 (by decide)
      have K34 : K 34 0 i.toNatClampNeg = I 21 1 i.toNatClampNeg := by rw [k34]; exact (c.1.2.2.1 _ hi).2.2
      obtain ⟨b1, b2, b3, b4⟩ := buy_m (m := mP I) (a := 0) (i := i) (n := 1) ⟨by decide, by decide⟩ (b := 0) rfl (I := K) hm h0 hi (by
        rw [show 0 + 6 = 6 from rfl, K6]
        have : (I 4 1 14).toInt = 0 ∨ (I 4 1 14).toInt = 1 := by have a : 0 ≤ (I 4 1 14).toInt := f14.1; have b : (I 4 1 14).toInt ≤ 1 := f14.2; omega
        rcases this with z | z
        · exact Or.inl (eq_t.mpr z)
        · exact Or.inr (eq_t.mpr z)) (by
        rw [K34]
        exact hG (21, (0, 5), (0, 5), (0, 9)) (by decide) 1 i.toNatClampNeg (by simp) (by simp) (by simp) (by simp; omega))
      refine ⟨r.2, K, _, by rw [e1]; rfl, e2, ?_, e4 _ ?_ (fun j hj => b3 j (by omega)) b4, e5⟩
      · rw [if_neg hw', rk K e2, if_neg h3]
        dsimp only [Option.bind_some]
        rw [if_neg one0]
      · unfold stp
        rw [if_pos rfl, ← k33, ← k34]
        exact b2
theorem lots_l {n : Int32} (hn : n.toInt ≤ 20) : ∀ (N F F' : Nat) (lot : Int64) (x : Int32) (I J : jI), x.toInt + (N : Int) = n.toInt → 0 ≤ x.toInt → N < F → N < F' → 0 ≤ lot.toInt → lot.toInt ≤ 2147483647 → gG aGI I → jJ I → RD2 I J → ¬ I 4 1 6 = 0 → (I 4 1 15).toInt + (N : Int) ≤ 40 → ∃ T Y, d105_60 n F lot x I = some T ∧ d207_58 n F' lot x J = some Y ∧ gG aGI T ∧ RD2 T Y
  | _, 0, _, _, _, _, _, _, _, h, _, _, _, _, _, _, _, _ => absurd h (by omega)
  | _, _, 0, _, _, _, _, _, _, _, h, _, _, _, _, _, _, _ => absurd h (by omega)
  | 0, F + 1, F' + 1, lot, x, I, J, h, h0, _, _, _, _, hG, _, q, _, _ => by
    rw [d105_60, d207_58, if_pos (show n ≤ x by rw [le_t]; omega), if_pos (show n ≤ x by rw [le_t]; omega)]
    exact ⟨_, _, rfl, rfl, hG, q⟩
  | N + 1, F + 1, F' + 1, lot, x, I, J, h, h0, hF, hF', l0, l1, hG, hJ, q, hp, hD => by
    have e := i32_inc (x := x) (by omega)
    have hd := gi_deeds hG (x := 1) (by decide)
    have hpk := gi_packets hG
    have p0 : ¬ (I 4 1 6).toInt = 0 := fun z => hp (eq_t.mpr (by rw [z]; rfl))
    obtain ⟨lt, hl⟩ : ∃ lt, lot * 48271 - lot * 48271 / 2147483647 * 2147483647 = lt := ⟨_, rfl⟩
    have ln := lot_n' l0 l1
    rw [hl] at ln
    have lx := lot_x ln.1 ln.2 (p := I 4 1 6) (by omega)
    obtain ⟨i, hi⟩ : ∃ i, Int64.toInt32 (lt - lt / Int32.toInt64 (I 4 1 6) * Int32.toInt64 (I 4 1 6)) = i := ⟨_, rfl⟩
    obtain ⟨w, hw⟩ : ∃ w, Int64.toInt32 (lt / 8 - lt / 8 / 4 * 4) = w := ⟨_, rfl⟩
    rw [hi] at lx
    have c := RD_cur hG q
    have c3 : J 31 0 3 = I 4 1 6 := c.1.1.1
    obtain ⟨T, K, Y, t1, t2, t3, t4, t5, t6⟩ := lot_eq (i := i) (w := w) hG q (by omega) lx.1 (by omega)
    have tc : d47 1 lt I = some T := by
      unfold d47
      rw [if_neg hp, hw, hi]
      exact t1
    have g := use_tw (L := fun _ _ _ => 0) (L' := fun _ _ _ => 0) (hd_performLot (d := 8) (Nat.le_refl _) hG hJ ln.1 ln.2 (k := fun _ σ => gG aGI σ.1 ∧ jJ σ.1) (fun _ _ a b => ⟨a, b⟩)) (v := none) (I' := T) (fun d k hk => D47 tc hk)
    have g1 : gG aGI T := g.1
    have g2 : jJ T := g.2
    have cc1 : (1 : Int32).toInt = 1 := rfl
    have n15 : (T 4 1 15).toInt = (I 4 1 15).toInt + 1 := by rw [t5, i32_add (by omega), cc1]
    rw [d105_60, if_neg (show ¬ n ≤ x by rw [le_t]; omega), lots_ml (i := i) hl hw (by rw [c3]; exact hi), if_neg (show ¬ n ≤ x by rw [le_t]; omega), t2, hl, tc]
    dsimp only [Option.bind_some]
    rw [t3]
    dsimp only [Option.bind_some]
    exact lots_l hn N F F' lt (x + 1) T Y (by omega) (by omega) (by omega) (by omega) ln.1 (by omega) g1 g2 t4 (by rw [t6]; exact hp) (by omega)
theorem lots_eq {I J : jI} (n sd : Int32) (hG : gG aGI I) (hJ : jJ I) (q : RD2 I J) : ∃ r r', d105 n sd I = some r ∧ d207 n sd J = some r' ∧ r.1 = r'.1 ∧ RD2 r.2 r'.2 := by
  have c := RD_cur hG q
  have c3 : J 31 0 3 = I 4 1 6 := c.1.1.1
  have c0 : Int32.toNatClampNeg 0 = 0 := rfl
  have c15 : J 32 0 0 = I 4 1 15 := c.1.1.2.2.2
  have hd := gi_deeds hG (x := 1) (by decide)
  have c40 : (40 : Int32).toInt = 40 := rfl
  have z1 : (1 : Int32).toInt = 1 := rfl
  have z20 : (20 : Int32).toInt = 20 := rfl
  have zm : (2147483647 : Int64).toInt = 2147483647 := rfl
  have rs := i32_rng sd
  unfold d105 d207
  rw [in_i, in_i, c3, c0, c15]
  by_cases h1 : 1 ≤ n.toInt ∧ n.toInt ≤ 20
  · rw [if_neg (show ¬ n < 1 by rw [lt_t, z1]; omega), if_neg (show ¬ (20 : Int32) < n by rw [lt_t, z20]; omega), if_pos (show (1 : Int64).toInt ≤ n.toInt ∧ n.toInt ≤ (20 : Int64).toInt from h1), if_neg one0]
    by_cases h2 : 1 ≤ sd.toInt ∧ sd.toInt ≤ 2147483646
    · rw [if_neg (show ¬ sd < 1 by rw [lt_t, z1]; omega), if_pos (show lg_cmp (Int32.toInt64 sd) 2147483647 < 0 from cmp_lt.mpr (by rw [t64, zm]; omega)), if_pos (show (1 : Int64).toInt ≤ sd.toInt ∧ sd.toInt ≤ (2147483646 : Int64).toInt from h2), if_neg one0]
      by_cases h3 : I 4 1 6 = 0
      · rw [if_pos h3, if_pos h3]
        exact ⟨_, _, rfl, rfl, rfl, q⟩
      · rw [if_neg h3, if_neg h3]
        have en : (I 4 1 15 + n).toInt = (I 4 1 15).toInt + n.toInt := i32_add (by omega)
        unfold d32
        by_cases h4 : (I 4 1 15).toInt + n.toInt ≤ 40
        · have nn := cl_t (x := n) (by omega)
          rw [if_neg (show ¬ (40 : Int32) < I 4 1 15 + n by rw [lt_t, en, c40]; omega), if_neg one0, if_pos (show I 4 1 15 + n ≤ 40 by rw [le_t, en, c40]; omega)]
          obtain ⟨T, Y, t1, t2, t3, t4⟩ := lots_l h1.2 n.toNatClampNeg 70 70 (Int32.toInt64 sd) 0 I J (by show (0 : Int) + _ = _; omega) (by decide) (by omega) (by omega) (by rw [t64]; omega) (by rw [t64]; omega) hG hJ q h3 (by omega)
          rw [t1, t2]
          dsimp only [Option.bind_some]
          have cT := RD_cur t3 t4
          have s : smV 10 0 (fun k => Y 32 0 (0 + 7 + k)) 0 = smV 10 0 (T 23 1) 0 := smV_ext 10 0 _ _ 0 (fun j _ b => by show Y 32 0 (0 + 7 + j) = _; rw [show 0 + 7 + j = 7 + j by omega]; exact cT.1.2.1 j (by omega))
          rw [sum_c, sum_m (a := 0) ⟨by decide, by decide⟩ (b := 0) rfl, s]
          exact ⟨_, _, rfl, rfl, rfl, t4⟩
        · rw [if_pos (show (40 : Int32) < I 4 1 15 + n by rw [lt_t, en, c40]; omega), if_pos rfl, if_neg (show ¬ I 4 1 15 + n ≤ 40 by rw [le_t, en, c40]; omega)]
          exact ⟨_, _, rfl, rfl, rfl, q⟩
    · rw [if_neg (show ¬ ((1 : Int64).toInt ≤ sd.toInt ∧ sd.toInt ≤ (2147483646 : Int64).toInt) from h2), if_pos rfl]
      by_cases h3 : sd < 1
      · rw [if_pos h3]
        exact ⟨_, _, rfl, rfl, rfl, q⟩
      · rw [if_neg h3, if_neg (show ¬ lg_cmp (Int32.toInt64 sd) 2147483647 < 0 from fun z => by
          have z := cmp_lt.mp z
          rw [t64, zm] at z
          rw [lt_t, z1] at h3
          exact h2 ⟨by omega, by omega⟩)]
        exact ⟨_, _, rfl, rfl, rfl, q⟩
  · rw [if_neg (show ¬ ((1 : Int64).toInt ≤ n.toInt ∧ n.toInt ≤ (20 : Int64).toInt) from h1), if_pos rfl]
    by_cases h3 : n < 1
    · rw [if_pos h3]
      exact ⟨_, _, rfl, rfl, rfl, q⟩
    · rw [if_neg h3, if_pos (show (20 : Int32) < n by rw [lt_t, z20]; rw [lt_t, z1] at h3; omega)]
      exact ⟨_, _, rfl, rfl, rfl, q⟩
