/-! what the small machine's values and cells are in the great one -/
noncomputable def jcv (ρ : Nat → Nat → Nat) : jV → Value
  | .inl (.inl x) => .int x
  | .inl (.inr x) => .long x
  | .inr q => .ref (ρ q.1 q.2)
noncomputable def jfv (ρ : Nat → Nat → Nat) (σ : jS) (g n k : Nat) : jF → Value
  | .inl f => .ref (ρ (f n).1 (f n).2)
  | .inr 1 => .long (σ.2 g n k)
  | .inr _ => .int (σ.1 g n k)
noncomputable def jfs (ρ : Nat → Nat → Nat) (σ : jS) (g n : Nat) : Nat → List jF → List Value
  | _, [] => []
  | k, f :: t => jfv ρ σ g n k f :: jfs ρ σ g n (k + 1) t
noncomputable def jce (cy : Nat → ClassId) (ρ : Nat → Nat → Nat) (σ : jS) (x : Nat × Nat) : va_E := match (jSh x.1).2 with
  | .inl (ci, fs) => .inr (ci, jfs ρ σ x.1 x.2 0 fs)
  | .inr (t, n, .inl f) => .inl (cy t, n, .inr (.inr (.inr (.inr (fun j => some (ρ (f x.2 j).1 (f x.2 j).2))))))
  | .inr (t, n, .inr 1) => .inl (cy t, n, .inr (.inl (σ.2 x.1 x.2)))
  | .inr (t, n, .inr _) => .inl (cy t, n, .inl (σ.1 x.1 x.2))
noncomputable def jcells : List (Nat × Nat) := (List.range 42).flatMap (fun g => (List.range (jSh g).1).map (fun i => (g, i)))
noncomputable def jws (cy : Nat → ClassId) (ρ : Nat → Nat → Nat) (σ : jS) : va_W := jcells.map (fun x => (ρ x.1 x.2, jce cy ρ σ x))
noncomputable def jtys (cy : Nat → ClassId) : List (ClassId × FieldType) := [(cy 0, .int), (cy 1, .long), (cy 2, .boolean), (cy 3, .object "LargerPacket$House"), (cy 4, .object "LargerPacket$Larder"), (cy 5, .array .int)]
theorem jSh_big {g : Nat} (h : 42 ≤ g) : jSh g = (0, .inl (99, [])) := by
  unfold jSh
  rw [List.getD_eq_getElem?_getD, List.getElem?_eq_none (by show jShl.length ≤ g; exact h)]
  rfl
theorem jcells_mem {g i : Nat} (h : i < (jSh g).1) : (g, i) ∈ jcells := by
  have hg : g < 42 := by
    rcases Nat.lt_or_ge g 42 with q | q
    · exact q
    · rw [jSh_big q] at h; exact absurd h (Nat.not_lt_zero _)
  exact List.mem_flatMap.mpr ⟨g, List.mem_range.mpr hg, List.mem_map.mpr ⟨i, List.mem_range.mpr h, rfl⟩⟩
theorem jcells_nodup : jcells.Nodup := by decide +kernel
theorem jws_get (cy : Nat → ClassId) (ρ : Nat → Nat → Nat) (σ : jS) {g i : Nat} (h : i < (jSh g).1) : ∃ q0 : Nat, jcells[q0]? = some (g, i) ∧ (jws cy ρ σ)[q0]? = some (ρ g i, jce cy ρ σ (g, i)) := by
  obtain ⟨q0, hq⟩ := List.getElem?_of_mem (jcells_mem h)
  exact ⟨q0, hq, by unfold jws; rw [List.getElem?_map, hq]; rfl⟩
theorem jws_set (cy : Nat → ClassId) (ρ : Nat → Nat → Nat) (σ σ' : jS) {g i q0 : Nat} (hq : jcells[q0]? = some (g, i)) (hne : ∀ x, x ≠ (g, i) → jce cy ρ σ' x = jce cy ρ σ x) : (jws cy ρ σ).set q0 (ρ g i, jce cy ρ σ' (g, i)) = jws cy ρ σ' := by
  have hlt : q0 < jcells.length := (List.getElem?_eq_some_iff.mp hq).1
  apply List.ext_getElem?
  intro j
  unfold jws
  rw [List.getElem?_set, List.length_map, List.getElem?_map, List.getElem?_map]
  by_cases e : q0 = j
  · subst e
    rw [if_pos rfl, if_pos hlt, hq]; rfl
  · rw [if_neg e]
    cases hj : jcells[j]? with
    | none => rfl
    | some y =>
      have hy : y ≠ (g, i) := by
        intro e2
        subst e2
        exact e ((List.getElem?_inj hlt jcells_nodup).mp (hq.trans hj.symm))
      simp only [Option.map_some, hne y hy]
theorem jup_ne {I : Nat → Nat → Nat → Int32} {g i j : Nat} {v : Int32} {x : Nat × Nat} (h : x ≠ (g, i)) : jup I g i j v x.1 x.2 = I x.1 x.2 := by
  funext c
  unfold jup
  rw [if_neg]
  rintro ⟨h1, h2, -⟩
  exact h (Prod.ext h1 h2)
theorem jupL_ne {I : Nat → Nat → Nat → Int64} {g i j : Nat} {v : Int64} {x : Nat × Nat} (h : x ≠ (g, i)) : jupL I g i j v x.1 x.2 = I x.1 x.2 := by
  funext c
  unfold jupL
  rw [if_neg]
  rintro ⟨h1, h2, -⟩
  exact h (Prod.ext h1 h2)
theorem jcpy_ne {I : Nat → Nat → Nat → Int32} {g i g' i' sp dp n : Nat} {x : Nat × Nat} (h : x ≠ (g', i')) : jcpy I g i g' i' sp dp n x.1 x.2 = I x.1 x.2 := by
  funext c
  unfold jcpy
  rw [if_neg]
  rintro ⟨h1, h2, -⟩
  exact h (Prod.ext h1 h2)
theorem jup_self (I : Nat → Nat → Nat → Int32) (g i j : Nat) (v : Int32) : jup I g i j v g i = upd (I g i) j v := by
  funext c
  unfold jup upd
  by_cases h : c = j <;> simp [h]
theorem jupL_self (I : Nat → Nat → Nat → Int64) (g i j : Nat) (v : Int64) : jupL I g i j v g i = vp_updL (I g i) j v := by
  funext c
  unfold jupL vp_updL
  by_cases h : c = j <;> simp [h]
theorem jcpy_self (I : Nat → Nat → Nat → Int32) (g i g' i' sp dp n : Nat) : jcpy I g i g' i' sp dp n g' i' = va_cpy (I g i) (I g' i') sp dp n := by
  funext c
  unfold jcpy va_cpy
  simp
theorem jfs_congr {ρ : Nat → Nat → Nat} {σ σ' : jS} {g n : Nat} (h1 : σ'.1 g n = σ.1 g n) (h2 : σ'.2 g n = σ.2 g n) : ∀ (fs : List jF) (k : Nat), jfs ρ σ' g n k fs = jfs ρ σ g n k fs
  | [], _ => rfl
  | f :: t, k => by
    show _ :: _ = _ :: _
    rw [jfs_congr h1 h2 t (k + 1)]
    congr 1
    unfold jfv
    split <;> simp [h1, h2]
theorem jce_congr {cy : Nat → ClassId} {ρ : Nat → Nat → Nat} {σ σ' : jS} {x : Nat × Nat} (h1 : σ'.1 x.1 x.2 = σ.1 x.1 x.2) (h2 : σ'.2 x.1 x.2 = σ.2 x.1 x.2) : jce cy ρ σ' x = jce cy ρ σ x := by
  unfold jce
  split
  · rw [jfs_congr h1 h2]
  · rfl
  · rw [h2]
  · rw [h1]
theorem jfs_len {ρ : Nat → Nat → Nat} {σ : jS} {g n : Nat} : ∀ (fs : List jF) (k : Nat), (jfs ρ σ g n k fs).length = fs.length
  | [], _ => rfl
  | _ :: t, k => by show _ + 1 = _ + 1; rw [jfs_len t (k + 1)]
theorem jfs_get {ρ : Nat → Nat → Nat} {σ : jS} {g n : Nat} : ∀ (fs : List jF) (k j : Nat) {f : jF}, fs[j]? = some f → (jfs ρ σ g n k fs)[j]? = some (jfv ρ σ g n (k + j) f)
  | [], _, _, _, h => by simp at h
  | f :: t, k, 0, f', h => by
    simp at h
    subst h
    rfl
  | f :: t, k, j + 1, f', h => by
    simp only [List.getElem?_cons_succ] at h
    show (jfs ρ σ g n (k + 1) t)[j]? = _
    rw [jfs_get t (k + 1) j h, Nat.add_assoc, Nat.add_comm 1 j]
theorem jfs_set {ρ : Nat → Nat → Nat} {σ σ' : jS} {g n : Nat} {v : Value} : ∀ (fs : List jF) (k j : Nat) {f : jF}, fs[j]? = some f → jfv ρ σ' g n (k + j) f = v → (∀ c f', c ≠ k + j → jfv ρ σ' g n c f' = jfv ρ σ g n c f') → (jfs ρ σ g n k fs).set j v = jfs ρ σ' g n k fs
  | [], _, _, _, h, _, _ => by simp at h
  | f :: t, k, 0, f', h, hv, hne => by
    simp at h
    subst h
    show v :: _ = _ :: _
    congr 1
    · exact hv.symm
    · have : ∀ (t : List jF) (m : Nat), k < m → jfs ρ σ g n m t = jfs ρ σ' g n m t := by
        intro t
        induction t with
        | nil => intros; rfl
        | cons a t ih => intro m hm; show _ :: _ = _ :: _; rw [ih (m + 1) (by omega), hne m a (by omega)]
      exact this t (k + 1) (by omega)
  | f :: t, k, j + 1, f', h, hv, hne => by
    simp only [List.getElem?_cons_succ] at h
    show _ :: (jfs ρ σ g n (k + 1) t).set j v = _ :: _
    congr 1
    · exact (hne k f (by omega)).symm
    · exact jfs_set t (k + 1) j h (by rw [← hv]; congr 1; omega) (fun c f' hc => hne c f' (by omega))
/-- locals -/
noncomputable def jloc (ρ : Nat → Nat → Nat) (nL : Nat) (ls : Array Slot) (jl : List (Option jV)) : Prop := jlen jl = nL ∧ ls.size = nL ∧ lv_wf ls ∧ ∀ (i : Nat) (v : jV), jget jl i = some v → ls[i]? = some (.val (jcv ρ v))
noncomputable def jlv (ρ : Nat → Nat → Nat) (jl : List (Option jV)) : Nat → List (Nat × Value)
  | 0 => []
  | n + 1 => (match jget jl n with | some v => [(n, jcv ρ v)] | none => []) ++ jlv ρ jl n
theorem jlv_mem {ρ : Nat → Nat → Nat} {jl : List (Option jV)} {q : Nat × Value} : ∀ n : Nat, q ∈ jlv ρ jl n ↔ ∃ v, q.1 < n ∧ jget jl q.1 = some v ∧ q.2 = jcv ρ v
  | 0 => by simp [jlv]
  | n + 1 => by
    rw [jlv, List.mem_append, jlv_mem n]
    constructor
    · rintro (h | ⟨v, h1, h2, h3⟩)
      · cases hg : jget jl n with
        | none => rw [hg] at h; simp at h
        | some v => rw [hg] at h; simp at h; subst h; exact ⟨v, Nat.lt_succ_self n, hg, rfl⟩
      · exact ⟨v, by omega, h2, h3⟩
    · rintro ⟨v, h1, h2, h3⟩
      by_cases e : q.1 = n
      · left
        rw [e] at h2
        rw [h2]
        simp
        exact Prod.ext e h3
      · right
        exact ⟨v, by omega, h2, h3⟩
theorem jget_lt : ∀ {jl : List (Option jV)} {i : Nat} {v : jV}, jget jl i = some v → i < jlen jl
  | [], _, _, h => by simp [jget] at h
  | _ :: t, 0, _, _ => by simp [jlen]
  | _ :: t, i + 1, v, h => by
    have h1 : jget t i = some v := h
    have := jget_lt h1
    simp [jlen]; omega
theorem jloc.has {ρ : Nat → Nat → Nat} {nL : Nat} {ls : Array Slot} {jl : List (Option jV)} (h : jloc ρ nL ls jl) : lv_has ls nL (jlv ρ jl nL) := by
  refine ⟨h.2.1, h.2.2.1, fun q hq => ?_⟩
  obtain ⟨v, -, h2, h3⟩ := (jlv_mem nL).mp hq
  rw [h.2.2.2 q.1 v h2, h3]
theorem jput_len : ∀ (jl : List (Option jV)) (j : Nat) (v : Option jV), jlen (jput jl j v) = jlen jl
  | [], _, _ => rfl
  | _ :: _, 0, _ => rfl
  | _ :: t, j + 1, v => by show _ + 1 = _ + 1; rw [jput_len t j v]
theorem jkill_len : ∀ (jl : List (Option jV)) (j : Nat), jlen (jkill jl j) = jlen jl
  | [], _ => rfl
  | _ :: _, 0 => rfl
  | _ :: _, 1 => rfl
  | _ :: t, j + 2 => by show _ + 1 = _ + 1; rw [jkill_len t (j + 1)]
theorem jput_get : ∀ (jl : List (Option jV)) (j : Nat) (v : Option jV) (i : Nat) (w : jV), jget (jput jl j v) i = some w → (i = j ∧ v = some w) ∨ (i ≠ j ∧ jget jl i = some w)
  | [], _, _, _, _, h => by simp [jput, jget] at h
  | _ :: _, 0, _, 0, _, h => Or.inl ⟨rfl, h⟩
  | _ :: _, 0, _, i + 1, _, h => Or.inr ⟨by omega, h⟩
  | _ :: _, j + 1, _, 0, _, h => Or.inr ⟨by omega, h⟩
  | _ :: t, j + 1, v, i + 1, w, h => by
    rcases jput_get t j v i w h with ⟨h1, h2⟩ | ⟨h1, h2⟩
    · exact Or.inl ⟨by omega, h2⟩
    · exact Or.inr ⟨by omega, h2⟩
theorem jkill_get : ∀ (jl : List (Option jV)) (j i : Nat) (w : jV), jget (jkill jl j) i = some w → jget jl i = some w ∧ (i + 1 = j → jcat1 w = 1)
  | [], _, _, _, h => by simp [jkill, jget] at h
  | _ :: _, 0, _, _, h => ⟨h, fun e => by omega⟩
  | none :: _, 1, 0, w, h => by simp [jkill, jget] at h
  | some (.inl (.inl x)) :: _, 1, 0, w, h => ⟨h, fun _ => by
    have e : some (Sum.inl (Sum.inl x)) = some w := h
    cases e; rfl⟩
  | some (.inl (.inr x)) :: _, 1, 0, w, h => by simp [jkill, jget] at h
  | some (.inr x) :: _, 1, 0, w, h => ⟨h, fun _ => by
    have e : some (Sum.inr x) = some w := h
    cases e; rfl⟩
  | _ :: _, 1, i + 1, _, h => ⟨h, fun e => by omega⟩
  | _ :: _, j + 2, 0, _, h => ⟨h, fun e => by omega⟩
  | _ :: t, j + 2, i + 1, w, h => by
    obtain ⟨h1, h2⟩ := jkill_get t (j + 1) i w h
    exact ⟨h1, fun e => h2 (by omega)⟩
theorem jcv_cat (ρ : Nat → Nat → Nat) (v : jV) : (jcv ρ v).category = jcat1 v := by
  rcases v with (v | v) | v <;> rfl
theorem jloc.set1 {ρ : Nat → Nat → Nat} {nL j : Nat} {ls : Array Slot} {jl : List (Option jV)} {v : jV} (h : jloc ρ nL ls jl) {ls' : Array Slot} (hl : lv_has ls' nL ((j, jcv ρ v) :: (jlv ρ jl nL).filter (fun q => !(q.1 == j) && !(q.1 + 1 == j && q.2.category == 2)))) : jloc ρ nL ls' (jset1 jl j v) := by
  refine ⟨by unfold jset1; rw [jput_len, jkill_len]; exact h.1, hl.1, hl.2.1, fun i w hw => ?_⟩
  rcases jput_get _ _ _ _ _ hw with ⟨h1, h2⟩ | ⟨h1, h2⟩
  · cases h2
    subst h1
    exact hl.2.2 _ List.mem_cons_self
  · obtain ⟨h3, h4⟩ := jkill_get _ _ _ _ h2
    refine hl.2.2 (i, jcv ρ w) (List.mem_cons_of_mem _ (List.mem_filter.mpr ⟨(jlv_mem nL).mpr ⟨w, by rw [← h.1]; exact jget_lt h3, h3, rfl⟩, ?_⟩))
    simp only [jcv_cat]
    by_cases e : i + 1 = j
    · simp [h1, h4 e]
    · simp [h1, e]
theorem jloc.set2 {ρ : Nat → Nat → Nat} {nL j : Nat} {ls : Array Slot} {jl : List (Option jV)} {v : jV} (h : jloc ρ nL ls jl) {ls' : Array Slot} (hl : lv_has ls' nL ((j, jcv ρ v) :: (jlv ρ jl nL).filter (fun q => !(q.1 == j) && (!(q.1 == j + 1) && !(q.1 + 1 == j && q.2.category == 2))))) : jloc ρ nL ls' (jset2 jl j v) := by
  refine ⟨by unfold jset2; rw [jput_len, jput_len, jkill_len]; exact h.1, hl.1, hl.2.1, fun i w hw => ?_⟩
  rcases jput_get _ _ _ _ _ hw with ⟨h1, h2⟩ | ⟨h0, hw⟩
  · cases h2
  rcases jput_get _ _ _ _ _ hw with ⟨h1, h2⟩ | ⟨h1, h2⟩
  · cases h2
    subst h1
    exact hl.2.2 _ List.mem_cons_self
  · obtain ⟨h3, h4⟩ := jkill_get _ _ _ _ h2
    refine hl.2.2 (i, jcv ρ w) (List.mem_cons_of_mem _ (List.mem_filter.mpr ⟨(jlv_mem nL).mpr ⟨w, by rw [← h.1]; exact jget_lt h3, h3, rfl⟩, ?_⟩))
    simp only [jcv_cat]
    by_cases e : i + 1 = j
    · simp [h1, h0, h4 e]
    · simp [h1, h0, e]
