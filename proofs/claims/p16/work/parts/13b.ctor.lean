theorem cMet_of {l : Launch} {y : MethodName} {bytes : ByteArray} {maxL : Nat} {rm : Room} {As : List Value} {e0 : (Nat → ClassId) → va_E} {blk : (Nat → ClassId) → Nat → (Nat → Nat) → va_W} (hy : plainName y.cls = true) (on : Nat) (hon : y.cls = jown on) (hle : ∀ q : Nat, (lg_sl (Value.ref q :: As)).length ≤ maxL)
    (body : ∀ (p : Program) (e : Env) (s : State) (m : MethodId) (below : List Frame) (meth : Method) (c : Code) (dC : Nat → ClassId) (dI : Nat → Nat → Nat) (cy : Nat → ClassId) (q : Nat) (A : Nat → Prop) (Q : State → Prop) (ls : Array Slot), cCx p s m (Value.ref q :: As).toArray c dC dI cy A on bytes maxL → meth.name = y.name → cWd dC dI A s.heap s.heap [] [(q, e0 cy)] → lv_has ls maxL (lv_args 0 (Value.ref q :: As)) →
      (∀ (H : Heap) (locs : List Loc) (pc : Nat) (ls : Array Slot) (ad : Nat → Nat), cWd dC dI A s.heap H locs (blk cy q ad) → decode bytes pc = .ok (.return_, 1) → W p l e rm s m (Value.ref q :: As).toArray below meth c H locs rm.cells rm.slots Q (F0 m pc ls [])) → W p l e rm s m (Value.ref q :: As).toArray below meth c s.heap [] 0 0 Q (F0 m 0 ls [])) : cMet l y bytes maxL rm As e0 blk := by
  intro dC dI cy q sz
  refine Met.ofW (cc := bytes) (maxL := maxL) (ret := none) hy rfl ?_
  intro p e s m args below meth c s₁ B hml hv
  obtain ⟨rfl, hsz, hP, hX, hD0⟩ := hv
  have hx := B.exec
  have hb := B.bytes
  have hr := B.returns
  have hts0 := atoms_spec (ws := Cond.code y bytes maxL none :: jtb) B.pre
  have hown : s.vm.findClass y.cls = some m.cls := findClass_of_methodNamed B.named
  rw [hon] at hown
  have hlocks := B.notSynchronized
  have hin : meth.name = y.name := (name_of_methodNamed B.named B.method).1
  subst hsz
  have hD := hD0.self (sz := s.heap.size)
  have hl := lv_entry (Value.ref q :: As) (n := maxL) (hle q)
  rw [lg_entry_eq]
  generalize (lg_sl (Value.ref q :: As) ++ List.replicate (maxL - (lg_sl (Value.ref q :: As)).length) Slot.unset).toArray = ls at hl ⊢
  refine body p e s m below meth c dC dI cy q (va_A [(q, e0 cy)] s.heap.size) _ ls ⟨hx, hb, hml, hown, fun w h => hts0 w (List.mem_cons_of_mem _ h), hX, fun q h => Or.inr h⟩ hin ⟨hP, hD, va_S.rf⟩ hl (fun H locs pc ls ad hw hdg => ?_)
  obtain ⟨hP1, hD1, hS⟩ := hw
  exact W.vret hx hb hr (fun t ht hW => ⟨⟨ad, rfl, trivial, by rw [ht]; exact hP1, hD1⟩, hS.F ht⟩) hS.2.2 hdg hlocks
section CS
variable {dC : Nat → ClassId} {dI : Nat → Nat → Nat} {A : Nat → Prop} {H0 H : Heap} {locs : List Loc}
theorem c_mem {ws ws' : va_W} (hw : cWd dC dI A H0 H locs ws) (is : List Nat) (hn : va_nd is = true) (hs : is.map (fun i => ws[i]?) = ws'.map some) : cWd dC dI A H0 H locs ws' := by
  obtain ⟨hP, hD, hS⟩ := hw
  refine ⟨fun k q hk => ?_, hD.sub is hn hs, hS⟩
  have h1 : (is.map (fun i => ws[i]?))[k]? = some (some q) := by rw [hs, List.getElem?_map, hk]; rfl
  rw [List.getElem?_map] at h1
  cases hi : is[k]? with
  | none => rw [hi] at h1; cases h1
  | some i => rw [hi] at h1; exact hP i q (Option.some.inj h1)
theorem c_rot {x y : Nat × va_E} {T : va_W} (hw : cWd dC dI A H0 H locs (x :: (T ++ [y]))) : cWd dC dI A H0 H locs (x :: y :: T) := by
  refine c_mem hw (0 :: (T.length + 1) :: (List.range T.length).map (· + 1)) ?_ ?_
  · refine c_nd_of _ ?_
    rw [List.nodup_cons, List.nodup_cons]
    refine ⟨by simp, by simp, ?_⟩
    show List.Pairwise (· ≠ ·) _
    rw [List.pairwise_map]
    exact List.Pairwise.imp (fun h e => h (by simpa using e)) List.nodup_range
  · simp only [List.map_cons, List.map_map]
    congr 1
    congr 1
    · simp
    · apply List.ext_getElem?
      intro i
      rw [List.getElem?_map, List.getElem?_map]
      by_cases hi : i < T.length
      · rw [List.getElem?_range hi, Option.map_some, List.getElem?_eq_getElem hi]
        simp [List.getElem?_append_left hi, List.getElem?_eq_getElem hi]
      · rw [List.getElem?_eq_none (by simpa using hi), List.getElem?_eq_none (by simpa using hi)]; rfl
theorem c_cell {x : Nat × va_E} {T : va_W} {a n : Nat} {z : ClassId} {f g : Nat → Option Nat} (h : ∀ j, j < n → f j = g j) (hw : cWd dC dI A H0 H locs (x :: (a, .inl (z, n, .inr (.inr (.inr (.inr f))))) :: T)) : cWd dC dI A H0 H locs (x :: (a, .inl (z, n, .inr (.inr (.inr (.inr g))))) :: T) := by
  obtain ⟨hP, hD, hS⟩ := hw
  have hs := hD.set (p := 1) (a := a) (e0 := .inl (z, n, .inr (.inr (.inr (.inr f))))) (e := .inl (z, n, .inr (.inr (.inr (.inr g))))) rfl
  refine ⟨fun k q hk => ?_, hs, hS⟩
  match k, hk with
  | 0, hk => exact hP 0 q hk
  | 1, hk =>
    cases hk
    have h1 := hP 1 _ rfl
    show H[a]? = some (vp_cell _ _)
    have h1 : H[a]? = some (vp_cell z (n, .inr (.inr (.inr (.inr f))))) := h1
    rw [h1, vp_cell_q, vp_cell_q]
    exact congrArg some (arrV_congr _ _ (fun j hj => by rw [h j hj]))
  | k + 2, hk => exact hP (k + 2) q hk
end CS
theorem cF_upd {f : Nat → Int32} {v : Int32} {i : Nat} : upd (fun j => if j < i then v else f j) i v = fun j => if j < i + 1 then v else f j := by
  funext j
  unfold upd
  by_cases h : j = i
  · subst h; simp
  · by_cases h2 : j < i
    · simp [h, h2, Nat.lt_succ_of_lt h2]
    · simp [h, h2, show ¬ j < i + 1 by omega]
set_option maxHeartbeats 1000000 in
theorem cF_fill (l : Launch) (N : Nat) (hN : N ≤ 1000) (v : Int32) (f : Nat → Int32) : cMet l yJ7_fill_53178 cJ7_fill_53178 4 { frames := 0, cells := 0, slots := 0, locals := 0 } [.int v] (fun cy => .inl (cy 0, N, .inl f)) (fun cy q _ => [(q, .inl (cy 0, N, .inl (fun j => if j < N then v else f j)))]) := by
  refine cMet_of (by decide) 12 rfl (fun q => Nat.le_of_ble_eq_true rfl) ?_
  intro p e s m below meth c dC dI cy q A Q ls CX hnm hw hl ret
  have CX' := CX
  obtain ⟨hx, hb, hml, hown, hts, hX, hA⟩ := CX
  have hl : lv_has ls 4 [(0, .ref q), (1, .int v)] := hl
  have loop : ∀ (n i : Nat) (H : Heap) (locs : List Loc) (ls : Array Slot), N - i ≤ n → i ≤ N → cWd dC dI A s.heap H locs [(q, .inl (cy 0, N, .inl (fun j => if j < i then v else f j)))] → lv_has ls 4 [(2, .int (nI i)), (3, .int (nI N)), (0, .ref q), (1, .int v)] → W p l e { frames := 0, cells := 0, slots := 0, locals := 0 } s m (Value.ref q :: [.int v]).toArray below meth c H locs 0 0 Q (F0 m 5 ls []) := by
    intro n
    induction n with
    | zero =>
      intro i H locs ls h1 h2 hw hl
      have e : i = N := by omega
      subst e
      refine lv_iload_n hx hb (by decide +kernel) (k := 2) rfl (lv_at hl 0 rfl) ?_
      refine lv_iload_n hx hb (by decide +kernel) (k := 3) rfl (lv_at hl 1 rfl) ?_
      refine lv_icmp_ge (off := 13) (tgt := 20) hx hb (by decide +kernel) (by decide) (fun _ => ?_) (fun c => absurd (Int32.le_refl _) c)
      exact ret H locs 20 ls (fun _ => 0) hw (by decide +kernel)
    | succ n ih =>
      intro i H locs ls h1 h2 hw hl
      refine lv_iload_n hx hb (by decide +kernel) (k := 2) rfl (lv_at hl 0 rfl) ?_
      refine lv_iload_n hx hb (by decide +kernel) (k := 3) rfl (lv_at hl 1 rfl) ?_
      refine lv_icmp_ge (off := 13) (tgt := 20) hx hb (by decide +kernel) (by decide) (fun c => ?_) (fun c => ?_)
      · have hi : N ≤ i := by
          rcases Nat.lt_or_ge i N with h | h
          · exact absurd c (nI_ge h (by omega))
          · exact h
        have e : i = N := by omega
        subst e
        exact ret H locs 20 ls (fun _ => 0) hw (by decide +kernel)
      · have hi : i < N := by
          rcases Nat.lt_or_ge i N with h | h
          · exact h
          · exact absurd (nI_le h (by omega)) c
        have ci : (nI i).toNatClampNeg = i := nI_clamp (by omega)
        refine lv_aload_n hx hb (by decide +kernel) (k := 0) rfl (lv_at hl 2 rfl) ?_
        refine lv_iload_n hx hb (by decide +kernel) (k := 2) rfl (lv_at hl 0 rfl) ?_
        refine lv_iload_n hx hb (by decide +kernel) (k := 1) rfl (lv_at hl 3 rfl) ?_
        refine c_iast CX' hw 0 rfl (vp_in_nI hi (by omega)) (by decide +kernel) (fun H1 locs1 hw => ?_)
        have hw : cWd dC dI A s.heap H1 locs1 [(q, .inl (cy 0, N, .inl (upd (fun j => if j < i then v else f j) (nI i).toNatClampNeg v)))] := hw
        rw [ci, cF_upd] at hw
        refine lv_iinc (v := nI (i + 1)) (lv' := [(2, .int (nI (i + 1))), (3, .int (nI N)), (0, .ref q), (1, .int v)]) (i := 2) (n := 1) hx hb (by decide +kernel) hl (k := 0) rfl (nI_succ i).symm (by decide) rfl (fun ls hl => ?_)
        refine lv_goto (off := -12) (tgt := 5) hx hb (by decide +kernel) (by decide) ?_
        exact ih (i + 1) H1 locs1 ls (by omega) (by omega) hw hl
  refine lv_iconst (n := 0) (v := 0) hx hb (by decide +kernel) (by decide) ?_
  refine lv_istore_n (lv' := [(2, .int 0), (0, .ref q), (1, .int v)]) (k := 2) hx hb (by decide +kernel) rfl hl (by decide) rfl (fun ls hl => ?_)
  refine lv_aload_n hx hb (by decide +kernel) (k := 0) rfl (lv_at hl 1 rfl) ?_
  refine va_alen hx hb hX.1 hw.1 0 0 rfl rfl (v := nI N) rfl (by decide +kernel) ?_
  refine lv_istore_n (lv' := [(3, .int (nI N)), (2, .int 0), (0, .ref q), (1, .int v)]) (k := 3) hx hb (by decide +kernel) rfl hl (by decide) rfl (fun ls hl => ?_)
  exact loop N 0 s.heap [] ls (by omega) (by omega) (by simpa using hw) (lv_sub hl [1, 0, 2, 3] rfl)
