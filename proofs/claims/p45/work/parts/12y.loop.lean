section
/-! the law's loop on the small machine -/
set_option maxHeartbeats 4000000 in
set_option maxRecDepth 20000 in
theorem lw_body {d : Nat} (hd : 13 ≤ d) {k : jK} {N : Nat} {xs : Nat → Int32} {i : Int32} {I : jI} {L : jL} (hi0 : 0 ≤ i.toInt) (hi : i.toInt + 6 ≤ (N : Int)) (hN : N ≤ 384) (hG : gG aGI I) (hJ : jJ I) (hR : lR I L) (nx : ∀ I' L', gG aGI I' → jJ I' → lR I' L' → jWB (jWPM d) k (some (N, xs)) jc_law (1423, [some (.inr (901, 0)), some (.inr (0, 0)), some (.inr (31, 0)), some (.inl (.inl i))], [], I', L')) : jWB (jWPM d) k (some (N, xs)) jc_law (27, [some (.inr (901, 0)), some (.inr (0, 0)), some (.inr (31, 0)), some (.inl (.inl i))], [], I, L) := by
  refine jWB_run [228, 261, 304, 337, 360, 423, 446, 479, 522, 545, 568, 601, 634, 657, 690, 703, 726, 759, 782, 805, 828, 851, 884, 907, 920, 933, 966, 999, 1022, 1045, 1058, 1091, 1124, 1157, 1200, 1223, 1256, 1279, 1312, 1325, 1338, 1351, 1374, 1387, 1410, 1423] 20 ?_
  conv => whnf
  refine ⟨vp_in_iff.mpr (by omega), ?_⟩
  conv => whnf
  refine ⟨fun _ => lwC_0 hd hi0 hi hN hG hJ hR nx, fun _ => ?_⟩
  conv => whnf
  refine ⟨fun _ => lwC_1 hd hi0 hi hN hG hJ hR nx, fun _ => ?_⟩
  conv => whnf
  refine ⟨fun _ => lwC_2 hd hi0 hi hN hG hJ hR nx, fun _ => ?_⟩
  conv => whnf
  refine ⟨fun _ => lwC_3 hd hi0 hi hN hG hJ hR nx, fun _ => ?_⟩
  conv => whnf
  refine ⟨fun _ => lwC_4 hd hi0 hi hN hG hJ hR nx, fun _ => ?_⟩
  conv => whnf
  refine ⟨fun _ => lwC_5 hd hi0 hi hN hG hJ hR nx, fun _ => ?_⟩
  conv => whnf
  refine ⟨fun _ => lwC_6 hd hi0 hi hN hG hJ hR nx, fun _ => ?_⟩
  conv => whnf
  refine ⟨fun _ => lwC_7 hd hi0 hi hN hG hJ hR nx, fun _ => ?_⟩
  conv => whnf
  refine ⟨fun _ => lwC_8 hd hi0 hi hN hG hJ hR nx, fun _ => ?_⟩
  conv => whnf
  refine ⟨fun _ => lwC_9 hd hi0 hi hN hG hJ hR nx, fun _ => ?_⟩
  conv => whnf
  refine ⟨fun _ => lwC_10 hd hi0 hi hN hG hJ hR nx, fun _ => ?_⟩
  conv => whnf
  refine ⟨fun _ => lwC_11 hd hi0 hi hN hG hJ hR nx, fun _ => ?_⟩
  conv => whnf
  refine ⟨fun _ => lwC_12 hd hi0 hi hN hG hJ hR nx, fun _ => ?_⟩
  conv => whnf
  refine ⟨fun _ => lwC_13 hd hi0 hi hN hG hJ hR nx, fun _ => ?_⟩
  conv => whnf
  refine ⟨fun _ => lwC_14 hd hi0 hi hN hG hJ hR nx, fun _ => ?_⟩
  conv => whnf
  refine ⟨fun _ => lwC_15 hd hi0 hi hN hG hJ hR nx, fun _ => ?_⟩
  conv => whnf
  refine ⟨fun _ => lwC_16 hd hi0 hi hN hG hJ hR nx, fun _ => ?_⟩
  conv => whnf
  refine ⟨fun _ => lwC_17 hd hi0 hi hN hG hJ hR nx, fun _ => ?_⟩
  conv => whnf
  refine ⟨fun _ => lwC_18 hd hi0 hi hN hG hJ hR nx, fun _ => ?_⟩
  conv => whnf
  refine ⟨fun _ => lwC_19 hd hi0 hi hN hG hJ hR nx, fun _ => ?_⟩
  conv => whnf
  refine ⟨fun _ => lwC_20 hd hi0 hi hN hG hJ hR nx, fun _ => ?_⟩
  conv => whnf
  refine ⟨fun _ => lwC_21 hd hi0 hi hN hG hJ hR nx, fun _ => ?_⟩
  conv => whnf
  refine ⟨fun _ => lwC_22 hd hi0 hi hN hG hJ hR nx, fun _ => ?_⟩
  conv => whnf
  refine ⟨fun _ => lwC_23 hd hi0 hi hN hG hJ hR nx, fun _ => ?_⟩
  conv => whnf
  refine ⟨fun _ => lwC_24 hd hi0 hi hN hG hJ hR nx, fun _ => ?_⟩
  conv => whnf
  refine ⟨fun _ => lwC_25 hd hi0 hi hN hG hJ hR nx, fun _ => ?_⟩
  conv => whnf
  refine ⟨fun _ => lwC_26 hd hi0 hi hN hG hJ hR nx, fun _ => ?_⟩
  conv => whnf
  refine ⟨fun _ => lwC_27 hd hi0 hi hN hG hJ hR nx, fun _ => ?_⟩
  conv => whnf
  refine ⟨fun _ => lwC_28 hd hi0 hi hN hG hJ hR nx, fun _ => ?_⟩
  conv => whnf
  refine ⟨fun _ => lwC_29 hd hi0 hi hN hG hJ hR nx, fun _ => ?_⟩
  conv => whnf
  refine ⟨fun _ => lwC_30 hd hi0 hi hN hG hJ hR nx, fun _ => ?_⟩
  conv => whnf
  refine ⟨fun _ => lwC_31 hd hi0 hi hN hG hJ hR nx, fun _ => ?_⟩
  conv => whnf
  refine ⟨fun _ => lwC_32 hd hi0 hi hN hG hJ hR nx, fun _ => ?_⟩
  conv => whnf
  refine ⟨fun _ => lwC_33 hd hi0 hi hN hG hJ hR nx, fun _ => ?_⟩
  conv => whnf
  refine ⟨fun _ => lwC_34 hd hi0 hi hN hG hJ hR nx, fun _ => ?_⟩
  conv => whnf
  refine ⟨fun _ => lwC_35 hd hi0 hi hN hG hJ hR nx, fun _ => ?_⟩
  conv => whnf
  refine ⟨fun _ => lwC_36 hd hi0 hi hN hG hJ hR nx, fun _ => ?_⟩
  conv => whnf
  refine ⟨fun _ => lwC_37 hd hi0 hi hN hG hJ hR nx, fun _ => ?_⟩
  conv => whnf
  refine ⟨fun _ => lwC_38 hd hi0 hi hN hG hJ hR nx, fun _ => ?_⟩
  conv => whnf
  refine ⟨fun _ => lwC_39 hd hi0 hi hN hG hJ hR nx, fun _ => ?_⟩
  conv => whnf
  refine ⟨fun _ => lwC_40 hd hi0 hi hN hG hJ hR nx, fun _ => ?_⟩
  conv => whnf
  refine ⟨fun _ => lwC_41 hd hi0 hi hN hG hJ hR nx, fun _ => ?_⟩
  conv => whnf
  refine ⟨fun _ => lwC_42 hd hi0 hi hN hG hJ hR nx, fun _ => ?_⟩
  conv => whnf
  refine ⟨fun _ => lwC_43 hd hi0 hi hN hG hJ hR nx, fun _ => ?_⟩
  conv => whnf
  refine ⟨fun _ => lwC_44 hd hi0 hi hN hG hJ hR nx, fun _ => ?_⟩
  exact nx I L hG hJ hR
theorem nI_sub {N : Nat} (hN : N ≤ 384) : (nI N - 6).toInt = (N : Int) - 6 := by
  have e : (nI N).toInt = (N : Int) := nI_toInt (by omega)
  have c : (6 : Int32).toInt = 6 := rfl
  rw [i32_sub (by rw [e, c]; omega), e, c]
set_option maxHeartbeats 4000000 in
set_option maxRecDepth 20000 in
theorem lw_loop {d : Nat} (hd : 13 ≤ d) {k : jK} {N : Nat} {xs : Nat → Int32} (hN : N ≤ 384) (hk : ∀ σ, k (some (.inl (.inl 1))) σ) : ∀ (n : Nat) (i : Int32) (I : jI) (L : jL), (N : Int) - i.toInt ≤ (n : Int) → 0 ≤ i.toInt → i.toInt ≤ 400 → gG aGI I → jJ I → lR I L → jWB (jWPM d) k (some (N, xs)) jc_law (18, [some (.inr (901, 0)), some (.inr (0, 0)), some (.inr (31, 0)), some (.inl (.inl i))], [], I, L)
  | n, i, I, L, h1, h2, h3, hG, hJ, hR => by
    have es := nI_sub hN
    refine jWB_run [18, 27, 1429] 20 ?_
    conv => whnf
    refine ⟨fun _ => ?_, fun q => ?_⟩
    · refine jWB_run [] 20 ?_
      exact hk _
    · have q : ¬ (N : Int) - 6 < i.toInt := fun z => q (lt_t.mpr (by rw [es]; exact z))
      refine lw_body hd h2 (by omega) hN hG hJ hR (fun I1 L1 g1 j1 r1 => ?_)
      have e6 : (i + 6).toInt = i.toInt + 6 := by rw [i32_add (by simp; omega)]; simp
      refine jWB_run [18] 20 ?_
      match n, h1 with
      | 0, h1 => exfalso; have : (N : Int) - i.toInt ≤ 0 := h1; omega
      | n + 1, h1 => exact lw_loop hd hN hk n (i + 6) I1 L1 (by omega) (by omega) (by omega) g1 j1 r1
termination_by n => n
end
section
/-! the constructors: their contracts, and the rows of their instructions -/
noncomputable def cnl : List Cond := [.methodLinkNest RX7 23 yX5_init "LargerPacket", .methodLinkNest RX7 30 yX1_init "LargerPacket", .methodLinkNest RX7 48 yX3_init "LargerPacket", .methodLinkNest RX7 55 yX0_init "LargerPacket", .methodLinkNest RX1 26 yX3_init "LargerPacket", .methodLinkNest RX4 35 yX3_init "LargerPacket", .methodLinkNest RX5 11 yX1_init "LargerPacket"]
theorem cnl_ml : ∀ w ∈ cnl, ∃ (a : String) (i : Nat) (x : MethodName) (h : String), w = .methodLinkNest a i x h := by
  intro w hw
  simp only [cnl, List.mem_cons, List.not_mem_nil, or_false] at hw
  rcases hw with rfl | rfl | rfl | rfl | rfl | rfl | rfl <;> exact ⟨_, _, _, _, rfl⟩
noncomputable def cX (dC : Nat → ClassId) (dI : Nat → Nat → Nat) (cy : Nat → ClassId) (U : State) : Prop := va_K (dC, dI) vwCl (jtys cy) U ∧ va_AO "LargerPacket$House" U ∧ va_AO "LargerPacket$Larder" U ∧ (Cond.arrayOver (.array .int)).before #[] U = true ∧ ∀ w ∈ cnl, va_Nw w U
theorem cX.warm {dC : Nat → ClassId} {dI : Nat → Nat → Nat} {cy : Nat → ClassId} {s U : State} (h : cX dC dI cy s) (hW : s.WarmedH U.vm) : cX dC dI cy U := ⟨va_K.moved hW.alike h.1, va_AO.moved hW.alike h.2.1, va_AO.moved hW.alike h.2.2.1, Stand.arrayOver_alikeB hW.alike h.2.2.2.1, fun w hw => by
  obtain ⟨a, i, x, hh, rfl⟩ := cnl_ml w hw
  exact va_Nw.warmM hW (h.2.2.2.2 _ hw)⟩
theorem cX.same {dC : Nat → ClassId} {dI : Nat → Nat → Nat} {cy : Nat → ClassId} {s U : State} (h : cX dC dI cy s) (e : s.vm = U.vm) : cX dC dI cy U := by
  have hal : s.vm.Alike U.vm := by rw [← e]; exact Vm.Alike.refl s.vm
  refine ⟨va_K.moved hal h.1, va_AO.moved hal h.2.1, va_AO.moved hal h.2.2.1, Stand.arrayOver_alikeB hal h.2.2.2.1, fun w hw => ?_⟩
  obtain ⟨a, i, x, hh, rfl⟩ := cnl_ml w hw
  exact va_Nw.same rfl e (h.2.2.2.2 _ hw)
noncomputable def cPre (dC : Nat → ClassId) (dI : Nat → Nat → Nat) (cy : Nat → ClassId) (q : Nat) (e0 : va_E) (sz : Nat) (U : State) : Prop := U.heap.size = sz ∧ va_P (dC, dI) vwCl [(q, e0)] U.heap ∧ cX dC dI cy U ∧ va_D (fun _ => True) [(q, e0)]
noncomputable def cPost (dC : Nat → ClassId) (dI : Nat → Nat → Nat) (cy : Nat → ClassId) (q : Nat) (e0 : va_E) (sz : Nat) (blk : (Nat → ClassId) → Nat → (Nat → Nat) → va_W) (ad : Nat → Nat) (t : State) : Prop := va_P (dC, dI) vwCl (blk cy q ad) t.heap ∧ va_D (va_A [(q, e0)] sz) (blk cy q ad)
/-- a constructor's contract: its own cell becomes a block -/
noncomputable def cMet (l : Launch) (y : MethodName) (bytes : ByteArray) (maxL : Nat) (rm : Room) (As : List Value) (e0 : (Nat → ClassId) → va_E) (blk : (Nat → ClassId) → Nat → (Nat → Nat) → va_W) : Prop := ∀ (dC : Nat → ClassId) (dI : Nat → Nat → Nat) (cy : Nat → ClassId) (q sz : Nat), Met l y (Cond.code y bytes maxL none :: jtb) rm (va_Pc (.ref q :: As) (cPre dC dI cy q (e0 cy) sz)) (va_Qv (fun _ : Nat → Nat => True) (cPost dC dI cy q (e0 cy) sz blk) (va_A [(q, e0 cy)] sz)) rm.cells rm.slots (va_A [(q, e0 cy)] sz)
noncomputable def cCx (p : Program) (s : State) (m : MethodId) (args : Array Value) (c : Code) (dC : Nat → ClassId) (dI : Nat → Nat → Nat) (cy : Nat → ClassId) (A : Nat → Prop) (on : Nat) (cc : ByteArray) (nL : Nat) : Prop :=
  p.tables.exec = Jvm.exec ∧ c.code = cc ∧ c.maxLocals = nL ∧ s.vm.findClass (jown on) = some m.cls ∧ (∀ w ∈ jtb, w.before args s = true) ∧ cX dC dI cy s ∧ (∀ q, s.heap.size ≤ q → A q)
noncomputable def cWd (dC : Nat → ClassId) (dI : Nat → Nat → Nat) (A : Nat → Prop) (H0 H : Heap) (locs : List Loc) (ws : va_W) : Prop := va_P (dC, dI) vwCl ws H ∧ va_D A ws ∧ va_S A H0 H locs
theorem c_blind (As : List Value) (dC : Nat → ClassId) (dI : Nat → Nat → Nat) (cy : Nat → ClassId) (q : Nat) (e0 : va_E) (sz : Nat) : FrameBlind (va_Pc As (cPre dC dI cy q e0 sz)) := by
  intro a U g mk h
  obtain ⟨h0, h1, h2, h3, h4⟩ := h
  exact ⟨h0, h1, h2, h3.same (U := U.calling g mk a) rfl, h4⟩
theorem c_nd_of : ∀ l : List Nat, l.Nodup → va_nd l = true
  | [], _ => rfl
  | a :: l, h => by
    rw [List.nodup_cons] at h
    simp only [va_nd, Bool.and_eq_true, decide_eq_true_eq]
    exact ⟨h.1, c_nd_of l h.2⟩
theorem c_nd (n : Nat) : va_nd (List.range n) = true := c_nd_of _ List.nodup_range
theorem c_outer (z : ClassId) (N h0 : Nat) : ∀ i : Nat, Jvm.Free.Multi.outerC z N h0 i = arrV z N (fun j => va_rf (if j < i then some (h0 + 1 + j) else none))
  | 0 => by
    show ({ cls := z, slots := Array.replicate N .null, vm := .none } : Cell) = _
    rw [arrV_new]
    refine congrArg (arrV z N) (funext fun j => ?_)
    simp [va_rf]
  | i + 1 => by
    show (Jvm.Free.Multi.outerC z N h0 i).setSlot i (.ref (h0 + 1 + i)) = _
    rw [c_outer z N h0 i, arrV_store]
    refine congrArg (arrV z N) (funext fun j => ?_)
    by_cases e : j = i
    · subst e
      simp [updV, va_rf]
    · by_cases h : j < i
      · simp [updV, e, h, Nat.lt_succ_of_lt h]
      · simp [updV, e, h, show ¬ j < i + 1 by omega]
theorem arrV_congr (z : ClassId) (N : Nat) {f g : Nat → Value} (h : ∀ j, j < N → f j = g j) : arrV z N f = arrV z N g := by
  unfold arrV
  congr 1
  congr 1
  funext j
  exact h j.val j.isLt
/-- int[N][K]: the outer one, and its rows -/
noncomputable def cGrid (cy : Nat → ClassId) (N K q : Nat) : va_W := (q, .inl (cy 5, N, .inr (.inr (.inr (.inr (fun j => some (q + 1 + j))))))) :: (List.range N).map (fun j => (q + 1 + j, .inl (cy 0, K, .inl (fun _ => 0))))
section CR
variable {p : Program} {l : Launch} {e : Env} {R : Room} {s : State} {m : MethodId} {args : Array Value} {below : List Frame} {meth : Method} {c : Code} {H : Heap} {locs : List Loc} {cells slots : Nat} {Q : State → Prop}
variable {cc : ByteArray} {pc : Nat} {ls : Array Slot} {rest : List Value} {dC : Nat → ClassId} {dI : Nat → Nat → Nat} {cy : Nat → ClassId} {A : Nat → Prop} {on nL : Nat} {ws : va_W}
theorem c_new (CX : cCx p s m args c dC dI cy A on cc nL) (hw : cWd dC dI A s.heap H locs ws) {C : String} {T : u_T} {N : Nat} (ci : Nat) {idx : Nat} (hc : vwCl[ci]? = some (C, T, N)) (ty : Nat → FieldType) (hty : ∀ k, k < N → parseFieldDescriptor (T k).2.2.1 = some (ty k)) (hcl : Cond.classLink (jown on) idx C ∈ jtb) (hinst : Cond.instantiable C N ∈ jtb) (hini : Cond.initialized C ∈ jtb) {fs : List Value} (hfs : ∀ j, j < N → defaultValue (ty j) = vp_V fs j) (hcells : cells + 1 ≤ R.cells) (hslots : slots + N ≤ R.slots) (hdg : decode cc pc = .ok (.new idx, 3))
    (kk : ∀ (q : Nat) (H1 : Heap), cWd dC dI A s.heap H1 locs (ws ++ [(q, .inr (ci, fs))]) → W p l e R s m args below meth c H1 locs (cells + 1) (slots + N) Q (F0 m (pc + 3) ls (.ref q :: rest))) : W p l e R s m args below meth c H locs cells slots Q (F0 m pc ls rest) := by
  obtain ⟨hx, hb, hml, hown, hts, hX, hA⟩ := CX
  obtain ⟨hP, hD, hS⟩ := hw
  exact va_new hx hb hts (jc_ok _ _ _ _ hc).1 ty hty hown (hts _ hcl) (hts _ hinst) (hts _ hini) hX.1 hP hD hS hA hc hfs hcells hslots hdg (fun q H1 h1 h2 h3 => kk q H1 ⟨h1, h2, h3⟩)
theorem c_arr (CX : cCx p s m args c dC dI cy A on cc nL) (hw : cWd dC dI A s.heap H locs ws) {atype : ArrayType} {ty : FieldType} (t0 : Nat) (ht : (jtys cy)[t0]? = some (cy t0, ty)) (hra : ∀ (U : State) (z : ClassId), va_RA U z ty → U.vm.findClass ("[" ++ ty.toString) = some z) (harr : Cond.arrayClass (newarray.typeOf atype) ∈ jtb) (hty : newarray.typeOf atype = ty)
    {n : Int32} {N' : Nat} {a0 : vp_A} (ha : ∀ cA : ClassId, vp_cell cA a0 = arrV cA N' (fun _ => defaultValue ty)) (hn : ¬ n < 0) (hN : n.toNatClampNeg = N') (hbytes : N' * componentBytes ty ≤ 536870912) (hcells : cells + 1 ≤ R.cells) (hslots : slots + N' ≤ R.slots) (hdg : decode cc pc = .ok (.newarray atype, 2))
    (kk : ∀ (q : Nat) (H1 : Heap), cWd dC dI A s.heap H1 locs (ws ++ [(q, .inl (cy t0, a0))]) → W p l e R s m args below meth c H1 locs (cells + 1) (slots + N') Q (F0 m (pc + 2) ls (.ref q :: rest))) : W p l e R s m args below meth c H locs cells slots Q (F0 m pc ls (.int n :: rest)) := by
  obtain ⟨hx, hb, hml, hown, hts, hX, hA⟩ := CX
  obtain ⟨hP, hD, hS⟩ := hw
  refine va_newa hx hb (hts _ harr) hty hX.1 hP hD hS hA ha hn hN hbytes hcells hslots hdg (fun q cA H1 h0 h1 h2 h3 => ?_)
  have e1 := hra s _ (hX.1.2 t0 _ ht).2
  have e2 := hra s cA (h0.2 6 (cA, ty) rfl).2
  have e : cA = cy t0 := Option.some.inj (e2.symm.trans e1)
  rw [e] at h1 h2
  exact kk q H1 ⟨h1, h2, h3⟩
theorem c_arrq (CX : cCx p s m args c dC dI cy A on cc nL) (hw : cWd dC dI A s.heap H locs ws) {C : String} {idx : Nat} (t0 : Nat) (ht : (jtys cy)[t0]? = some (cy t0, .object C)) (hcl : Cond.classLink (jown on) idx C ∈ jtb) (hao : va_AO C s)
    {n : Int32} {N' : Nat} (hn : ¬ n < 0) (hN : n.toNatClampNeg = N') (hbytes : N' * 4 ≤ 536870912) (hcells : cells + 1 ≤ R.cells) (hslots : slots + N' ≤ R.slots) (hdg : decode cc pc = .ok (.anewarray idx, 3))
    (kk : ∀ (q : Nat) (H1 : Heap), cWd dC dI A s.heap H1 locs (ws ++ [(q, .inl (cy t0, N', .inr (.inr (.inr (.inr (fun _ => none))))))]) → W p l e R s m args below meth c H1 locs (cells + 1) (slots + N') Q (F0 m (pc + 3) ls (.ref q :: rest))) : W p l e R s m args below meth c H locs cells slots Q (F0 m pc ls (.int n :: rest)) := by
  obtain ⟨hx, hb, hml, hown, hts, hX, hA⟩ := CX
  obtain ⟨hP, hD, hS⟩ := hw
  refine va_newq hx hb hown (hts _ hcl) hao hX.1 hP hD hS hA hn hN hbytes hcells hslots hdg (fun q cA H1 h0 h1 h2 h3 => ?_)
  obtain ⟨_, _, _, _, _, e1⟩ := (hX.1.2 t0 _ ht).2
  obtain ⟨_, _, _, _, _, e2⟩ := (h0.2 6 (cA, .object C) rfl).2
  have e : cA = cy t0 := Option.some.inj (e2.symm.trans e1)
  rw [e] at h1 h2
  exact kk q H1 ⟨h1, h2, h3⟩
theorem c_put (CX : cCx p s m args c dC dI cy A on cc nL) (hw : cWd dC dI A s.heap H locs ws) (q0 : Nat) {a ci : Nat} {fs : List Value} (he : ws[q0]? = some (a, .inr (ci, fs))) {C : String} {T : u_T} {N : Nat} (hc : vwCl[ci]? = some (C, T, N)) (k : Nat) (hk : k < N) {idx : Nat} (hlk : Cond.fieldLink (jown on) idx C (T k).2.1 (T k).2.2.1 ∈ jtb) (hC : (T k).1 = C) (hfin : (T k).2.2.2 = false) {ty : FieldType} {v : Value} (hd : parseFieldDescriptor (T k).2.2.1 = some ty) (hn : narrow ty v = v) (hfit : fits ty v = true) (hl : k < fs.length) (hdg : decode cc pc = .ok (.putfield idx, 3))
    (kk : ∀ (H1 : Heap) (locs1 : List Loc), cWd dC dI A s.heap H1 locs1 (ws.set q0 (a, .inr (ci, fs.set k v))) → W p l e R s m args below meth c H1 locs1 cells slots Q (F0 m (pc + 3) ls rest)) : W p l e R s m args below meth c H locs cells slots Q (F0 m pc ls (v :: .ref a :: rest)) := by
  obtain ⟨hx, hb, hml, hown, hts, hX, hA⟩ := CX
  obtain ⟨hP, hD, hS⟩ := hw
  obtain ⟨hin, ty0, hty, hnm⟩ := jc_ok _ _ _ _ hc
  exact va_put hx hb hts hin ty0 hty hnm hown hX.1 hP hD hS q0 he hc k hk (hts _ hlk) (fun x h => by rw [← hC]; exact h) hfin hd hn hfit hl hdg (fun H1 locs1 h1 h2 h3 => kk H1 locs1 ⟨h1, h2, h3⟩)
theorem c_putF (CX : cCx p s m args c dC dI cy A on cc nL) (hw : cWd dC dI A s.heap H locs ws) (hin2 : meth.name = "<init>") (q0 : Nat) {a ci : Nat} {fs : List Value} (he : ws[q0]? = some (a, .inr (ci, fs))) {C : String} {T : u_T} {N : Nat} (hc : vwCl[ci]? = some (C, T, N)) (k : Nat) (hk : k < N) {idx : Nat} (hlk : Cond.fieldLink (jown on) idx C (T k).2.1 (T k).2.2.1 ∈ jtb) (hC : (T k).1 = C) (hown2 : jown on = C) (hfin : (T k).2.2.2 = true) {ty : FieldType} {v : Value} (hd : parseFieldDescriptor (T k).2.2.1 = some ty) (hn : narrow ty v = v) (hfit : fits ty v = true) (hl : k < fs.length) (hdg : decode cc pc = .ok (.putfield idx, 3))
    (kk : ∀ (H1 : Heap) (locs1 : List Loc), cWd dC dI A s.heap H1 locs1 (ws.set q0 (a, .inr (ci, fs.set k v))) → W p l e R s m args below meth c H1 locs1 cells slots Q (F0 m (pc + 3) ls rest)) : W p l e R s m args below meth c H locs cells slots Q (F0 m pc ls (v :: .ref a :: rest)) := by
  obtain ⟨hx, hb, hml, hown, hts, hX, hA⟩ := CX
  obtain ⟨hP, hD, hS⟩ := hw
  obtain ⟨hin, ty0, hty, hnm⟩ := jc_ok _ _ _ _ hc
  exact va_putF hx hb hts hin ty0 hty hnm hown hX.1 hP hD hS q0 he hc k hk (hts _ hlk) (fun x h => by rw [← hC]; exact h) hfin hin2 (hC.trans hown2.symm) hd hn hfit hl hdg (fun H1 locs1 h1 h2 h3 => kk H1 locs1 ⟨h1, h2, h3⟩)
theorem c_get (CX : cCx p s m args c dC dI cy A on cc nL) (hw : cWd dC dI A s.heap H locs ws) (q0 : Nat) {a ci : Nat} {fs : List Value} (he : ws[q0]? = some (a, .inr (ci, fs))) {C : String} {T : u_T} {N : Nat} (hc : vwCl[ci]? = some (C, T, N)) (k : Nat) (hk : k < N) {idx : Nat} (hlk : Cond.fieldLink (jown on) idx C (T k).2.1 (T k).2.2.1 ∈ jtb) (hC : (T k).1 = C) {v : Value} (hv : fs[k]? = some v) (hdg : decode cc pc = .ok (.getfield idx, 3))
    (kk : W p l e R s m args below meth c H locs cells slots Q (F0 m (pc + 3) ls (v :: rest))) : W p l e R s m args below meth c H locs cells slots Q (F0 m pc ls (.ref a :: rest)) := by
  obtain ⟨hx, hb, hml, hown, hts, hX, hA⟩ := CX
  obtain ⟨hP, hD, hS⟩ := hw
  exact va_get hx hb hts (jc_ok _ _ _ _ hc).1 hown hX.1 hP q0 he hc k hk (hts _ hlk) (fun x h => by rw [← hC]; exact h) hv hdg kk
theorem c_iast (CX : cCx p s m args c dC dI cy A on cc nL) (hw : cWd dC dI A s.heap H locs ws) (q0 : Nat) {a n : Nat} {f : Nat → Int32} (ha : ws[q0]? = some (a, .inl (cy 0, n, .inl f))) {i x : Int32} (hin : vp_in i n) (hdg : decode cc pc = .ok (.iastore, 1))
    (kk : ∀ (H1 : Heap) (locs1 : List Loc), cWd dC dI A s.heap H1 locs1 (ws.set q0 (a, .inl (cy 0, n, .inl (upd f i.toNatClampNeg x)))) → W p l e R s m args below meth c H1 locs1 cells slots Q (F0 m (pc + 1) ls rest)) : W p l e R s m args below meth c H locs cells slots Q (F0 m pc ls (.int x :: .int i :: .ref a :: rest)) := by
  obtain ⟨hx, hb, hml, hown, hts, hX, hA⟩ := CX
  obtain ⟨hP, hD, hS⟩ := hw
  exact va_iast hx hb hX.1 hP hD hS q0 0 ha rfl hin hdg (fun H1 locs1 h1 h2 h3 => kk H1 locs1 ⟨h1, h2, h3⟩)
theorem c_aast (CX : cCx p s m args c dC dI cy A on cc nL) (hw : cWd dC dI A s.heap H locs ws) (q0 t0 : Nat) {a n v ci : Nat} {vs : List Value} {f : Nat → Option Nat} {r : vw_C} (ha : ws[q0]? = some (a, .inl (cy t0, n, .inr (.inr (.inr (.inr f)))))) (ht : (jtys cy)[t0]? = some (cy t0, .object r.1)) (hv : (v, .inr (ci, vs)) ∈ ws) (hc : vwCl[ci]? = some r) {i : Int32} (hin : vp_in i n) (hdg : decode cc pc = .ok (.aastore, 1))
    (kk : ∀ (H1 : Heap) (locs1 : List Loc), cWd dC dI A s.heap H1 locs1 (ws.set q0 (a, .inl (cy t0, n, .inr (.inr (.inr (.inr (va_up f i.toNatClampNeg (some v)))))))) → W p l e R s m args below meth c H1 locs1 cells slots Q (F0 m (pc + 1) ls rest)) : W p l e R s m args below meth c H locs cells slots Q (F0 m pc ls (.ref v :: .int i :: .ref a :: rest)) := by
  obtain ⟨hx, hb, hml, hown, hts, hX, hA⟩ := CX
  obtain ⟨hP, hD, hS⟩ := hw
  obtain ⟨qk, hqk⟩ := List.getElem?_of_mem hv
  exact va_astq hx hb hX.1 hP hD hS q0 t0 qk ci ha ht hqk hc hin hdg (fun H1 locs1 h1 h2 h3 => kk H1 locs1 ⟨h1, h2, h3⟩)
theorem c_obj (CX : cCx p s m args c dC dI cy A on cc nL) {idx : Nat} (h1 : Cond.methodLink (jown on) idx objectInit ∈ jtb) (h2 : Cond.instanceMethod objectInit ∈ jtb) (h3 : Cond.code objectInit ⟨#[0xb1]⟩ 1 none ∈ jtb) (hs : ls.size = nL) {a : Nat} (hdg : decode cc pc = .ok (.invokespecial idx, 3)) (hf : 1 ≤ R.frames) (hlo : 12 ≤ R.locals)
    (kk : W p l e R s m args below meth c H locs cells slots Q (F0 m (pc + 3) ls [])) : W p l e R s m args below meth c H locs cells slots Q (F0 m pc ls [.ref a]) := by
  obtain ⟨hx, hb, hml, hown, hts, hX, hA⟩ := CX
  exact W.objInit hx hb hown (hts _ h1) (hts _ h2) (hts _ h3) rfl (by rw [hml]; exact hs) rfl hdg hf hlo kk
theorem c_last {q : Nat} {e0 : va_E} (hw : cWd dC dI A s.heap H locs (ws ++ [(q, e0)])) : va_P (dC, dI) vwCl [(q, e0)] H ∧ va_D A [(q, e0)] := by
  obtain ⟨hP, hD, hS⟩ := hw
  have h : (ws ++ [(q, e0)])[ws.length]? = some (q, e0) := by simp
  exact ⟨hP.sub [ws.length] (by simp), hD.sub [ws.length] rfl (by simp)⟩
theorem c_after (CX : cCx p s m args c dC dI cy A on cc nL) {q : Nat} {e0 : va_E} {blk : (Nat → ClassId) → Nat → (Nat → Nat) → va_W} (hw : cWd dC dI A s.heap H locs (ws ++ [(q, e0)])) {mc ms : Nat} {st0 : List Value} {a : Array Value} (hr : va_Run p l e R s m args below meth c H locs cells slots mc ms (F0 m pc ls st0) rest (va_Qv (fun _ : Nat → Nat => True) (cPost dC dI cy q e0 H.size blk) (va_A [(q, e0)] H.size) a) (va_A [(q, e0)] H.size))
    (kk : ∀ (ad : Nat → Nat) (H1 : Heap) (locs1 : List Loc), cWd dC dI A s.heap H1 locs1 (ws ++ blk cy q ad) → W p l e R s m args below meth c H1 locs1 (cells + mc) (slots + ms) Q (F0 m (pc + 3) ls rest)) : W p l e R s m args below meth c H locs cells slots Q (F0 m pc ls st0) := by
  obtain ⟨hx, hb, hml, hown, hts, hX, hA⟩ := CX
  obtain ⟨hP, hD, hS⟩ := hw
  have hC : [ws.length].map (fun i => (ws ++ [(q, e0)])[i]?) = [(q, e0)].map some := by simp
  have hFc := va_free (wc := [(q, e0)]) hD hS hA [ws.length] hC
  refine va_callv hr hS (fun x _ h => hFc x h) hFc (fun ad t H1 locs1 ht hvm _ hB hz1 hk1 hS1 => ?_)
  obtain ⟨hP1, hD1⟩ := hB
  rw [ht] at hP1
  have hR : (List.range ws.length).map (fun i => (ws ++ [(q, e0)])[i]?) = ws.map some := by
    apply List.ext_getElem?
    intro i
    rw [List.getElem?_map, List.getElem?_map]
    by_cases hi : i < ws.length
    · rw [List.getElem?_range hi, Option.map_some, List.getElem?_append_left hi, List.getElem?_eq_getElem hi]; rfl
    · rw [List.getElem?_eq_none (by simpa using hi), List.getElem?_eq_none (by simpa using hi)]; rfl
  have hnd : va_nd (List.range ws.length) = true := c_nd _
  obtain ⟨g1, g2⟩ := va_join (wr := ws) (w1 := blk cy q ad) hP hD [ws.length] (List.range ws.length) hC hR hnd (fun i hi h => by rw [List.mem_singleton] at h; rw [List.mem_range] at hi; omega) hk1 hFc hP1 hD1
  exact kk ad H1 locs1 ⟨g1, g2, hS1⟩
theorem c_initN (CX : cCx p s m args c dC dI cy A on cc nL) {y : MethodName} {bytes : ByteArray} {maxL : Nat} {rm : Room} {As : List Value} {e0 : (Nat → ClassId) → va_E} {blk : (Nat → ClassId) → Nat → (Nat → Nat) → va_W} (hM : cMet l y bytes maxL rm As e0 blk) {q : Nat} (hw : cWd dC dI A s.heap H locs (ws ++ [(q, e0 cy)])) {idx : Nat} (hcode : Cond.code y bytes maxL none ∈ jtb) (hlk : Cond.methodLinkNest (jown on) idx y "LargerPacket" ∈ cnl) (hini : Cond.initialized y.cls ∈ jtb) (hinst : Cond.instanceMethod y ∈ jtb) (hy1 : y.name = "<init>")
    (hd : y.cls ≠ "java/lang/invoke/MethodHandle" ∧ y.cls ≠ "java/lang/invoke/VarHandle" ∧ (parseMethodDescriptor y.desc).map (fun d => d.parameters.length) = some As.length) (hR : rm.frames + 1 ≤ R.frames ∧ 8 + (maxL + 11) + rm.locals ≤ R.locals) (hs : ls.size = nL) (hrest : (rest.map fun v => v.category).sum ≤ 8) (hdg : decode cc pc = .ok (.invokespecial idx, 3)) (hf : cells + rm.cells ≤ R.cells ∧ slots + rm.slots ≤ R.slots)
    (kk : ∀ (ad : Nat → Nat) (H1 : Heap) (locs1 : List Loc), cWd dC dI A s.heap H1 locs1 (ws ++ blk cy q ad) → W p l e R s m args below meth c H1 locs1 (cells + rm.cells) (slots + rm.slots) Q (F0 m (pc + 3) ls rest)) : W p l e R s m args below meth c H locs cells slots Q (F0 m pc ls (As.reverse ++ .ref q :: rest)) := by
  have hla := c_last hw
  have CX' := CX
  obtain ⟨hx, hb, hml, hown, hts, hX, hA⟩ := CX
  refine c_after CX' hw (va_runIN (Ts := jtb) ⟨hx, hb, hml, hown, hts⟩ (hM dC dI cy q H.size) ⟨va_cnB As.length hts (fun w h => ?_) rfl rfl rfl (hX.2.2.2.2 _ hlk) (hts _ hini) hd hR, hy1, hts _ hinst⟩ ⟨c_blind _ _ _ _ _ _ _, fun U hU hW => ⟨rfl, by rw [hU], by rw [hU]; exact hla.1, hX.warm hW, hla.2.weaken (fun _ _ _ _ => trivial)⟩⟩ rfl rfl hs rfl (lv_room hrest) hdg hf) kk
  have h1 : w ∈ jtb := by
    rcases List.mem_cons.mp h with h | h
    · rw [h]; exact hcode
    · exact h
  exact ⟨h1, good_of_word (jtb_good w h1)⟩
theorem c_initI (CX : cCx p s m args c dC dI cy A on cc nL) {y : MethodName} {bytes : ByteArray} {maxL : Nat} {rm : Room} {As : List Value} {e0 : (Nat → ClassId) → va_E} {blk : (Nat → ClassId) → Nat → (Nat → Nat) → va_W} (hM : cMet l y bytes maxL rm As e0 blk) {q : Nat} (hw : cWd dC dI A s.heap H locs (ws ++ [(q, e0 cy)])) {idx : Nat} (hcode : Cond.code y bytes maxL none ∈ jtb) (hlk : Cond.methodLink (jown on) idx y ∈ jtb) (hini : Cond.initialized y.cls ∈ jtb) (hinst : Cond.instanceMethod y ∈ jtb) (hy1 : y.name = "<init>")
    (hd : y.cls ≠ "java/lang/invoke/MethodHandle" ∧ y.cls ≠ "java/lang/invoke/VarHandle" ∧ (parseMethodDescriptor y.desc).map (fun d => d.parameters.length) = some As.length) (hR : rm.frames + 1 ≤ R.frames ∧ 8 + (maxL + 11) + rm.locals ≤ R.locals) (hs : ls.size = nL) (hrest : (rest.map fun v => v.category).sum ≤ 8) (hdg : decode cc pc = .ok (.invokespecial idx, 3)) (hf : cells + rm.cells ≤ R.cells ∧ slots + rm.slots ≤ R.slots)
    (kk : ∀ (ad : Nat → Nat) (H1 : Heap) (locs1 : List Loc), cWd dC dI A s.heap H1 locs1 (ws ++ blk cy q ad) → W p l e R s m args below meth c H1 locs1 (cells + rm.cells) (slots + rm.slots) Q (F0 m (pc + 3) ls rest)) : W p l e R s m args below meth c H locs cells slots Q (F0 m pc ls (As.reverse ++ .ref q :: rest)) := by
  have hla := c_last hw
  have CX' := CX
  obtain ⟨hx, hb, hml, hown, hts, hX, hA⟩ := CX
  refine c_after CX' hw (va_runI (Ts := jtb) ⟨hx, hb, hml, hown, hts⟩ (hM dC dI cy q H.size) (cwI As.length hts (fun w h => ?_) rfl rfl rfl (hts _ hini) (hts _ hlk) (hts _ hinst) hy1 hd hR) ⟨c_blind _ _ _ _ _ _ _, fun U hU hW => ⟨rfl, by rw [hU], by rw [hU]; exact hla.1, hX.warm hW, hla.2.weaken (fun _ _ _ _ => trivial)⟩⟩ rfl rfl hs rfl (lv_room hrest) hdg hf) kk
  have h1 : w ∈ jtb := by
    rcases List.mem_cons.mp h with h | h
    · rw [h]; exact hcode
    · exact h
  exact ⟨h1, good_of_word (jtb_good w h1)⟩
theorem c_callS (CX : cCx p s m args c dC dI cy A on cc nL) {y : MethodName} {bytes : ByteArray} {maxL : Nat} {rm : Room} {As : List Value} {e0 : (Nat → ClassId) → va_E} {blk : (Nat → ClassId) → Nat → (Nat → Nat) → va_W} (hM : cMet l y bytes maxL rm As e0 blk) {q : Nat} (hw : cWd dC dI A s.heap H locs (ws ++ [(q, e0 cy)])) {idx : Nat} (hcode : Cond.code y bytes maxL none ∈ jtb) (hlk : Cond.methodLink (jown on) idx y ∈ jtb) (hini : Cond.initialized y.cls ∈ jtb) (hst : Cond.static y ∈ jtb)
    (hd : y.cls ≠ "java/lang/invoke/MethodHandle" ∧ y.cls ≠ "java/lang/invoke/VarHandle" ∧ (parseMethodDescriptor y.desc).map (fun d => d.parameters.length) = some (As.length + 1)) (hR : rm.frames + 1 ≤ R.frames ∧ 8 + (maxL + 11) + rm.locals ≤ R.locals) (hs : ls.size = nL) (hrest : (rest.map fun v => v.category).sum ≤ 8) (hdg : decode cc pc = .ok (.invokestatic idx, 3)) (hf : cells + rm.cells ≤ R.cells ∧ slots + rm.slots ≤ R.slots)
    (kk : ∀ (ad : Nat → Nat) (H1 : Heap) (locs1 : List Loc), cWd dC dI A s.heap H1 locs1 (ws ++ blk cy q ad) → W p l e R s m args below meth c H1 locs1 (cells + rm.cells) (slots + rm.slots) Q (F0 m (pc + 3) ls rest)) : W p l e R s m args below meth c H locs cells slots Q (F0 m pc ls (As.reverse ++ .ref q :: rest)) := by
  have hla := c_last hw
  have CX' := CX
  obtain ⟨hx, hb, hml, hown, hts, hX, hA⟩ := CX
  refine c_after CX' hw (va_runS (Ts := jtb) (As := .ref q :: As) ⟨hx, hb, hml, hown, hts⟩ (hM dC dI cy q H.size) ⟨callB_of (As.length + 1) hts (fun w h => ?_) rfl rfl rfl (hts _ hini) (hts _ hlk) hd hR, hts _ hst⟩ ⟨c_blind _ _ _ _ _ _ _, fun U hU hW => ⟨rfl, by rw [hU], by rw [hU]; exact hla.1, hX.warm hW, hla.2.weaken (fun _ _ _ _ => trivial)⟩⟩ rfl rfl hs (by simp [F0]) (lv_room hrest) hdg hf) kk
  have h1 : w ∈ jtb := by
    rcases List.mem_cons.mp h with h | h
    · rw [h]; exact hcode
    · exact h
  exact ⟨h1, good_of_word (jtb_good w h1)⟩
theorem c_mna (CX : cCx p s m args c dC dI cy A on cc nL) (hw : cWd dC dI A s.heap H locs ws) {idx : Nat} (hcl : Cond.classLink (jown on) idx ("[" ++ (FieldType.array .int).toString) ∈ jtb) (harr : Cond.arrayClass .int ∈ jtb) {n k : Int32} {N K : Nat} (hn : ¬ n < 0) (hk : ¬ k < 0) (hN : n.toNatClampNeg = N) (hK : k.toNatClampNeg = K) (hb1 : N ≤ 1000) (hb2 : K ≤ 1000) (hcells : cells + (1 + N) ≤ R.cells) (hslots : slots + (N + N * K) ≤ R.slots) (hdg : decode cc pc = .ok (.multianewarray idx 2, 4))
    (kk : ∀ (q : Nat) (H1 : Heap), cWd dC dI A s.heap H1 locs (ws ++ cGrid cy N K q) → W p l e R s m args below meth c H1 locs (cells + (1 + N)) (slots + (N + N * K)) Q (F0 m (pc + 4) ls (.ref q :: rest))) : W p l e R s m args below meth c H locs cells slots Q (F0 m pc ls (.int k :: .int n :: rest)) := by
  obtain ⟨hx, hb, hml, hown, hts, hX, hA⟩ := CX
  obtain ⟨hP, hD, hS⟩ := hw
  subst hN
  subst hK
  intro T hT Xs
  obtain ⟨vm₁, cA, comp, -, fA, fC, hO, -, X', step⟩ := Xs.multianewarray2F hx (ty := .int) hown (hts _ hcl) (Stand.arrayOver_alikeB (Vm.Alike.refl s.vm) hX.2.2.2.1) (hts _ harr) (g := F0 m pc ls (.int k :: .int n :: rest)) rfl (by rw [hb]; exact hdg) rfl hn hk (by omega) (by simp [componentBytes]; omega) (by omega) rfl rfl hcells hslots
  have e5 : cA = cy 5 := by
    have e1 : s.vm.findClass ("[" ++ (FieldType.array .int).toString) = some (cy 5) := (hX.1.2 5 (cy 5, .array .int) rfl).2
    exact Option.some.inj (fA.symm.trans e1)
  have e0 : comp = cy 0 := by
    have e1 : s.vm.findClass ("[" ++ FieldType.int.toString) = some (cy 0) := (hX.1.2 0 (cy 0, .int) rfl).2
    exact Option.some.inj (fC.symm.trans e1)
  subst e5
  subst e0
  generalize hF : Jvm.Free.Multi.fill (T.setVm vm₁) (cy 5) (cy 0) n.toNatClampNeg k.toNatClampNeg (defaultValue .int) n.toNatClampNeg = F at X' step
  have hTh : (T.setVm vm₁).heap = H := hT
  obtain ⟨f1, f2, -, -⟩ := Jvm.Free.Multi.fill_facts (T.setVm vm₁) (cy 5) (cy 0) n.toNatClampNeg k.toNatClampNeg (defaultValue .int) n.toNatClampNeg
  rw [hF, hTh] at f1 f2
  have hold : ∀ x : Nat, x < H.size → F.heap[x]? = H[x]? := fun x hx => by
    have := Jvm.Free.Multi.fill_old (T.setVm vm₁) (cy 5) (cy 0) n.toNatClampNeg k.toNatClampNeg (defaultValue .int) (a := x) (by rw [hTh]; exact hx) n.toNatClampNeg
    rw [hF, hTh] at this
    exact this
  have hrow : ∀ j : Nat, j < n.toNatClampNeg → F.heap[H.size + 1 + j]? = some (vp_cell (cy 0) (k.toNatClampNeg, .inl (fun _ => 0))) := fun j hj => by
    have := Jvm.Free.Multi.fill_inner (T.setVm vm₁) (cy 5) (cy 0) n.toNatClampNeg k.toNatClampNeg (defaultValue .int) n.toNatClampNeg j hj
    rw [hF, hTh] at this
    rw [this, vp_cell_i]
    exact congrArg some (arrV_new _ _ _)
  have hout : Jvm.Free.Multi.outerC (cy 5) n.toNatClampNeg H.size n.toNatClampNeg = vp_cell (cy 5) (n.toNatClampNeg, .inr (.inr (.inr (.inr (fun i => some (H.size + 1 + i)))))) := by
    rw [vp_cell_q, c_outer]
    exact arrV_congr _ _ (fun j hj => by rw [if_pos hj])
  rw [hout] at f2
  have hP0 : va_P (dC, dI) vwCl ws F.heap := hP.kept (fun k9 x hx => hold x.1 ((hP k9 x hx).lt))
  have hat : ∀ (i : Nat) (x : Nat × va_E), (cGrid cy n.toNatClampNeg k.toNatClampNeg H.size)[i]? = some x → x.1 = H.size + i ∧ va_at (dC, dI) vwCl x F.heap := by
    intro i x hi
    cases i with
    | zero =>
      have : x = (H.size, .inl (cy 5, n.toNatClampNeg, .inr (.inr (.inr (.inr (fun j => some (H.size + 1 + j))))))) := (Option.some.inj hi).symm
      subst this
      exact ⟨rfl, f2⟩
    | succ i =>
      unfold cGrid at hi
      rw [List.getElem?_cons_succ, List.getElem?_map] at hi
      by_cases hl : i < n.toNatClampNeg
      · rw [List.getElem?_range hl] at hi
        have : x = (H.size + 1 + i, .inl (cy 0, k.toNatClampNeg, .inl (fun _ => 0))) := (Option.some.inj hi).symm
        subst this
        exact ⟨by simp; omega, hrow i hl⟩
      · rw [List.getElem?_eq_none (by simpa using hl)] at hi
        cases hi
  obtain ⟨t, a1, b1⟩ := kk H.size F.heap ⟨hP0.app (fun i x hi => (hat i x hi).2), va_D.app hD ⟨fun i j x y hi hj hxy => by have h1 := (hat i x hi).1; have h2 := (hat j y hj).1; omega, fun i x hi => hA _ (Nat.le_trans hS.1 (by have h1 := (hat i x hi).1; omega))⟩ (fun i j x y hi hj hxy => by have h1 := (hP i x hi).lt; have h2 := (hat j y hj).1; omega), Nat.le_trans hS.1 (by rw [f1]; omega), fun x h1 h2 => (hold x (Nat.lt_of_lt_of_le h1 hS.1)).trans (hS.2.1 x h1 h2), hS.2.2⟩ F rfl (by rw [← Nat.add_assoc, ← Nat.add_assoc]; exact X')
  rw [hT] at step
  exact ⟨t, step t a1, b1⟩
end CR
end
section
theorem cMet_of {l : Launch} {y : MethodName} {bytes : ByteArray} {maxL : Nat} {rm : Room} {As : List Value} {e0 : (Nat → ClassId) → va_E} {blk : (Nat → ClassId) → Nat → (Nat → Nat) → va_W} (hy : plainName y.cls = true) (on : Nat) (hon : y.cls = jown on) (hle : ∀ q : Nat, (lg_sl (Value.ref q :: As)).length ≤ maxL)
    (body : ∀ (p : Program) (e : Env) (s : State) (m : MethodId) (below : List Frame) (meth : Method) (c : Code) (dC : Nat → ClassId) (dI : Nat → Nat → Nat) (cy : Nat → ClassId) (q : Nat) (A : Nat → Prop) (Q : State → Prop) (ls : Array Slot), cCx p s m (Value.ref q :: As).toArray c dC dI cy A on bytes maxL → meth.name = y.name → cWd dC dI A s.heap s.heap [] [(q, e0 cy)] → lv_has ls maxL (lv_args 0 (Value.ref q :: As)) →
      (∀ (H : Heap) (locs : List Loc) (pc : Nat) (ls : Array Slot) (ad : Nat → Nat), cWd dC dI A s.heap H locs (blk cy q ad) → decode bytes pc = .ok (.return_, 1) → W p l e rm s m (Value.ref q :: As).toArray below meth c H locs rm.cells rm.slots Q (F0 m pc ls [])) → W p l e rm s m (Value.ref q :: As).toArray below meth c s.heap [] 0 0 Q (F0 m 0 ls [])) : cMet l y bytes maxL rm As e0 blk := by
  intro dC dI cy q sz
  refine Met.ofW (cc := bytes) (maxL := maxL) (ret := none) hy rfl ?_
  intro p e s m args below meth c s₁ B hml hv
  obtain ⟨rfl, hsz, hP, hX, hD0⟩ := hv
  have hx := B.exec
  have hb := B.bytes
  have hr := B.returns
  have hts0 := atoms_spec (ws := Cond.code y bytes maxL none :: jtb) B.pre
  have hown : s.vm.findClass y.cls = some m.cls := findClass_of_methodNamed B.named
  rw [hon] at hown
  have hlocks := B.notSynchronized
  have hin : meth.name = y.name := (name_of_methodNamed B.named B.method).1
  subst hsz
  have hD := hD0.self (sz := s.heap.size)
  have hl := lv_entry (Value.ref q :: As) (n := maxL) (hle q)
  rw [lg_entry_eq]
  generalize (lg_sl (Value.ref q :: As) ++ List.replicate (maxL - (lg_sl (Value.ref q :: As)).length) Slot.unset).toArray = ls at hl ⊢
  refine body p e s m below meth c dC dI cy q (va_A [(q, e0 cy)] s.heap.size) _ ls ⟨hx, hb, hml, hown, fun w h => hts0 w (List.mem_cons_of_mem _ h), hX, fun q h => Or.inr h⟩ hin ⟨hP, hD, va_S.rf⟩ hl (fun H locs pc ls ad hw hdg => ?_)
  obtain ⟨hP1, hD1, hS⟩ := hw
  exact W.vret hx hb hr (fun t ht hW => ⟨⟨ad, rfl, trivial, by rw [ht]; exact hP1, hD1⟩, hS.F ht⟩) hS.2.2 hdg hlocks
section CS
variable {dC : Nat → ClassId} {dI : Nat → Nat → Nat} {A : Nat → Prop} {H0 H : Heap} {locs : List Loc}
theorem c_mem {ws ws' : va_W} (hw : cWd dC dI A H0 H locs ws) (is : List Nat) (hn : va_nd is = true) (hs : is.map (fun i => ws[i]?) = ws'.map some) : cWd dC dI A H0 H locs ws' := by
  obtain ⟨hP, hD, hS⟩ := hw
  refine ⟨fun k q hk => ?_, hD.sub is hn hs, hS⟩
  have h1 : (is.map (fun i => ws[i]?))[k]? = some (some q) := by rw [hs, List.getElem?_map, hk]; rfl
  rw [List.getElem?_map] at h1
  cases hi : is[k]? with
  | none => rw [hi] at h1; cases h1
  | some i => rw [hi] at h1; exact hP i q (Option.some.inj h1)
theorem c_rot {x y : Nat × va_E} {T : va_W} (hw : cWd dC dI A H0 H locs (x :: (T ++ [y]))) : cWd dC dI A H0 H locs (x :: y :: T) := by
  refine c_mem hw (0 :: (T.length + 1) :: (List.range T.length).map (· + 1)) ?_ ?_
  · refine c_nd_of _ ?_
    rw [List.nodup_cons, List.nodup_cons]
    refine ⟨by simp, by simp, ?_⟩
    show List.Pairwise (· ≠ ·) _
    rw [List.pairwise_map]
    exact List.Pairwise.imp (fun h e => h (by simpa using e)) List.nodup_range
  · simp only [List.map_cons, List.map_map]
    congr 1
    congr 1
    · simp
    · apply List.ext_getElem?
      intro i
      rw [List.getElem?_map, List.getElem?_map]
      by_cases hi : i < T.length
      · rw [List.getElem?_range hi, Option.map_some, List.getElem?_eq_getElem hi]
        simp [List.getElem?_append_left hi, List.getElem?_eq_getElem hi]
      · rw [List.getElem?_eq_none (by simpa using hi), List.getElem?_eq_none (by simpa using hi)]; rfl
theorem c_cell {x : Nat × va_E} {T : va_W} {a n : Nat} {z : ClassId} {f g : Nat → Option Nat} (h : ∀ j, j < n → f j = g j) (hw : cWd dC dI A H0 H locs (x :: (a, .inl (z, n, .inr (.inr (.inr (.inr f))))) :: T)) : cWd dC dI A H0 H locs (x :: (a, .inl (z, n, .inr (.inr (.inr (.inr g))))) :: T) := by
  obtain ⟨hP, hD, hS⟩ := hw
  have hs := hD.set (p := 1) (a := a) (e0 := .inl (z, n, .inr (.inr (.inr (.inr f))))) (e := .inl (z, n, .inr (.inr (.inr (.inr g))))) rfl
  refine ⟨fun k q hk => ?_, hs, hS⟩
  match k, hk with
  | 0, hk => exact hP 0 q hk
  | 1, hk =>
    cases hk
    have h1 := hP 1 _ rfl
    show H[a]? = some (vp_cell _ _)
    have h1 : H[a]? = some (vp_cell z (n, .inr (.inr (.inr (.inr f))))) := h1
    rw [h1, vp_cell_q, vp_cell_q]
    exact congrArg some (arrV_congr _ _ (fun j hj => by rw [h j hj]))
  | k + 2, hk => exact hP (k + 2) q hk
end CS
theorem cF_upd {f : Nat → Int32} {v : Int32} {i : Nat} : upd (fun j => if j < i then v else f j) i v = fun j => if j < i + 1 then v else f j := by
  funext j
  unfold upd
  by_cases h : j = i
  · subst h; simp
  · by_cases h2 : j < i
    · simp [h, h2, Nat.lt_succ_of_lt h2]
    · simp [h, h2, show ¬ j < i + 1 by omega]
set_option maxHeartbeats 1000000 in
theorem cF_fill (l : Launch) (N : Nat) (hN : N ≤ 1000) (v : Int32) (f : Nat → Int32) : cMet l yJ7_fill_53178 cJ7_fill_53178 4 { frames := 0, cells := 0, slots := 0, locals := 0 } [.int v] (fun cy => .inl (cy 0, N, .inl f)) (fun cy q _ => [(q, .inl (cy 0, N, .inl (fun j => if j < N then v else f j)))]) := by
  refine cMet_of (by decide) 12 rfl (fun q => Nat.le_of_ble_eq_true rfl) ?_
  intro p e s m below meth c dC dI cy q A Q ls CX hnm hw hl ret
  have CX' := CX
  obtain ⟨hx, hb, hml, hown, hts, hX, hA⟩ := CX
  have hl : lv_has ls 4 [(0, .ref q), (1, .int v)] := hl
  have loop : ∀ (n i : Nat) (H : Heap) (locs : List Loc) (ls : Array Slot), N - i ≤ n → i ≤ N → cWd dC dI A s.heap H locs [(q, .inl (cy 0, N, .inl (fun j => if j < i then v else f j)))] → lv_has ls 4 [(2, .int (nI i)), (3, .int (nI N)), (0, .ref q), (1, .int v)] → W p l e { frames := 0, cells := 0, slots := 0, locals := 0 } s m (Value.ref q :: [.int v]).toArray below meth c H locs 0 0 Q (F0 m 5 ls []) := by
    intro n
    induction n with
    | zero =>
      intro i H locs ls h1 h2 hw hl
      have e : i = N := by omega
      subst e
      refine lv_iload_n hx hb (by decide +kernel) (k := 2) rfl (lv_at hl 0 rfl) ?_
      refine lv_iload_n hx hb (by decide +kernel) (k := 3) rfl (lv_at hl 1 rfl) ?_
      refine lv_icmp_ge (off := 13) (tgt := 20) hx hb (by decide +kernel) (by decide) (fun _ => ?_) (fun c => absurd (Int32.le_refl _) c)
      exact ret H locs 20 ls (fun _ => 0) hw (by decide +kernel)
    | succ n ih =>
      intro i H locs ls h1 h2 hw hl
      refine lv_iload_n hx hb (by decide +kernel) (k := 2) rfl (lv_at hl 0 rfl) ?_
      refine lv_iload_n hx hb (by decide +kernel) (k := 3) rfl (lv_at hl 1 rfl) ?_
      refine lv_icmp_ge (off := 13) (tgt := 20) hx hb (by decide +kernel) (by decide) (fun c => ?_) (fun c => ?_)
      · have hi : N ≤ i := by
          rcases Nat.lt_or_ge i N with h | h
          · exact absurd c (nI_ge h (by omega))
          · exact h
        have e : i = N := by omega
        subst e
        exact ret H locs 20 ls (fun _ => 0) hw (by decide +kernel)
      · have hi : i < N := by
          rcases Nat.lt_or_ge i N with h | h
          · exact h
          · exact absurd (nI_le h (by omega)) c
        have ci : (nI i).toNatClampNeg = i := nI_clamp (by omega)
        refine lv_aload_n hx hb (by decide +kernel) (k := 0) rfl (lv_at hl 2 rfl) ?_
        refine lv_iload_n hx hb (by decide +kernel) (k := 2) rfl (lv_at hl 0 rfl) ?_
        refine lv_iload_n hx hb (by decide +kernel) (k := 1) rfl (lv_at hl 3 rfl) ?_
        refine c_iast CX' hw 0 rfl (vp_in_nI hi (by omega)) (by decide +kernel) (fun H1 locs1 hw => ?_)
        have hw : cWd dC dI A s.heap H1 locs1 [(q, .inl (cy 0, N, .inl (upd (fun j => if j < i then v else f j) (nI i).toNatClampNeg v)))] := hw
        rw [ci, cF_upd] at hw
        refine lv_iinc (v := nI (i + 1)) (lv' := [(2, .int (nI (i + 1))), (3, .int (nI N)), (0, .ref q), (1, .int v)]) (i := 2) (n := 1) hx hb (by decide +kernel) hl (k := 0) rfl (nI_succ i).symm (by decide) rfl (fun ls hl => ?_)
        refine lv_goto (off := -12) (tgt := 5) hx hb (by decide +kernel) (by decide) ?_
        exact ih (i + 1) H1 locs1 ls (by omega) (by omega) hw hl
  refine lv_iconst (n := 0) (v := 0) hx hb (by decide +kernel) (by decide) ?_
  refine lv_istore_n (lv' := [(2, .int 0), (0, .ref q), (1, .int v)]) (k := 2) hx hb (by decide +kernel) rfl hl (by decide) rfl (fun ls hl => ?_)
  refine lv_aload_n hx hb (by decide +kernel) (k := 0) rfl (lv_at hl 1 rfl) ?_
  refine va_alen hx hb hX.1 hw.1 0 0 rfl rfl (v := nI N) rfl (by decide +kernel) ?_
  refine lv_istore_n (lv' := [(3, .int (nI N)), (2, .int 0), (0, .ref q), (1, .int v)]) (k := 3) hx hb (by decide +kernel) rfl hl (by decide) rfl (fun ls hl => ?_)
  exact loop N 0 s.heap [] ls (by omega) (by omega) (by simpa using hw) (lv_sub hl [1, 0, 2, 3] rfl)
end
