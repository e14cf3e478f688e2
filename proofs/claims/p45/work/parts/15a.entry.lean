section
/-! THE CLAIM OUT OF ONE WALK OF THE LAW'S BODY. Your part is whole_start (and what it stands on); all else here is the same for every law, but numbers. -/
noncomputable def R_law : String := "LargerPacketLaw"
noncomputable def lw_P (b : Addr) (xs : List Int32) (args : Array Value) (s : State) : Prop := args = #[.ref b] ∧ s.IntsAt b xs ∧ xs.length ≤ 384 ∧ (Jvm.Cond.and given_1 narrow_1).before args s = true
noncomputable def lw_Q (_ : Array Value) (s : State) (o : Outcome) (t : State) : Prop := o = .returned (some (.int 1)) ∧ Framed s o t [] 600000 7302250
noncomputable def lw_Z (below : List Frame) (a : Array Value) (s : State) : State → Prop := fun t => ∃ o, t.status = .running ∧ Ended t below o ∧ lw_Q a s o t
/-- the law's own end, with 1 on the stack, nothing written that was there before, its room as the claim has it -/
theorem lw_ret {p : Program} {l : Launch} {e : Env} {s : State} {m : MethodId} {below : List Frame} {meth : Method} {c : Code} {b : Nat} (hx : p.tables.exec = Jvm.exec) (hb : c.code = code) (hr : meth.sig.returnType = ret) (hlocks : meth.locks = false) {pc : Nat} {H : Heap} {ls : Array Slot} (hdg : decode code pc = .ok (.ireturn, 1)) : W p l e room_1 s m #[Value.ref b] below meth c H [] 600000 7302250 (lw_Z below #[Value.ref b] s) (F0 m pc ls [.int 1]) := by
  intro T hT X
  obtain ⟨fs, hret, hrun, hended, hW, hframe⟩ := X.leave (v := some (.int 1)) (hlocks := hlocks) (fun h => by rw [hr] at h; cases h)
  have hmeth' : T.vm.method? m = some meth := X.method'
  refine ⟨T.setFrames fs, ?_, .returned (some (.int 1)), hrun, hended, rfl, ⟨_, rfl⟩, hW, hframe⟩
  jvm_step X.here [X.here.top, hx, hb, hdg, hmeth', hr, ret, narrow_b1]
  (try refine ⟨rfl, ?_⟩); (try refine ⟨rfl, ?_⟩)
  first | (intro acts; rw [hret _ acts rfl rfl rfl]) | rw [hret _ _ rfl rfl rfl]
  exact Steps.refl _
/-- what holds at the law's entry: the machine, the code, the tables' words (any of lw_tbl by 'hts w (by decide +kernel)'), the script of L ints xs at the cell b, what the Statement gives of the start (any of its parts by flat_of_before) -/
noncomputable def lw_At (p : Program) (s : State) (m : MethodId) (meth : Method) (c : Code) (b L : Nat) (xs : Nat → Int32) : Prop :=
  p.tables.exec = Jvm.exec ∧ c.code = code ∧ meth.sig.returnType = ret ∧ c.maxLocals = 4 ∧ s.vm.findClass R_law = some m.cls ∧ (∀ w ∈ lw_tbl, w.before #[Value.ref b] s = true) ∧ va_X b L xs s s.heap ∧ b < s.heap.size ∧ meth.locks = false ∧ (Jvm.Cond.and given_1 narrow_1).before #[Value.ref b] s = true
theorem lw_in {w : Cond} (i : Nat) (h : lw_tbl[i]? = some w) : w ∈ lw_tbl := List.mem_of_getElem? h
theorem lw_jtb {args : Array Value} {s : State} (hts : ∀ w ∈ lw_tbl, w.before args s = true) : ∀ w ∈ jtb, w.before args s = true := fun w h => hts w (List.mem_filter.mp h).1
theorem lw_known {args : Array Value} {s : State} (ht : ∀ w ∈ jtb, w.before args s = true) : ∀ k : Nat, ∃ z : ClassId × (Nat → Nat), ∀ q : vw_C, vwCl[k]? = some q → u_Kn s q.1 q.2.1 q.2.2 z.1 z.2 := by
  have key : ∀ (C : String) (T : u_T) (N k : Nat), vwCl[k]? = some (C, T, N) → Cond.instantiable C N ∈ jtb → ∃ z : ClassId × (Nat → Nat), ∀ q : vw_C, vwCl[k]? = some q → u_Kn s q.1 q.2.1 q.2.2 z.1 z.2 := by
    intro C T N k hk hi
    obtain ⟨c, i, h⟩ := u_known (C := C) (T := T) (N := N) (n := N) ht (jc_ok _ _ _ _ hk).1 (ht _ hi)
    exact ⟨(c, i), fun q hq => by cases hk.symm.trans hq; exact h⟩
  intro k
  match k with
  | 0 => exact key RX0 TX0 1 0 rfl (jtb_at 216 (by decide +kernel) (by decide +kernel))
  | 1 => exact key RX1 TX1 16 1 rfl (jtb_at 114 (by decide +kernel) (by decide +kernel))
  | 2 => exact key RX3 TX3 1 2 rfl (jtb_at 120 (by decide +kernel) (by decide +kernel))
  | 3 => exact key RX4 TX4 6 3 rfl (jtb_at 228 (by decide +kernel) (by decide +kernel))
  | 4 => exact key RX5 TX5 5 4 rfl (jtb_at 108 (by decide +kernel) (by decide +kernel))
  | 5 => exact key RX6 TX6 2 5 rfl (jtb_at 89 (by decide +kernel) (by decide +kernel))
  | 6 => exact key RX7 TX7 17 6 rfl (jtb_at 81 (by decide +kernel) (by decide +kernel))
  | 7 => exact key RX8 TX8 23 7 rfl (jtb_at 846 (by decide +kernel) (by decide +kernel))
  | k + 8 => exact ⟨(0, fun _ => 0), fun q hq => by simp [vwCl] at hq⟩
theorem lw_cnl : ∀ w ∈ cnl, w ∈ lw_tbl := by
  intro w hw
  simp only [cnl, List.mem_cons, List.not_mem_nil, or_false] at hw
  rcases hw with rfl | rfl | rfl | rfl | rfl | rfl | rfl
  · exact lw_in 109 (by decide +kernel)
  · exact lw_in 211 (by decide +kernel)
  · exact lw_in 214 (by decide +kernel)
  · exact lw_in 217 (by decide +kernel)
  · exact lw_in 121 (by decide +kernel)
  · exact lw_in 236 (by decide +kernel)
  · exact lw_in 115 (by decide +kernel)
theorem lw_X {args : Array Value} {s : State} (hts : ∀ w ∈ lw_tbl, w.before args s = true) : ∃ (dC : Nat → ClassId) (dI : Nat → Nat → Nat) (cy : Nat → ClassId), cX dC dI cy s := by
  have ht := lw_jtb hts
  have hk := lw_known ht
  obtain ⟨c0, k0, p0, e0, f0, g0⟩ := Cond.arrayClass_spec (hts (.arrayClass .int) (lw_in 106 (by decide +kernel)))
  obtain ⟨c1, k1, p1, e1, f1, g1⟩ := Cond.arrayClass_spec (hts (.arrayClass .long) (lw_in 311 (by decide +kernel)))
  obtain ⟨c2, k2, p2, e2, f2, g2⟩ := Cond.arrayClass_spec (hts (.arrayClass .boolean) (lw_in 226 (by decide +kernel)))
  have h3 := hts (.arrayOver (.object "LargerPacket$House")) (lw_in 212 (by decide +kernel))
  have h4 := hts (.arrayOver (.object "LargerPacket$Larder")) (lw_in 234 (by decide +kernel))
  have h5 := hts (.arrayOver (.array .int)) (lw_in 95 (by decide +kernel))
  obtain ⟨p3, c3, k3, d3, -, f3, g3, e3⟩ := Cond.arrayOver_spec h3
  obtain ⟨p4, c4, k4, d4, -, f4, g4, e4⟩ := Cond.arrayOver_spec h4
  obtain ⟨p5, c5, k5, d5, -, f5, g5, e5⟩ := Stand.arrayOver_specB h5
  refine ⟨fun k => (hk k).choose.1, fun k => (hk k).choose.2, fun k => ([c0, c1, c2, c3, c4, c5] : List ClassId).getD k c0, ⟨fun k q hq => (hk k).choose_spec q hq, fun k q hq => ?_⟩, va_AO.of h3, va_AO.of h4, Stand.arrayOver_alikeB (Vm.Alike.refl s.vm) h5, fun w hw => ?_⟩
  · match k, hq with
    | 0, hq => cases hq; exact ⟨fun n z => ⟨fun k h => (by cases h), k0, f0, p0, g0⟩, e0⟩
    | 1, hq => cases hq; exact ⟨fun n z => ⟨fun k h => (by cases h), k1, f1, p1, g1⟩, e1⟩
    | 2, hq => cases hq; exact ⟨fun n z => ⟨fun k h => (by cases h), k2, f2, p2, g2⟩, e2⟩
    | 3, hq => cases hq; exact ⟨fun n z => ⟨fun k h => (by cases h), k3, f3, p3, g3⟩, k3, p3, f3, g3, d3, e3⟩
    | 4, hq => cases hq; exact ⟨fun n z => ⟨fun k h => (by cases h), k4, f4, p4, g4⟩, k4, p4, f4, g4, d4, e4⟩
    | 5, hq => cases hq; exact ⟨fun n z => ⟨fun k h => (by cases h), k5, f5, p5, g5⟩, e5⟩
    | k + 6, hq => simp [jtys] at hq
  · obtain ⟨a, i, x, h, rfl⟩ := cnl_ml w hw
    exact va_Nw.of rfl (hts _ (lw_cnl _ hw))
theorem lw_letters {args : Array Value} {s : State} (hts : ∀ w ∈ lw_tbl, w.before args s = true) (hgv : (Jvm.Cond.and given_1 narrow_1).before args s = true) : ∃ t : Nat, va_Z "LargerPacket" "LETTERS" "[I" (.ref t) (fun q => s.heap.size ≤ q) s s.heap ∧ va_T .int t 6 (fun j => .int (jletters j)) (fun q => s.heap.size ≤ q) s s.heap := by
  have hs := flat_of_before _ hgv
  have hA : ∀ a : Nat, a < s.heap.size → ¬ (fun q => s.heap.size ≤ q) a := fun a h => Nat.not_le.mpr h
  obtain ⟨t, ht, hT⟩ := va_Tof (A := fun q => s.heap.size ≤ q) (tm := .static "LargerPacket" "LETTERS" "[I") (ty := .int) (N := 6) (f := fun j => .int (jletters j)) (by decide) (hs _ (by decide +kernel)) (va_eqt (hs (Cond.eq (.length (.static "LargerPacket" "LETTERS" "[I")) (.int 6)) (by decide +kernel))) (fun j hj => by
    have : j = 0 ∨ j = 1 ∨ j = 2 ∨ j = 3 ∨ j = 4 ∨ j = 5 := by omega
    rcases this with rfl | rfl | rfl | rfl | rfl | rfl
    · exact va_eqt (hs (Cond.eq (.elem (.static "LargerPacket" "LETTERS" "[I") (.int 0)) (.int 112)) (by decide +kernel))
    · exact va_eqt (hs (Cond.eq (.elem (.static "LargerPacket" "LETTERS" "[I") (.int 1)) (.int 99)) (by decide +kernel))
    · exact va_eqt (hs (Cond.eq (.elem (.static "LargerPacket" "LETTERS" "[I") (.int 2)) (.int 104)) (by decide +kernel))
    · exact va_eqt (hs (Cond.eq (.elem (.static "LargerPacket" "LETTERS" "[I") (.int 3)) (.int 115)) (by decide +kernel))
    · exact va_eqt (hs (Cond.eq (.elem (.static "LargerPacket" "LETTERS" "[I") (.int 4)) (.int 108)) (by decide +kernel))
    · exact va_eqt (hs (Cond.eq (.elem (.static "LargerPacket" "LETTERS" "[I") (.int 5)) (.int 121)) (by decide +kernel))) hA
  exact ⟨t, va_Zref (hts _ (lw_in 443 (by decide +kernel))) (hts _ (lw_in 67 (by decide +kernel))) ht hA, hT⟩
end
section
set_option maxHeartbeats 4000000 in
set_option maxRecDepth 100000 in
theorem whole_start {p : Program} {e : Env} {s : State} {m : MethodId} {below : List Frame} {meth : Method} {c : Code} (l : Launch) {b L : Nat} {xs : Nat → Int32} (hL : L ≤ 384) (C0 : lw_At p s m meth c b L xs) : W p l e room_1 s m #[Value.ref b] below meth c s.heap [] 0 0 (lw_Z below #[Value.ref b] s) (entryFrame m ([Value.ref b] : List Value).toArray 4) := by
  obtain ⟨hx, hb, hr, hml, hown, hts, hX, hbl, hlocks, hgv⟩ := C0
  obtain ⟨dC, dI, cy, hcx⟩ := lw_X hts
  obtain ⟨t, hZ, hT⟩ := lw_letters hts hgv
  have CX : cCx p s m #[Value.ref b] c dC dI cy (fun q => s.heap.size ≤ q) 9 code 4 := ⟨hx, hb, hml, hown, lw_jtb hts, hcx, fun _ h => h⟩
  have hw : cWd dC dI (fun q => s.heap.size ≤ q) s.heap s.heap [] [] := ⟨fun k q h => by simp at h, ⟨fun i j x y h => by simp at h, fun k q h => by simp at h⟩, va_S.rf⟩
  have hl := lv_entry ([.ref b] : List Value) (n := 4) (Nat.le_of_ble_eq_true rfl)
  rw [lg_entry_eq]
  generalize (lg_sl ([.ref b] : List Value) ++ List.replicate (4 - (lg_sl ([.ref b] : List Value)).length) Slot.unset).toArray = ls at hl ⊢
  have hl : lv_has ls 4 [(0, .ref b)] := hl
  refine c_new (idx := 7) CX hw 6 (C := RX7) (T := TX7) (N := 17) (fs := [.null, .null, .null, .null, .null, .null, .null, .null, .null, .null, .null, .null, .null, .int 0, .int 0, .long 0, .long 0]) rfl tyX7 tyX7_ok (jtb_at 80 (by decide +kernel) (by decide +kernel)) (jtb_at 81 (by decide +kernel) (by decide +kernel)) (jtb_at 67 (by decide +kernel) (by decide +kernel)) (by decide) (Nat.le_of_ble_eq_true rfl) (Nat.le_of_ble_eq_true rfl) (by decide +kernel) (fun q1 H1 hw => ?_)
  refine lv_dup hx hb (by decide +kernel) rfl ?_
  refine c_initI (idx := 9) (on := 9) (rest := [.ref q1]) (As := []) (ws := []) CX (cB_Main l) hw (jtb_at 84 (by decide +kernel) (by decide +kernel)) (jtb_at 82 (by decide +kernel) (by decide +kernel)) (jtb_at 67 (by decide +kernel) (by decide +kernel)) (jtb_at 83 (by decide +kernel) (by decide +kernel)) rfl (by decide +kernel) ⟨(Nat.le_of_ble_eq_true rfl), (Nat.le_of_ble_eq_true rfl)⟩ hl.1 (Nat.le_of_ble_eq_true rfl) (by decide +kernel) ⟨(Nat.le_of_ble_eq_true rfl), (Nat.le_of_ble_eq_true rfl)⟩ (fun a1 H2 locs2 hw => ?_)
  have hw : cWd dC dI (fun q => s.heap.size ≤ q) s.heap H2 locs2 (bMain cy q1 a1) := hw
  refine lv_astore_n (lv' := [(1, .ref q1), (0, .ref b)]) (k := 1) hx hb (by decide +kernel) rfl hl (by decide) rfl (fun ls hl => ?_)
  refine c_new (idx := 10) CX hw 7 (C := RX8) (T := TX8) (N := 23) (fs := [.null, .int 0, .int 0, .int 0, .null, .null, .null, .null, .null, .null, .int 0, .long 0, .long 0, .int 0, .null, .int 0, .int 0, .int 0, .int 0, .int 0, .null, .int 0, .null]) rfl tyX8 tyX8_ok (jtb_at 845 (by decide +kernel) (by decide +kernel)) (jtb_at 846 (by decide +kernel) (by decide +kernel)) (jtb_at 75 (by decide +kernel) (by decide +kernel)) (by decide) (Nat.le_of_ble_eq_true rfl) (Nat.le_of_ble_eq_true rfl) (by decide +kernel) (fun q2 H3 hw => ?_)
  refine lv_dup hx hb (by decide +kernel) rfl ?_
  refine c_initI (idx := 12) (on := 9) (rest := [.ref q2]) (As := []) (ws := bMain cy q1 a1) CX (cB_Model l) hw (jtb_at 849 (by decide +kernel) (by decide +kernel)) (jtb_at 847 (by decide +kernel) (by decide +kernel)) (jtb_at 75 (by decide +kernel) (by decide +kernel)) (jtb_at 848 (by decide +kernel) (by decide +kernel)) rfl (by decide +kernel) ⟨(Nat.le_of_ble_eq_true rfl), (Nat.le_of_ble_eq_true rfl)⟩ hl.1 (Nat.le_of_ble_eq_true rfl) (by decide +kernel) ⟨(Nat.le_of_ble_eq_true rfl), (Nat.le_of_ble_eq_true rfl)⟩ (fun a2 H4 locs4 hw => ?_)
  refine lv_astore_n (lv' := [(2, .ref q2), (1, .ref q1), (0, .ref b)]) (k := 2) hx hb (by decide +kernel) rfl hl (by decide) rfl (fun ls hl => ?_)
  have hwd := s_world t b hw
  refine W.widen (k := 600000) (n := 7302250) (Nat.le_of_ble_eq_true rfl) (Nat.le_of_ble_eq_true rfl) ?_
  have CJ : jCx p s m #[Value.ref b] c dC dI cy (sR q1 q2 t b a1 a2) (fun q => s.heap.size ≤ q) 9 code 4 (some (L, xs)) := by
    refine ⟨hx, hb, hml, hown, lw_jtb hts, hcx.1, fun _ h => h, fun w hw => ?_, hZ, hT, fun q hq => ?_⟩
    · obtain ⟨a, i, b', n, d, h, rfl⟩ := jnl_fl w hw
      exact va_Nw.of rfl (hts _ (jnl_in _ hw))
    · cases hq
      obtain ⟨scr, h1, h2, h3, h4, h5⟩ := hX
      exact ⟨scr, h1, h2, h3, Nat.le_of_eq h4.symm, by rw [h4], fun j hj => h5 j hj, Nat.not_le.mpr hbl⟩
  have hret : jRet p l e room_1 s m #[Value.ref b] below meth c 600000 7302250 (lw_Z below #[Value.ref b] s) dC dI cy (sR q1 q2 t b a1 a2) (fun q => s.heap.size ≤ q) code 0 (fun v _ => v = some (.inl (.inl 1))) := by
    intro H locs ls pc σ hw
    refine ⟨fun x _ hd hk => ?_, fun x h => absurd h (by decide), fun h => absurd h (by decide)⟩
    have hk : some (Sum.inl (Sum.inl x)) = (some (Sum.inl (Sum.inl 1)) : Option jV) := hk
    cases hk
    refine va_forget (fun q hq => hw.2.2.2.2 q hq) ?_
    exact lw_ret hx hb hr hlocks hd
  have hst : jWB (jWPM 13) (fun v _ => v = some (.inl (.inl 1))) (some (L, xs)) jc_law (16, [some (.inr (901, 0)), some (.inr (0, 0)), some (.inr (31, 0)), none], [], sI, sL) := by
    refine jWB_run [18] 10 ?_
    exact lw_loop (Nat.le_refl 13) hL (fun _ => rfl) L 0 sI sL (by exact Int.le_of_eq (Int.sub_zero _)) (by decide) (by decide) s_gG s_jJ s_lR
  have hgo := jsound (R := room_1) CJ ⟨Nat.le_of_ble_eq_true rfl, Nat.le_of_ble_eq_true rfl, Nat.le_of_ble_eq_true rfl, Nat.le_of_ble_eq_true rfl⟩ (jmet_all l 13) hret jk_law hst
  refine hgo H4 locs4 ls ⟨rfl, hl.1, hl.2.1, fun i v hi => ?_⟩ (fun i v hi => ?_) (fun v h => by cases h) hwd
  · match i, hi with
    | 0, hi => cases hi; exact lv_at hl 2 rfl
    | 1, hi => cases hi; exact lv_at hl 1 rfl
    | 2, hi => cases hi; exact lv_at hl 0 rfl
    | 3, hi => cases hi
    | i + 4, hi => cases hi
  · match i, hi with
    | 0, hi => cases hi; exact Or.inr ⟨Or.inr rfl, rfl⟩
    | 1, hi => cases hi; exact Or.inl (by decide)
    | 2, hi => cases hi; exact Or.inl (by decide)
    | 3, hi => cases hi
    | i + 4, hi => cases hi
end
