set_option maxHeartbeats 4000000 in
set_option maxRecDepth 100000 in
theorem s_wB (cy : Nat → ClassId) (q1 q2 t b : Nat) (a1 a2 : Nat → Nat) : sOrd.map (fun x => (sR q1 q2 t b a1 a2 x.1 x.2, jce cy (sR q1 q2 t b a1 a2) (sI, sL) x)) = wB cy q1 q2 t b a1 a2 := rfl
