/-! the law runs -/
theorem lawruns : LawRuns := fun X hX => lawruns_of hX (fun _ => op_ways) (fun _ => op_largest) (fun _ _ => op_order) (fun _ => op_mends)
theorem whole_start {p : Program} {e : Env} {s : State} {m : MethodId} {below : List Frame} {meth : Method} {c : Code} (l : Launch) (_hflags : l.flags = flags0) {b L : Nat} {xs : Nat → Int32} (hL : L ≤ 2048) (C0 : lw_At p s m meth c b L xs) : W p l e room_1 s m #[Value.ref b] below meth c s.heap [] 0 0 (lw_Z below #[Value.ref b] s) (entryFrame m ([Value.ref b] : List Value).toArray 4) := whole_of lawruns l hL C0
