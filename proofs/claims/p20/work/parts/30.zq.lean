noncomputable def z_par (y : MethodName) : Option Nat := (parseMethodDescriptor y.desc).map (fun d => d.parameters.length)
noncomputable def z_nest : List (Nat × Nat × Nat) := [(1, 156, 27), (1, 160, 33), (3, 31, 29), (3, 39, 34), (3, 74, 33)]
noncomputable def z_cok (oc : Nat) (q : Nat × Nat × Nat × Nat × Nat) : Bool := match z_lk (z_chs.getD oc []) q.1 with
  | some (ml, h1, h2, h3) => decide ((z_y q.2.2.1).cls ≠ "java/lang/invoke/MethodHandle") && (decide ((z_y q.2.2.1).cls ≠ "java/lang/invoke/VarHandle") && match q.2.1 with
    | 0 => z_hs ml (.methodLink (z_own oc) q.1 (z_y q.2.2.1)) && (z_hs h1 (.instanceMethod (z_y q.2.2.1)) && (z_hs h2 (.selects (z_y q.2.2.1).cls (z_y q.2.2.1) (z_y q.2.2.1)) && (z_hs h3 (.initialized (z_y q.2.2.1).cls) &&
        (decide ((vwCl[q.2.2.2.2]?).map (fun c => c.1) = some (z_y q.2.2.1).cls) && decide ((z_par (z_y q.2.2.1)).map (fun n => n + 1) = some q.2.2.2.1)))))
    | 1 => z_hs ml (.methodLink (z_own oc) q.1 (z_y q.2.2.1)) && (z_hs h1 (.static (z_y q.2.2.1)) && (z_hs h3 (.initialized (z_y q.2.2.1).cls) && decide (z_par (z_y q.2.2.1) = some q.2.2.2.1)))
    | _ => z_hs h1 (.static (z_y q.2.2.1)) && (z_hs h3 (.initialized (z_y q.2.2.1).cls) && (decide (z_par (z_y q.2.2.1) = some q.2.2.2.1) && z_nest.contains (oc, q.1, q.2.2.1))))
  | none => false
set_option maxRecDepth 100000 in
theorem z_cals_ok : (List.range 10).all (fun oc => (z_cals.getD oc []).all (z_cok oc)) = true := by decide +kernel
