/-! ===== the small machine is right: calls ===== -/
/-- what a program has decided of the methods -/
def xMok (mi : Nat) : Bool := decide (lw_tbl[xinL.getD (xO mi) 0]? = some (Jvm.Cond.initialized (xY mi).cls)) && decide ((xY mi).cls = xon (xO mi)) && decide ((parseMethodDescriptor (xY mi).desc).map (fun d => d.parameters.length) = some (xA mi)) && plainName (xY mi).cls && decide ((xY mi).cls ≠ "java/lang/invoke/MethodHandle") && decide ((xY mi).cls ≠ "java/lang/invoke/VarHandle") && decide (xM mi ≤ 20)
set_option maxRecDepth 100000 in
theorem xMt_ok : (List.range 123).all xMok = true := by decide +kernel
theorem xM_some {mi : Nat} (h : mi < 123) : lw_tbl[xP mi]? = some (Jvm.Cond.code (xY mi) (xB mi) (xM mi) (xT mi)) ∧ lw_tbl[xinL.getD (xO mi) 0]? = some (Jvm.Cond.initialized (xY mi).cls) ∧ (xY mi).cls = xon (xO mi) ∧ (parseMethodDescriptor (xY mi).desc).map (fun d => d.parameters.length) = some (xA mi) ∧ plainName (xY mi).cls = true ∧ (xY mi).cls ≠ "java/lang/invoke/MethodHandle" ∧ (xY mi).cls ≠ "java/lang/invoke/VarHandle" ∧ xM mi ≤ 20 := by
  have hk := List.all_eq_true.mp xMt_ok mi (List.mem_range.mpr h)
  unfold xMok at hk
  simp only [Bool.and_eq_true, decide_eq_true_eq] at hk
  obtain ⟨⟨⟨⟨⟨⟨h2, h3⟩, h4⟩, h5⟩, h6⟩, h7⟩, h8⟩ := hk
  exact ⟨xcw_all mi h, h2, h3, h4, h5, h6, h7, h8⟩
/-- what a program has decided of the calls -/
def xCok (q : Nat × Nat × Nat × Nat × Nat × Nat × Nat) : Bool :=
  if q.2.2.1 = 0 then decide (lw_tbl[q.2.2.2.2.1]? = some (Jvm.Cond.methodLink (xon q.1) q.2.1 (xY q.2.2.2.1))) && decide (lw_tbl[q.2.2.2.2.2.1]? = some (Jvm.Cond.instanceMethod (xY q.2.2.2.1))) && decide (lw_tbl[q.2.2.2.2.2.2]? = some (Jvm.Cond.selects (xY q.2.2.2.1).cls (xY q.2.2.2.1) (xY q.2.2.2.1)))
  else if q.2.2.1 = 1 then decide (lw_tbl[q.2.2.2.2.1]? = some (Jvm.Cond.methodLink (xon q.1) q.2.1 (xY q.2.2.2.1))) && decide (lw_tbl[q.2.2.2.2.2.1]? = some (Jvm.Cond.static (xY q.2.2.2.1)))
  else if q.2.2.1 = 2 then decide (lw_tbl[q.2.2.2.2.1]? = some (Jvm.Cond.methodLink (xon q.1) q.2.1 (xY q.2.2.2.1))) && decide (lw_tbl[q.2.2.2.2.2.1]? = some (Jvm.Cond.instanceMethod (xY q.2.2.2.1))) && decide ((xY q.2.2.2.1).name = "<init>")
  else if q.2.2.1 = 3 then decide (lw_tbl[q.2.2.2.2.1]? = some (Jvm.Cond.methodLinkNest (xon q.1) q.2.1 (xY q.2.2.2.1) "DriftStore")) && decide (lw_tbl[q.2.2.2.2.2.1]? = some (Jvm.Cond.instanceMethod (xY q.2.2.2.1))) && decide ((xY q.2.2.2.1).name = "<init>")
  else if q.2.2.1 = 4 then decide (lw_tbl[q.2.2.2.2.1]? = some (Jvm.Cond.methodLinkNest (xon q.1) q.2.1 (xY q.2.2.2.1) "DriftStore")) && decide (lw_tbl[q.2.2.2.2.2.1]? = some (Jvm.Cond.static (xY q.2.2.2.1)))
  else if q.2.2.1 = 5 then decide (lw_tbl[q.2.2.2.2.1]? = some (Jvm.Cond.methodLink (xon q.1) q.2.1 objectInit))
  else if q.2.2.1 = 6 then decide (lw_tbl[q.2.2.2.2.1]? = some (Jvm.Cond.methodLink (xon q.1) q.2.1 Lib.Math.max.name))
  else if q.2.2.1 = 7 then decide (lw_tbl[q.2.2.2.2.1]? = some (Jvm.Cond.methodLink (xon q.1) q.2.1 Lib.Math.min.name))
  else if q.2.2.1 = 8 then decide (lw_tbl[q.2.2.2.2.1]? = some (Jvm.Cond.methodLink (xon q.1) q.2.1 Lib.MathLoose.min_long.x))
  else if q.2.2.1 = 9 then decide (lw_tbl[q.2.2.2.2.1]? = some (Jvm.Cond.methodLink (xon q.1) q.2.1 arraycopyName))
  else if q.2.2.1 = 10 then decide (lw_tbl[q.2.2.2.2.1]? = some (Jvm.Cond.methodLink (xon q.1) q.2.1 ⟨"java/lang/String", "length", "()I"⟩))
  else if q.2.2.1 = 11 then decide (lw_tbl[q.2.2.2.2.1]? = some (Jvm.Cond.methodLink (xon q.1) q.2.1 ⟨"java/lang/String", "charAt", "(I)C"⟩))
  else false
set_option maxRecDepth 100000 in
theorem xCt_ok : xCt.all xCok = true := by decide +kernel
theorem xCl_some {o i : Nat} {q : Nat × Nat × Nat × Nat × Nat × Nat × Nat} (h : xCl o i = some q) : q.1 = o ∧ q.2.1 = i ∧ xCok q = true := by
  have hm := List.mem_of_find?_eq_some h
  have hp := List.find?_some h
  simp only [Bool.and_eq_true, beq_iff_eq] at hp
  exact ⟨hp.1, hp.2, List.all_eq_true.mp xCt_ok q hm⟩
