set_option maxRecDepth 100000 in
theorem am_zz (P : List Cond → Prop) : P (am_tw.filter (fun w => !goodWord w)) := by
  simp [am_tw, vx_at0, Bundle.ownAtoms0, Bundle.throwableAtoms, Bundle.chain0Atoms, Bundle.passAtoms, Bundle.five, vx_no, goodWord, Cond.onTables, Cond.keeps, Cond.steady]
