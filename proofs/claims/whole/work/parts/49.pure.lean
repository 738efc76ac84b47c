theorem pure_ok : ∃ Rel : GT → GT → Prop, Rel G0 K0 ∧ StA Rel := sorry
