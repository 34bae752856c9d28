/-! PORTS: a row more, where there is room and it isn't there -/
noncomputable def djPu (d : JdS) (a b : Int) : JdS := @ite JdS (dnp d < 30 ∧ ∀ q, q < dnp d → ¬ (dP d q 1 = b ∧ dP d q 0 = a)) (Classical.propDecidable _) (djP d a b 0 0 0) d
