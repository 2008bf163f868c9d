theorem vh_cks : ∀ j, j < 219 → vh_ck j = true := sorry
