theorem p_claim_ok : p_claim := sorry
