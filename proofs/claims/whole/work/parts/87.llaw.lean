-- the law's text: its rules
abbrev lp_R : Type := Nat × List (Nat × Nat) × List (Nat × Nat)
/-- the rules of a text from place k on, q rules before: a fault or 0, and the rules -/
def lp_lw (t : Nat → Nat) (n : Nat) : Nat → Nat → Nat → Int32 × List lp_R
  | 0, _, _ => (0, [])
  | f + 1, q, k => if ¬ lp_rf t n q k = 0 then (lp_rf t n q k, []) else
    ((if (lp_q t n (lp_v t n k).2.1).2.1 < n then (if t (lp_q t n (lp_v t n k).2.1).2.1 = 59 then (lp_lw t n f (q + 1) ((lp_q t n (lp_v t n k).2.1).2.1 + 1)).1 else am_ft 1 (lp_q t n (lp_v t n k).2.1).2.1) else 0),
     (t k, (lp_v t n k).2.2, (lp_q t n (lp_v t n k).2.1).2.2) :: (if (lp_q t n (lp_v t n k).2.1).2.1 < n ∧ t (lp_q t n (lp_v t n k).2.1).2.1 = 59 then (lp_lw t n f (q + 1) ((lp_q t n (lp_v t n k).2.1).2.1 + 1)).2 else []))
/-- rules in the class: from rule q on, codes from p on -/
def lc_rs (V0 V1 V2 V3 C : Nat → Int32) : List lp_R → Nat → Nat → Prop
  | [], _, _ => True
  | r :: R, q, p => V0 q = nI r.1 ∧ V1 q = nI p ∧ V2 q = nI (p + lp_cz (lp_vc r.1 r.2.1)) ∧ V3 q = nI (p + lp_cz (lp_vc r.1 r.2.1) + lp_cz r.2.2) ∧ lp_enc C (lp_vc r.1 r.2.1) p ∧ lp_enc C r.2.2 (p + lp_cz (lp_vc r.1 r.2.1)) ∧ lc_rs V0 V1 V2 V3 C R (q + 1) (p + lp_cz (lp_vc r.1 r.2.1) + lp_cz r.2.2)
/-- rules in the reference -/
def lr_rs (V0 V1 V2 V3 S : Nat → Int32) : List lp_R → Nat → Nat → Prop
  | [], _, _ => True
  | r :: R, q, m => V0 q = nI r.1 ∧ V1 q = nI m ∧ V2 q = nI (m + r.2.1.length) ∧ V3 q = nI (m + r.2.1.length + r.2.2.length) ∧ lr_en S r.2.1 m ∧ lr_en S r.2.2 (m + r.2.1.length) ∧ lr_rs V0 V1 V2 V3 S R (q + 1) (m + r.2.1.length + r.2.2.length)
