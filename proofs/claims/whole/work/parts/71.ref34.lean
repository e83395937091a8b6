/-! the reference: reads, over the abstract state -/
theorem dropl {ks : List Nat} {a fed : Nat} (h : a ≤ ks.length) (hf : ks.length ≤ fed) : fed - ks.length + a = fed - (ks.drop a).length := by rw [List.length_drop]; omega
theorem r_reads {d r : Nat} {h h0 : mH} {s : rS} {A : Ab} {D : Nat} {m : Mc} {last : Bool} {Q : mP} (hR : Rf r h0 s h) (hI : RInv s A) (hB : McB A.mcs) (hD : D < 4) (hm : A.mcs D = some m) (hmp : m.1 < A.pgs.length) (hK4 : ∀ p, p < A.pgs.length → pgK A.pgs p < 4) (hTW : ∀ p, p < A.pgs.length → TbW (pgE A.pgs p) (pgH A.pgs p)) (hst : m.2.2.2.1 < 4) (hpn : m.2.2.2.2.1 ≤ 4) (hru : m.2.2.1 < 4) (hsgb : A.sgn.1 < 1114112) (hkb : ∀ j, m.2.2.2.2.2.1.getD j 0 < 256) (hfk : m.2.2.2.2.2.1.length ≤ m.2.2.2.2.2.2.1) (hqw : m.2.2.2.2.2.2.2.2.length ≤ 300) (q : ∀ h' s', Rf r h0 s' h' → RInv s' (sp_reads A D m last).2 → Q (some (.int (sp_reads A D m last).1)) h') : mWP (d + 6) 240 [.ref r, .int (nI D), .int (bI last)] h Q := by
  obtain ⟨a1, a2, a3, a4, a5, a6, a7, a8, a9, a10, a11, a12⟩ := (hI.2.2.2.2.2.2.1 D hD).2 m hm
  have hk8 := (hB D m hm).1
  have hl := hI.1.2.1
  obtain ⟨g1, g2, g3⟩ := hI.1.2.2 m.1 hmp
  refine r_reads0 hR hD (by omega) a2 a4 a5 a6 a7 a8 a9 a11 hk8 g1 (hK4 m.1 hmp) g3 (hTW m.1 hmp) hst hpn hru hI.2.2.2.2.1.1 hsgb hkb hfk hqw (fun st pn a us hE hul hal h' s1 s2 s3 hR' hK h22 hC hF => ?_) (fun st pn a us hE hul hal h' s1 s3 hR' hK hF => ?_)
  · have e9 : rdX A m last = (false, st, pn, m.2.2.2.2.2.1.drop a, us) := hE
    have hdl : (m.2.2.2.2.2.1.drop a).length ≤ 8 := by rw [List.length_drop]; omega
    have hi := hI.rds (st := st) (pn := pn) hB hD hm hK h22 hdl hC hF (by omega)
    rw [sp_reads, e9, if_neg (show ¬ (false = true) by decide)] at q
    exact q h' _ hR' hi
  · have e9 : rdX A m last = (true, st, pn, m.2.2.2.2.2.1.drop a, us) := hE
    rw [dropl hal hfk] at hR'
    have hi := hI.rdr (st := st) (a := m.2.2.2.2.2.2.1 - (m.2.2.2.2.2.1.drop a).length) hB hD hm hK hF (by omega)
    rw [sp_reads, e9, if_pos rfl] at q
    exact q h' _ hR' hi
