set_option maxRecDepth 20000 in
theorem rxl_513 : ∀ q ∈ rxl, q.1 < 513 := by decide +kernel
theorem FrN.shp {M M1 : qMe} (h : FrN M M1) (hs : shp M) : shp M1 := by
  have hN := hs.1
  exact shp_of hs (by rw [h.1]; omega) (fun i hi => (h.2 i (by omega)).1) (fun q hq => ((h.2 q.1 (by have := rxl_513 q hq; omega)).2 _).1) (fun i hi k => ((h.2 i (by omega)).2 k).2.1)
/-- both answer alike; x makes one cell more, m changes what D says -/
def SimN (M : qMe) (d yc ym : Nat) (As : List Value) (D : Nat → Nat → Prop) : Prop := ∃ v M1 M2, cal d yc (.ref 8 :: As) M = some (some (.int v), M1) ∧ cal d ym (.ref 479 :: As) M1 = some (some (.int v), M2) ∧ FrN M M1 ∧ Dif M1 M2 D
theorem o_odd {d : Nat} {M : qMe} {o1 o2 o3 o4 o5 : Int} (h : shp M) (g1 : -2147483648 ≤ o1 ∧ o1 < 2147483648) (g2 : -2147483648 ≤ o2 ∧ o2 < 2147483648) (g3 : -2147483648 ≤ o3 ∧ o3 < 2147483648) (g4 : -2147483648 ≤ o4 ∧ o4 < 2147483648) (g5 : -2147483648 ≤ o5 ∧ o5 < 2147483648) : SimN M (d + 5) 39 194 [.int (iz o1), .int (iz o2), .int (iz o3), .int (iz o4), .int (iz o5)] (fun i _ => i = 506) := by
  obtain ⟨z, M1, c0, hz, hF⟩ := x_odd (d := d) (M := M) h.1 g1 g2 g3 g4 g5
  obtain ⟨z2, M2, m0, hz2, hD⟩ := m_odd (d := d + 1) (M := M1) (hF.shp h) g1 g2 g3 g4 g5
  rw [← hz] at hz2
  subst hz2
  exact ⟨_, M1, M2, c0, m0, hF, hD⟩
