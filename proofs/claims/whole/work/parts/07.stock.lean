set_option maxRecDepth 20000 in
/-- Stock.get: in range, the number -/
theorem c_X7_get {d : Nat} {σ : Sto} {n w : Int} (hn : 0 ≤ n ∧ n < 12) (hw : 0 ≤ w ∧ w < 8) : m_X7_get d [zR 1, zI n, zI w] σ (qI fun z σ' => z = σ (13 + w.toNat) n.toNat ∧ σ' = σ) := by
  refine z_does (L := [some (zR 1), some (zI n), some (zI w)]) rfl (by decide +kernel) (Nat.le_of_ble_eq_true rfl) rfl ?_
  refine z_iload_n dX7_get_0 rfl ?_
  refine z_if_lt (tgt := 20) dX7_get_1 (by decide) ⟨by omega, by omega⟩ (fun h1 => ?_) (fun h1 => ?_)
  · first
    | exfalso; omega
    | skip
      refine z_iconst dX7_get_20 ?_
      exact z_iret dX7_get_21 (by first | exact ⟨rfl, rfl⟩ | exact ⟨by omega, rfl⟩)
  · first
    | exfalso; omega
    | skip
      refine z_iload_n dX7_get_4 rfl ?_
      refine z_bipush (v := 12) dX7_get_5 (by decide +kernel) ?_
      refine z_icmp_ge (tgt := 20) dX7_get_7 (by decide) ⟨by omega, by omega⟩ ⟨by omega, by omega⟩ (fun h7 => ?_) (fun h7 => ?_)
      · first
        | exfalso; omega
        | skip
          refine z_iconst dX7_get_20 ?_
          exact z_iret dX7_get_21 (by first | exact ⟨rfl, rfl⟩ | exact ⟨by omega, rfl⟩)
      · first
        | exfalso; omega
        | skip
          refine z_iload_n dX7_get_10 rfl ?_
          refine z_if_lt (tgt := 20) dX7_get_11 (by decide) ⟨by omega, by omega⟩ (fun h11 => ?_) (fun h11 => ?_)
          · first
            | exfalso; omega
            | skip
              refine z_iconst dX7_get_20 ?_
              exact z_iret dX7_get_21 (by first | exact ⟨rfl, rfl⟩ | exact ⟨by omega, rfl⟩)
          · first
            | exfalso; omega
            | skip
              refine z_iload_n dX7_get_14 rfl ?_
              refine z_bipush (v := 8) dX7_get_15 (by decide +kernel) ?_
              refine z_icmp_lt (tgt := 22) dX7_get_17 (by decide) ⟨by omega, by omega⟩ ⟨by omega, by omega⟩ (fun h17 => ?_) (fun h17 => ?_)
              · first
                | exfalso; omega
                | skip
                  refine z_aload_n dX7_get_22 rfl ?_
                  refine z_getR dX7_get_23 gX7_13 rfl (Nat.le_of_ble_eq_true rfl) rfl ?_
                  refine z_iload_n dX7_get_26 rfl ?_
                  refine z_aald dX7_get_27 rfl (Or.inl rfl) (Nat.le_of_ble_eq_true rfl) (by omega) ?_
                  refine z_iload_n dX7_get_28 rfl ?_
                  refine z_iald dX7_get_29 (lay_numbers _ (by omega)) (show 13 + w.toNat < 121 by omega) (by omega) (fun hr29 => ?_)
                  exact z_iret dX7_get_30 (by first | exact ⟨rfl, rfl⟩ | exact ⟨by omega, rfl⟩)
              · first
                | exfalso; omega
                | skip
                  refine z_iconst dX7_get_20 ?_
                  exact z_iret dX7_get_21 (by first | exact ⟨rfl, rfl⟩ | exact ⟨by omega, rfl⟩)
