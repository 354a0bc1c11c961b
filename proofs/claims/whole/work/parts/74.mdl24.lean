/-! The model: fewest rolls by sets -/
noncomputable def jnI (Z : Int) (a : Nat) (F G x : Int) : Int × Int := cif (a ≠ 0 ∧ G + x ≤ Z) (F, G + x) (F + 1, x)
def ltI (p q : Int × Int) : Prop := p.1 < q.1 ∨ (p.1 = q.1 ∧ p.2 < q.2)
def leI (p q : Int × Int) : Prop := p.1 < q.1 ∨ (p.1 = q.1 ∧ p.2 ≤ q.2)
section FEW
variable {h : Hp} {v : Nv}
theorem m_joins {n a : Nat} {x : Int} (B : MB h v) (hn : n < 16384) (ha : a < 16384) (hx : 0 ≤ x ∧ x ≤ 100000) (fa : 0 ≤ h.1 15 a ∧ h.1 15 a ≤ 99) (ga : 0 ≤ h.1 16 a ∧ h.1 16 a ≤ 100000) (fs : 0 ≤ h.1 15 n ∧ h.1 15 n ≤ 99) (gs : 0 ≤ h.1 16 n ∧ h.1 16 n ≤ 100000) : Ev mX8_joins 0 0 (entL [.ref 0, iv (n : Int), iv (a : Int), iv x] 7) [] h (PV (fun h' => h' = cif (ltI (jnI (Zr v) a (h.1 15 a) (h.1 16 a) x) (h.1 15 n, h.1 16 n)) (hI (hI h 15 n (jnI (Zr v) a (h.1 15 a) (h.1 16 a) x).1) 16 n (jnI (Zr v) a (h.1 15 a) (h.1 16 a) x).2) h)) := by
  show Ev mX8_joins 0 0 [some (.ref 0), some (iv (n : Int)), some (iv (a : Int)), some (iv x), none, none, none] [] h _
  have hR := B.1
  have eR := B.R
  have bR := B.vk.2.2.2.2.2.2.2
  have eZ : Zr v = 100 * vR v := rfl
  generalize hfa : h.1 15 a = Fa at *
  generalize hga : h.1 16 a = Ga at *
  generalize hfs : h.1 15 n = Fs at *
  generalize hgs : h.1 16 n = Gs at *
  refine Ev.iload_n dX8_joins_0 (Eq.refl 1) rfl ?_
  refine Ev.if_eq (tgt := 28) dX8_joins_1 (Eq.refl 4) (by decide) ⟨by omega, by omega⟩ (fun c1 => ?_) (fun c1 => ?_)
  · have ej : jnI (Zr v) a Fa Ga x = (Fa + 1, x) := cif_f (fun z => z.1 (by omega))
    refine Ev.iconst dX8_joins_28 (Eq.refl 29) ?_
    refine Ev.is4 dX8_joins_29 (Eq.refl 31) (by decide) rfl ?_
    refine Ev.iload dX8_joins_31 (Eq.refl 33) rfl ?_
    refine Ev.if_eq (tgt := 45) dX8_joins_33 (Eq.refl 36) (by decide) ⟨by decide, by decide⟩ (fun _ => ?_) (fun c => absurd (by decide) c)
    refine Ev.aload_n dX8_joins_45 (Eq.refl 46) rfl ?_
    refine Ev.getR dX8_joins_46 (Eq.refl 49) fg_X8_55 rfl rfl (rX8_22 hR) ?_
    refine Ev.iload_n dX8_joins_49 (Eq.refl 50) rfl ?_
    refine Ev.iaload dX8_joins_50 (Eq.refl 51) rfl rfl (by omega) (by decide) (by first | with_reducible exact Int.toNat_natCast _ | exact Eq.refl _) ?_
    rw [hfa]
    refine Ev.iconst dX8_joins_51 (Eq.refl 52) ?_
    refine Ev.iadd dX8_joins_52 (Eq.refl 53) ?_
    refine Ev.is5 dX8_joins_53 (Eq.refl 55) (by decide) rfl ?_
    refine Ev.iload dX8_joins_55 (Eq.refl 57) rfl ?_
    refine Ev.if_eq (tgt := 71) dX8_joins_57 (Eq.refl 60) (by decide) ⟨by decide, by decide⟩ (fun _ => ?_) (fun c => absurd (by decide) c)
    refine Ev.iload_n dX8_joins_71 (Eq.refl 72) rfl ?_
    refine Ev.is6 dX8_joins_72 (Eq.refl 74) (by decide) rfl ?_
    refine Ev.iload dX8_joins_74 (Eq.refl 76) rfl ?_
    refine Ev.aload_n dX8_joins_76 (Eq.refl 77) rfl ?_
    refine Ev.getR dX8_joins_77 (Eq.refl 80) fg_X8_55 rfl rfl (rX8_22 hR) ?_
    refine Ev.iload_n dX8_joins_80 (Eq.refl 81) rfl ?_
    refine Ev.iaload dX8_joins_81 (Eq.refl 82) rfl rfl (by omega) (by decide) (by first | with_reducible exact Int.toNat_natCast _ | exact Eq.refl _) ?_
    rw [hfs]
    refine Ev.icmp_lt (tgt := 107) dX8_joins_82 (Eq.refl 85) (by decide) ⟨by omega, by omega⟩ ⟨by omega, by omega⟩ (fun c82 => ?_) (fun c82 => ?_)
    · refine Ev.aload_n dX8_joins_107 (Eq.refl 108) rfl ?_
      refine Ev.getR dX8_joins_108 (Eq.refl 111) fg_X8_55 rfl rfl (rX8_22 hR) ?_
      refine Ev.iload_n dX8_joins_111 (Eq.refl 112) rfl ?_
      refine Ev.iload dX8_joins_112 (Eq.refl 114) rfl ?_
      refine Ev.iastore dX8_joins_114 (Eq.refl 115) rfl rfl (by omega) (by decide) (by first | with_reducible exact Int.toNat_natCast _ | exact Eq.refl _) ?_
      refine Ev.aload_n dX8_joins_115 (Eq.refl 116) rfl ?_
      refine Ev.getR dX8_joins_116 (Eq.refl 119) fg_X8_58 rfl rfl (rX8_23 hR) ?_
      refine Ev.iload_n dX8_joins_119 (Eq.refl 120) rfl ?_
      refine Ev.iload dX8_joins_120 (Eq.refl 122) rfl ?_
      refine Ev.iastore dX8_joins_122 (Eq.refl 123) rfl rfl (by omega) (by decide) (by first | with_reducible exact Int.toNat_natCast _ | exact Eq.refl _) ?_
      exact Ev.vret dX8_joins_123 rfl (⟨rfl, by rw [ej]; first | exact (cif_t (Or.inl c82)).symm | exact (cif_t (Or.inr ⟨by omega, by omega⟩)).symm | exact (cif_f (fun z => by rcases z with z | ⟨z1, z2⟩; have z : _ < Fs := z; omega; have z1 : _ = Fs := z1; omega)).symm | exact (cif_f (fun z => by rcases z with z | ⟨z1, z2⟩; have z : _ < Fs := z; omega; have z2 : _ < Gs := z2; omega)).symm⟩)
    · refine Ev.iload dX8_joins_85 (Eq.refl 87) rfl ?_
      refine Ev.aload_n dX8_joins_87 (Eq.refl 88) rfl ?_
      refine Ev.getR dX8_joins_88 (Eq.refl 91) fg_X8_55 rfl rfl (rX8_22 hR) ?_
      refine Ev.iload_n dX8_joins_91 (Eq.refl 92) rfl ?_
      refine Ev.iaload dX8_joins_92 (Eq.refl 93) rfl rfl (by omega) (by decide) (by first | with_reducible exact Int.toNat_natCast _ | exact Eq.refl _) ?_
      rw [hfs]
      refine Ev.icmp_ne (tgt := 123) dX8_joins_93 (Eq.refl 96) (by decide) ⟨by omega, by omega⟩ ⟨by omega, by omega⟩ (fun c93 => ?_) (fun c93 => ?_)
      · exact Ev.vret dX8_joins_123 rfl (⟨rfl, by rw [ej]; first | exact (cif_t (Or.inl c82)).symm | exact (cif_t (Or.inr ⟨by omega, by omega⟩)).symm | exact (cif_f (fun z => by rcases z with z | ⟨z1, z2⟩; have z : _ < Fs := z; omega; have z1 : _ = Fs := z1; omega)).symm | exact (cif_f (fun z => by rcases z with z | ⟨z1, z2⟩; have z : _ < Fs := z; omega; have z2 : _ < Gs := z2; omega)).symm⟩)
      · refine Ev.iload dX8_joins_96 (Eq.refl 98) rfl ?_
        refine Ev.aload_n dX8_joins_98 (Eq.refl 99) rfl ?_
        refine Ev.getR dX8_joins_99 (Eq.refl 102) fg_X8_58 rfl rfl (rX8_23 hR) ?_
        refine Ev.iload_n dX8_joins_102 (Eq.refl 103) rfl ?_
        refine Ev.iaload dX8_joins_103 (Eq.refl 104) rfl rfl (by omega) (by decide) (by first | with_reducible exact Int.toNat_natCast _ | exact Eq.refl _) ?_
        rw [hgs]
        refine Ev.icmp_ge (tgt := 123) dX8_joins_104 (Eq.refl 107) (by decide) ⟨by omega, by omega⟩ ⟨by omega, by omega⟩ (fun c104 => ?_) (fun c104 => ?_)
        · exact Ev.vret dX8_joins_123 rfl (⟨rfl, by rw [ej]; first | exact (cif_t (Or.inl c82)).symm | exact (cif_t (Or.inr ⟨by omega, by omega⟩)).symm | exact (cif_f (fun z => by rcases z with z | ⟨z1, z2⟩; have z : _ < Fs := z; omega; have z1 : _ = Fs := z1; omega)).symm | exact (cif_f (fun z => by rcases z with z | ⟨z1, z2⟩; have z : _ < Fs := z; omega; have z2 : _ < Gs := z2; omega)).symm⟩)
        · refine Ev.aload_n dX8_joins_107 (Eq.refl 108) rfl ?_
          refine Ev.getR dX8_joins_108 (Eq.refl 111) fg_X8_55 rfl rfl (rX8_22 hR) ?_
          refine Ev.iload_n dX8_joins_111 (Eq.refl 112) rfl ?_
          refine Ev.iload dX8_joins_112 (Eq.refl 114) rfl ?_
          refine Ev.iastore dX8_joins_114 (Eq.refl 115) rfl rfl (by omega) (by decide) (by first | with_reducible exact Int.toNat_natCast _ | exact Eq.refl _) ?_
          refine Ev.aload_n dX8_joins_115 (Eq.refl 116) rfl ?_
          refine Ev.getR dX8_joins_116 (Eq.refl 119) fg_X8_58 rfl rfl (rX8_23 hR) ?_
          refine Ev.iload_n dX8_joins_119 (Eq.refl 120) rfl ?_
          refine Ev.iload dX8_joins_120 (Eq.refl 122) rfl ?_
          refine Ev.iastore dX8_joins_122 (Eq.refl 123) rfl rfl (by omega) (by decide) (by first | with_reducible exact Int.toNat_natCast _ | exact Eq.refl _) ?_
          exact Ev.vret dX8_joins_123 rfl (⟨rfl, by rw [ej]; first | exact (cif_t (Or.inl c82)).symm | exact (cif_t (Or.inr ⟨by omega, by omega⟩)).symm | exact (cif_f (fun z => by rcases z with z | ⟨z1, z2⟩; have z : _ < Fs := z; omega; have z1 : _ = Fs := z1; omega)).symm | exact (cif_f (fun z => by rcases z with z | ⟨z1, z2⟩; have z : _ < Fs := z; omega; have z2 : _ < Gs := z2; omega)).symm⟩)
  · refine Ev.aload_n dX8_joins_4 (Eq.refl 5) rfl ?_
    refine Ev.getR dX8_joins_5 (Eq.refl 8) fg_X8_58 rfl rfl (rX8_23 hR) ?_
    refine Ev.iload_n dX8_joins_8 (Eq.refl 9) rfl ?_
    refine Ev.iaload dX8_joins_9 (Eq.refl 10) rfl rfl (by omega) (by decide) (by first | with_reducible exact Int.toNat_natCast _ | exact Eq.refl _) ?_
    rw [hga]
    refine Ev.iload_n dX8_joins_10 (Eq.refl 11) rfl ?_
    refine Ev.iadd dX8_joins_11 (Eq.refl 12) ?_
    refine Ev.bipush dX8_joins_12 (Eq.refl 14) (by decide) ?_
    refine Ev.aload_n dX8_joins_14 (Eq.refl 15) rfl ?_
    refine Ev.getR dX8_joins_15 (Eq.refl 18) fg_X8_13 rfl rfl (rX8_3 hR) ?_
    refine Ev.iconst dX8_joins_18 (Eq.refl 19) ?_
    refine Ev.iaload dX8_joins_19 (Eq.refl 20) rfl rfl (by omega) (by decide) (show (2 : Int).toNat = 2 from rfl) ?_
    rw [eR]
    refine Ev.imul dX8_joins_20 (Eq.refl 21) ?_
    refine Ev.icmp_gt (tgt := 28) dX8_joins_21 (Eq.refl 24) (by decide) ⟨by omega, by omega⟩ ⟨by omega, by omega⟩ (fun c21 => ?_) (fun c21 => ?_)
    · have ej : jnI (Zr v) a Fa Ga x = (Fa + 1, x) := cif_f (fun z => by have := z.2; omega)
      refine Ev.iconst dX8_joins_28 (Eq.refl 29) ?_
      refine Ev.is4 dX8_joins_29 (Eq.refl 31) (by decide) rfl ?_
      refine Ev.iload dX8_joins_31 (Eq.refl 33) rfl ?_
      refine Ev.if_eq (tgt := 45) dX8_joins_33 (Eq.refl 36) (by decide) ⟨by decide, by decide⟩ (fun _ => ?_) (fun c => absurd (by decide) c)
      refine Ev.aload_n dX8_joins_45 (Eq.refl 46) rfl ?_
      refine Ev.getR dX8_joins_46 (Eq.refl 49) fg_X8_55 rfl rfl (rX8_22 hR) ?_
      refine Ev.iload_n dX8_joins_49 (Eq.refl 50) rfl ?_
      refine Ev.iaload dX8_joins_50 (Eq.refl 51) rfl rfl (by omega) (by decide) (by first | with_reducible exact Int.toNat_natCast _ | exact Eq.refl _) ?_
      rw [hfa]
      refine Ev.iconst dX8_joins_51 (Eq.refl 52) ?_
      refine Ev.iadd dX8_joins_52 (Eq.refl 53) ?_
      refine Ev.is5 dX8_joins_53 (Eq.refl 55) (by decide) rfl ?_
      refine Ev.iload dX8_joins_55 (Eq.refl 57) rfl ?_
      refine Ev.if_eq (tgt := 71) dX8_joins_57 (Eq.refl 60) (by decide) ⟨by decide, by decide⟩ (fun _ => ?_) (fun c => absurd (by decide) c)
      refine Ev.iload_n dX8_joins_71 (Eq.refl 72) rfl ?_
      refine Ev.is6 dX8_joins_72 (Eq.refl 74) (by decide) rfl ?_
      refine Ev.iload dX8_joins_74 (Eq.refl 76) rfl ?_
      refine Ev.aload_n dX8_joins_76 (Eq.refl 77) rfl ?_
      refine Ev.getR dX8_joins_77 (Eq.refl 80) fg_X8_55 rfl rfl (rX8_22 hR) ?_
      refine Ev.iload_n dX8_joins_80 (Eq.refl 81) rfl ?_
      refine Ev.iaload dX8_joins_81 (Eq.refl 82) rfl rfl (by omega) (by decide) (by first | with_reducible exact Int.toNat_natCast _ | exact Eq.refl _) ?_
      rw [hfs]
      refine Ev.icmp_lt (tgt := 107) dX8_joins_82 (Eq.refl 85) (by decide) ⟨by omega, by omega⟩ ⟨by omega, by omega⟩ (fun c82 => ?_) (fun c82 => ?_)
      · refine Ev.aload_n dX8_joins_107 (Eq.refl 108) rfl ?_
        refine Ev.getR dX8_joins_108 (Eq.refl 111) fg_X8_55 rfl rfl (rX8_22 hR) ?_
        refine Ev.iload_n dX8_joins_111 (Eq.refl 112) rfl ?_
        refine Ev.iload dX8_joins_112 (Eq.refl 114) rfl ?_
        refine Ev.iastore dX8_joins_114 (Eq.refl 115) rfl rfl (by omega) (by decide) (by first | with_reducible exact Int.toNat_natCast _ | exact Eq.refl _) ?_
        refine Ev.aload_n dX8_joins_115 (Eq.refl 116) rfl ?_
        refine Ev.getR dX8_joins_116 (Eq.refl 119) fg_X8_58 rfl rfl (rX8_23 hR) ?_
        refine Ev.iload_n dX8_joins_119 (Eq.refl 120) rfl ?_
        refine Ev.iload dX8_joins_120 (Eq.refl 122) rfl ?_
        refine Ev.iastore dX8_joins_122 (Eq.refl 123) rfl rfl (by omega) (by decide) (by first | with_reducible exact Int.toNat_natCast _ | exact Eq.refl _) ?_
        exact Ev.vret dX8_joins_123 rfl (⟨rfl, by rw [ej]; first | exact (cif_t (Or.inl c82)).symm | exact (cif_t (Or.inr ⟨by omega, by omega⟩)).symm | exact (cif_f (fun z => by rcases z with z | ⟨z1, z2⟩; have z : _ < Fs := z; omega; have z1 : _ = Fs := z1; omega)).symm | exact (cif_f (fun z => by rcases z with z | ⟨z1, z2⟩; have z : _ < Fs := z; omega; have z2 : _ < Gs := z2; omega)).symm⟩)
      · refine Ev.iload dX8_joins_85 (Eq.refl 87) rfl ?_
        refine Ev.aload_n dX8_joins_87 (Eq.refl 88) rfl ?_
        refine Ev.getR dX8_joins_88 (Eq.refl 91) fg_X8_55 rfl rfl (rX8_22 hR) ?_
        refine Ev.iload_n dX8_joins_91 (Eq.refl 92) rfl ?_
        refine Ev.iaload dX8_joins_92 (Eq.refl 93) rfl rfl (by omega) (by decide) (by first | with_reducible exact Int.toNat_natCast _ | exact Eq.refl _) ?_
        rw [hfs]
        refine Ev.icmp_ne (tgt := 123) dX8_joins_93 (Eq.refl 96) (by decide) ⟨by omega, by omega⟩ ⟨by omega, by omega⟩ (fun c93 => ?_) (fun c93 => ?_)
        · exact Ev.vret dX8_joins_123 rfl (⟨rfl, by rw [ej]; first | exact (cif_t (Or.inl c82)).symm | exact (cif_t (Or.inr ⟨by omega, by omega⟩)).symm | exact (cif_f (fun z => by rcases z with z | ⟨z1, z2⟩; have z : _ < Fs := z; omega; have z1 : _ = Fs := z1; omega)).symm | exact (cif_f (fun z => by rcases z with z | ⟨z1, z2⟩; have z : _ < Fs := z; omega; have z2 : _ < Gs := z2; omega)).symm⟩)
        · refine Ev.iload dX8_joins_96 (Eq.refl 98) rfl ?_
          refine Ev.aload_n dX8_joins_98 (Eq.refl 99) rfl ?_
          refine Ev.getR dX8_joins_99 (Eq.refl 102) fg_X8_58 rfl rfl (rX8_23 hR) ?_
          refine Ev.iload_n dX8_joins_102 (Eq.refl 103) rfl ?_
          refine Ev.iaload dX8_joins_103 (Eq.refl 104) rfl rfl (by omega) (by decide) (by first | with_reducible exact Int.toNat_natCast _ | exact Eq.refl _) ?_
          rw [hgs]
          refine Ev.icmp_ge (tgt := 123) dX8_joins_104 (Eq.refl 107) (by decide) ⟨by omega, by omega⟩ ⟨by omega, by omega⟩ (fun c104 => ?_) (fun c104 => ?_)
          · exact Ev.vret dX8_joins_123 rfl (⟨rfl, by rw [ej]; first | exact (cif_t (Or.inl c82)).symm | exact (cif_t (Or.inr ⟨by omega, by omega⟩)).symm | exact (cif_f (fun z => by rcases z with z | ⟨z1, z2⟩; have z : _ < Fs := z; omega; have z1 : _ = Fs := z1; omega)).symm | exact (cif_f (fun z => by rcases z with z | ⟨z1, z2⟩; have z : _ < Fs := z; omega; have z2 : _ < Gs := z2; omega)).symm⟩)
          · refine Ev.aload_n dX8_joins_107 (Eq.refl 108) rfl ?_
            refine Ev.getR dX8_joins_108 (Eq.refl 111) fg_X8_55 rfl rfl (rX8_22 hR) ?_
            refine Ev.iload_n dX8_joins_111 (Eq.refl 112) rfl ?_
            refine Ev.iload dX8_joins_112 (Eq.refl 114) rfl ?_
            refine Ev.iastore dX8_joins_114 (Eq.refl 115) rfl rfl (by omega) (by decide) (by first | with_reducible exact Int.toNat_natCast _ | exact Eq.refl _) ?_
            refine Ev.aload_n dX8_joins_115 (Eq.refl 116) rfl ?_
            refine Ev.getR dX8_joins_116 (Eq.refl 119) fg_X8_58 rfl rfl (rX8_23 hR) ?_
            refine Ev.iload_n dX8_joins_119 (Eq.refl 120) rfl ?_
            refine Ev.iload dX8_joins_120 (Eq.refl 122) rfl ?_
            refine Ev.iastore dX8_joins_122 (Eq.refl 123) rfl rfl (by omega) (by decide) (by first | with_reducible exact Int.toNat_natCast _ | exact Eq.refl _) ?_
            exact Ev.vret dX8_joins_123 rfl (⟨rfl, by rw [ej]; first | exact (cif_t (Or.inl c82)).symm | exact (cif_t (Or.inr ⟨by omega, by omega⟩)).symm | exact (cif_f (fun z => by rcases z with z | ⟨z1, z2⟩; have z : _ < Fs := z; omega; have z1 : _ = Fs := z1; omega)).symm | exact (cif_f (fun z => by rcases z with z | ⟨z1, z2⟩; have z : _ < Fs := z; omega; have z2 : _ < Gs := z2; omega)).symm⟩)
    · have ej : jnI (Zr v) a Fa Ga x = (Fa, Ga + x) := cif_t ⟨by omega, by omega⟩
      refine Ev.iconst dX8_joins_24 (Eq.refl 25) ?_
      refine Ev.goto' (pc' := 29) dX8_joins_25 (by decide) ?_
      refine Ev.is4 dX8_joins_29 (Eq.refl 31) (by decide) rfl ?_
      refine Ev.iload dX8_joins_31 (Eq.refl 33) rfl ?_
      refine Ev.if_eq (tgt := 45) dX8_joins_33 (Eq.refl 36) (by decide) ⟨by decide, by decide⟩ (fun c => absurd c (by decide)) (fun _ => ?_)
      refine Ev.aload_n dX8_joins_36 (Eq.refl 37) rfl ?_
      refine Ev.getR dX8_joins_37 (Eq.refl 40) fg_X8_55 rfl rfl (rX8_22 hR) ?_
      refine Ev.iload_n dX8_joins_40 (Eq.refl 41) rfl ?_
      refine Ev.iaload dX8_joins_41 (Eq.refl 42) rfl rfl (by omega) (by decide) (by first | with_reducible exact Int.toNat_natCast _ | exact Eq.refl _) ?_
      rw [hfa]
      refine Ev.goto' (pc' := 53) dX8_joins_42 (by decide) ?_
      refine Ev.is5 dX8_joins_53 (Eq.refl 55) (by decide) rfl ?_
      refine Ev.iload dX8_joins_55 (Eq.refl 57) rfl ?_
      refine Ev.if_eq (tgt := 71) dX8_joins_57 (Eq.refl 60) (by decide) ⟨by decide, by decide⟩ (fun c => absurd c (by decide)) (fun _ => ?_)
      refine Ev.aload_n dX8_joins_60 (Eq.refl 61) rfl ?_
      refine Ev.getR dX8_joins_61 (Eq.refl 64) fg_X8_58 rfl rfl (rX8_23 hR) ?_
      refine Ev.iload_n dX8_joins_64 (Eq.refl 65) rfl ?_
      refine Ev.iaload dX8_joins_65 (Eq.refl 66) rfl rfl (by omega) (by decide) (by first | with_reducible exact Int.toNat_natCast _ | exact Eq.refl _) ?_
      rw [hga]
      refine Ev.iload_n dX8_joins_66 (Eq.refl 67) rfl ?_
      refine Ev.iadd dX8_joins_67 (Eq.refl 68) ?_
      refine Ev.goto' (pc' := 72) dX8_joins_68 (by decide) ?_
      refine Ev.is6 dX8_joins_72 (Eq.refl 74) (by decide) rfl ?_
      refine Ev.iload dX8_joins_74 (Eq.refl 76) rfl ?_
      refine Ev.aload_n dX8_joins_76 (Eq.refl 77) rfl ?_
      refine Ev.getR dX8_joins_77 (Eq.refl 80) fg_X8_55 rfl rfl (rX8_22 hR) ?_
      refine Ev.iload_n dX8_joins_80 (Eq.refl 81) rfl ?_
      refine Ev.iaload dX8_joins_81 (Eq.refl 82) rfl rfl (by omega) (by decide) (by first | with_reducible exact Int.toNat_natCast _ | exact Eq.refl _) ?_
      rw [hfs]
      refine Ev.icmp_lt (tgt := 107) dX8_joins_82 (Eq.refl 85) (by decide) ⟨by omega, by omega⟩ ⟨by omega, by omega⟩ (fun c82 => ?_) (fun c82 => ?_)
      · refine Ev.aload_n dX8_joins_107 (Eq.refl 108) rfl ?_
        refine Ev.getR dX8_joins_108 (Eq.refl 111) fg_X8_55 rfl rfl (rX8_22 hR) ?_
        refine Ev.iload_n dX8_joins_111 (Eq.refl 112) rfl ?_
        refine Ev.iload dX8_joins_112 (Eq.refl 114) rfl ?_
        refine Ev.iastore dX8_joins_114 (Eq.refl 115) rfl rfl (by omega) (by decide) (by first | with_reducible exact Int.toNat_natCast _ | exact Eq.refl _) ?_
        refine Ev.aload_n dX8_joins_115 (Eq.refl 116) rfl ?_
        refine Ev.getR dX8_joins_116 (Eq.refl 119) fg_X8_58 rfl rfl (rX8_23 hR) ?_
        refine Ev.iload_n dX8_joins_119 (Eq.refl 120) rfl ?_
        refine Ev.iload dX8_joins_120 (Eq.refl 122) rfl ?_
        refine Ev.iastore dX8_joins_122 (Eq.refl 123) rfl rfl (by omega) (by decide) (by first | with_reducible exact Int.toNat_natCast _ | exact Eq.refl _) ?_
        exact Ev.vret dX8_joins_123 rfl (⟨rfl, by rw [ej]; first | exact (cif_t (Or.inl c82)).symm | exact (cif_t (Or.inr ⟨by omega, by omega⟩)).symm | exact (cif_f (fun z => by rcases z with z | ⟨z1, z2⟩; have z : _ < Fs := z; omega; have z1 : _ = Fs := z1; omega)).symm | exact (cif_f (fun z => by rcases z with z | ⟨z1, z2⟩; have z : _ < Fs := z; omega; have z2 : _ < Gs := z2; omega)).symm⟩)
      · refine Ev.iload dX8_joins_85 (Eq.refl 87) rfl ?_
        refine Ev.aload_n dX8_joins_87 (Eq.refl 88) rfl ?_
        refine Ev.getR dX8_joins_88 (Eq.refl 91) fg_X8_55 rfl rfl (rX8_22 hR) ?_
        refine Ev.iload_n dX8_joins_91 (Eq.refl 92) rfl ?_
        refine Ev.iaload dX8_joins_92 (Eq.refl 93) rfl rfl (by omega) (by decide) (by first | with_reducible exact Int.toNat_natCast _ | exact Eq.refl _) ?_
        rw [hfs]
        refine Ev.icmp_ne (tgt := 123) dX8_joins_93 (Eq.refl 96) (by decide) ⟨by omega, by omega⟩ ⟨by omega, by omega⟩ (fun c93 => ?_) (fun c93 => ?_)
        · exact Ev.vret dX8_joins_123 rfl (⟨rfl, by rw [ej]; first | exact (cif_t (Or.inl c82)).symm | exact (cif_t (Or.inr ⟨by omega, by omega⟩)).symm | exact (cif_f (fun z => by rcases z with z | ⟨z1, z2⟩; have z : _ < Fs := z; omega; have z1 : _ = Fs := z1; omega)).symm | exact (cif_f (fun z => by rcases z with z | ⟨z1, z2⟩; have z : _ < Fs := z; omega; have z2 : _ < Gs := z2; omega)).symm⟩)
        · refine Ev.iload dX8_joins_96 (Eq.refl 98) rfl ?_
          refine Ev.aload_n dX8_joins_98 (Eq.refl 99) rfl ?_
          refine Ev.getR dX8_joins_99 (Eq.refl 102) fg_X8_58 rfl rfl (rX8_23 hR) ?_
          refine Ev.iload_n dX8_joins_102 (Eq.refl 103) rfl ?_
          refine Ev.iaload dX8_joins_103 (Eq.refl 104) rfl rfl (by omega) (by decide) (by first | with_reducible exact Int.toNat_natCast _ | exact Eq.refl _) ?_
          rw [hgs]
          refine Ev.icmp_ge (tgt := 123) dX8_joins_104 (Eq.refl 107) (by decide) ⟨by omega, by omega⟩ ⟨by omega, by omega⟩ (fun c104 => ?_) (fun c104 => ?_)
          · exact Ev.vret dX8_joins_123 rfl (⟨rfl, by rw [ej]; first | exact (cif_t (Or.inl c82)).symm | exact (cif_t (Or.inr ⟨by omega, by omega⟩)).symm | exact (cif_f (fun z => by rcases z with z | ⟨z1, z2⟩; have z : _ < Fs := z; omega; have z1 : _ = Fs := z1; omega)).symm | exact (cif_f (fun z => by rcases z with z | ⟨z1, z2⟩; have z : _ < Fs := z; omega; have z2 : _ < Gs := z2; omega)).symm⟩)
          · refine Ev.aload_n dX8_joins_107 (Eq.refl 108) rfl ?_
            refine Ev.getR dX8_joins_108 (Eq.refl 111) fg_X8_55 rfl rfl (rX8_22 hR) ?_
            refine Ev.iload_n dX8_joins_111 (Eq.refl 112) rfl ?_
            refine Ev.iload dX8_joins_112 (Eq.refl 114) rfl ?_
            refine Ev.iastore dX8_joins_114 (Eq.refl 115) rfl rfl (by omega) (by decide) (by first | with_reducible exact Int.toNat_natCast _ | exact Eq.refl _) ?_
            refine Ev.aload_n dX8_joins_115 (Eq.refl 116) rfl ?_
            refine Ev.getR dX8_joins_116 (Eq.refl 119) fg_X8_58 rfl rfl (rX8_23 hR) ?_
            refine Ev.iload_n dX8_joins_119 (Eq.refl 120) rfl ?_
            refine Ev.iload dX8_joins_120 (Eq.refl 122) rfl ?_
            refine Ev.iastore dX8_joins_122 (Eq.refl 123) rfl rfl (by omega) (by decide) (by first | with_reducible exact Int.toNat_natCast _ | exact Eq.refl _) ?_
            exact Ev.vret dX8_joins_123 rfl (⟨rfl, by rw [ej]; first | exact (cif_t (Or.inl c82)).symm | exact (cif_t (Or.inr ⟨by omega, by omega⟩)).symm | exact (cif_f (fun z => by rcases z with z | ⟨z1, z2⟩; have z : _ < Fs := z; omega; have z1 : _ = Fs := z1; omega)).symm | exact (cif_f (fun z => by rcases z with z | ⟨z1, z2⟩; have z : _ < Fs := z; omega; have z2 : _ < Gs := z2; omega)).symm⟩)
theorem bwo_0 {x y : Int} : bwo x y = 0 ↔ ∀ i, tb x i → tb y i := by
  constructor
  · intro e i hi
    refine Classical.byContradiction fun z => ?_
    have := tb_wo.mpr ⟨hi, z⟩
    rw [e] at this
    simp [tb] at this
  · intro q
    refine tb_ext (Int.natCast_nonneg _) (Int.le_refl 0) (fun j => ⟨fun z => ?_, fun z => by simp [tb] at z⟩)
    obtain ⟨z1, z2⟩ := tb_wo.mp z
    exact absurd (q j z1) z2
theorem sub_lt {a n i : Nat} (h : ∀ j, tb (a : Int) j → tb (n : Int) j) (h1 : tb (n : Int) i) (h2 : ¬ tb (a : Int) i) : a < n := by
  have e : a &&& n = a := Nat.eq_of_testBit_eq (fun j => by
    rw [Nat.testBit_and]
    have q := h j
    unfold tb at q
    rw [Int.toNat_natCast, Int.toNat_natCast] at q
    cases z : a.testBit j
    · rfl
    · rw [q z]; rfl)
  have l : a &&& n ≤ n := Nat.and_le_right
  have ne : a ≠ n := fun z => h2 (by rw [z]; exact h1)
  omega
def DN (h : Hp) (v : Nv) (A n : Nat) : Prop := ∀ m : Nat, m < n → (∀ i, tb (m : Int) i → tb (A : Int) i) → (m = 0 → h.1 15 m = 0 ∧ h.1 16 m = Zr v) ∧ (m ≠ 0 → ∃ F : Nat, h.1 15 m = (F : Int) ∧ BP (vS v) (szV v) (Zr v) (tb (m : Int)) F (h.1 16 m))
theorem m_fewest (B : MB h v) (ha : aH v (hgV v)) (pc : PCS h v) (fa : fitAll v) : Ev mX8_fewestRolls 1 0 (entL [.ref 0] 4) [] h (PI (fun x h' => Ck h h' ∧ isMin v (szV v) x)) := by
  show Ev mX8_fewestRolls 1 0 [some (.ref 0), none, none, none] [] h _
  have hv := B.vk
  have hS14 := hv.2.1
  have bR := hv.2.2.2.2.2.2.2
  have zb : 100 ≤ Zr v ∧ Zr v ≤ 9900 := ⟨by show (100 : Int) ≤ 100 * vR v; omega, by show 100 * vR v ≤ 9900; omega⟩
  have L2 : ∀ (A : Nat), A < 16384 → (∀ i, tb (A : Int) i ↔ i < vS v ∧ vH v i = true) → ∀ (w n : Nat) (g : Hp) (l3 : Option Value), A + 1 - n = w → 1 ≤ n → n ≤ A + 1 → Ck h g → (∀ j, g.1 12 j = h.1 12 j) → DN g v A n → Ev mX8_fewestRolls 1 63 [some (.ref 0), some (iv (A : Int)), some (iv (n : Int)), l3] [] g (PI (fun x h' => Ck h h' ∧ isMin v (szV v) x)) := by
    intro A hA tA w
    have bz : ∀ k, k < vS v → tb (A : Int) k → 0 ≤ szV v k ∧ szV v k ≤ Zr v := fun k hk hs => ⟨(szV_b hv ha hk).1, fa k hk ((tA k).mp hs).2⟩
    induction w using Nat.strongRecOn with
    | ind w ih =>
      intro n g l3 hw hn1 hn hC h12 hD
      have Bg := B.ck hC
      have hR := Bg.1
      by_cases nA : n ≤ A
      · by_cases sub : ∀ i, tb (n : Int) i → tb (A : Int) i
        · -- the set's best, piece by piece
          have rng : ∀ m : Nat, m < n → (∀ i, tb (m : Int) i → tb (A : Int) i) → (0 ≤ g.1 15 m ∧ g.1 15 m ≤ 14) ∧ 0 ≤ g.1 16 m ∧ g.1 16 m ≤ 9900 := fun m hm hs => by
            have q := hD m hm hs
            by_cases m0 : m = 0
            · have := q.1 m0; omega
            · obtain ⟨F, e1, b⟩ := q.2 m0
              have hK : 0 < vS v := by
                refine Nat.pos_of_ne_zero fun z => ?_
                obtain ⟨⟨f, f1, f2, f3⟩, F1, lo⟩ := b
                have := lo 1 (fun _ => 0) 0 (by omega) (fun k hk => by omega) (fun r _ => by rw [bsm_0 (fun i hi => by omega)]; omega)
                have ht : ∃ i, tb (m : Int) i := Classical.byContradiction fun z => m0 (by
                  have := tb_ext (Int.natCast_nonneg m) (Int.le_refl 0) (fun j => ⟨fun y => absurd ⟨j, y⟩ z, fun y => by simp [tb] at y⟩)
                  omega)
                obtain ⟨i, hi⟩ := ht
                have := ((tA i).mp (hs i hi)).1
                omega
              have l := b.le (by omega) (fun k hk hk2 => (bz k hk (hs k hk2)).2) hK
              have gg := b.g (fun k hk hk2 => (bz k hk (hs k hk2)).1)
              omega
          have L3 : ∀ (w3 k : Nat) (f : Hp), vS v - k = w3 → k ≤ vS v → Ck h f → (∀ j, f.1 12 j = h.1 12 j) → (∀ m, m ≠ n → f.1 15 m = g.1 15 m ∧ f.1 16 m = g.1 16 m) → ((f.1 15 n = 99 ∧ f.1 16 n = 0 ∧ ∀ i, i < k → ¬ tb (n : Int) i) ∨ ((∃ i, i < k ∧ tb (n : Int) i ∧ (f.1 15 n, f.1 16 n) = jnI (Zr v) (bwo (n : Int) (1 * 2 ^ i)).toNat (g.1 15 (bwo (n : Int) (1 * 2 ^ i)).toNat) (g.1 16 (bwo (n : Int) (1 * 2 ^ i)).toNat) (szV v i)) ∧ ∀ i, i < k → tb (n : Int) i → leI (f.1 15 n, f.1 16 n) (jnI (Zr v) (bwo (n : Int) (1 * 2 ^ i)).toNat (g.1 15 (bwo (n : Int) (1 * 2 ^ i)).toNat) (g.1 16 (bwo (n : Int) (1 * 2 ^ i)).toNat) (szV v i)))) → Ev mX8_fewestRolls 1 93 [some (.ref 0), some (iv (A : Int)), some (iv (n : Int)), some (iv (k : Int))] [] f (PI (fun x h' => Ck h h' ∧ isMin v (szV v) x)) := by
            -- what is ahead of a piece
            have ah : ∀ i, tb (n : Int) i → (bwo (n : Int) (1 * 2 ^ i)).toNat < n ∧ (∀ j, tb (((bwo (n : Int) (1 * 2 ^ i)).toNat : Nat) : Int) j ↔ tb (n : Int) j ∧ j ≠ i) := fun i hi => by
              have e : (((bwo (n : Int) (1 * 2 ^ i)).toNat : Nat) : Int) = bwo (n : Int) (1 * 2 ^ i) := Int.toNat_of_nonneg (Int.natCast_nonneg _)
              have t2 : ∀ j, tb (((bwo (n : Int) (1 * 2 ^ i)).toNat : Nat) : Int) j ↔ tb (n : Int) j ∧ j ≠ i := fun j => by rw [e, tb_wo, tb_one]
              exact ⟨sub_lt (i := i) (fun j q => ((t2 j).mp q).1) hi (fun q => ((t2 i).mp q).2 rfl), t2⟩
            intro w3
            induction w3 using Nat.strongRecOn with
            | ind w3 ih3 =>
              intro k f hw3 hk hCf f12 fo RB
              have Bf := B.ck hCf
              have hR := Bf.1
              have e1 := Bf.s1
              by_cases hk2 : k < vS v
              · have hnn : (n : Int) ≤ 2147483647 := by clear RB; omega
                have sk : vS v - (k + 1) < w3 ∧ k + 1 ≤ vS v ∧ k < 14 := by clear RB; omega
                by_cases hb : tb (n : Int) k
                · obtain ⟨al, at2⟩ := ah k hb
                  have asub : ∀ j, tb (((bwo (n : Int) (1 * 2 ^ k)).toNat : Nat) : Int) j → tb (A : Int) j := fun j q => sub j ((at2 j).mp q).1
                  have ra := rng _ al asub
                  have bk := bz k hk2 (sub k hb)
                  have ea : bwo (n : Int) (1 * 2 ^ k) = (((bwo (n : Int) (1 * 2 ^ k)).toNat : Nat) : Int) := (Int.toNat_of_nonneg (Int.natCast_nonneg _)).symm
                  have foa := fo _ (Nat.ne_of_lt al)
                  have pk : f.1 12 k = szV v k := by rw [f12, pc k hk2, if_pos ((tA k).mp (sub k hb)).2]
                  generalize ha0 : (bwo (n : Int) (1 * 2 ^ k)).toNat = a0 at *
                  obtain ⟨jp, hjp⟩ : ∃ jp, jp = jnI (Zr v) a0 (g.1 15 a0) (g.1 16 a0) (szV v k) := ⟨_, rfl⟩
                  have jb : (0 ≤ jp.1 ∧ jp.1 ≤ 15) ∧ 0 ≤ jp.2 ∧ jp.2 ≤ 9900 := by
                    clear RB
                    rw [hjp]
                    unfold jnI
                    by_cases q : a0 ≠ 0 ∧ g.1 16 a0 + szV v k ≤ Zr v
                    · rw [cif_t q]
                      show (0 ≤ g.1 15 a0 ∧ g.1 15 a0 ≤ 15) ∧ 0 ≤ g.1 16 a0 + szV v k ∧ g.1 16 a0 + szV v k ≤ 9900
                      omega
                    · rw [cif_f q]
                      show (0 ≤ g.1 15 a0 + 1 ∧ g.1 15 a0 + 1 ≤ 15) ∧ 0 ≤ szV v k ∧ szV v k ≤ 9900
                      omega
                  have rs : (0 ≤ f.1 15 n ∧ f.1 15 n ≤ 99) ∧ 0 ≤ f.1 16 n ∧ f.1 16 n ≤ 100000 := by
                    rcases RB with ⟨q1, q2, _⟩ | ⟨⟨i, i1, i2, i3⟩, _⟩
                    · omega
                    · obtain ⟨bl, bt2⟩ := ah i i2
                      have rb := rng _ bl (fun j q => sub j ((bt2 j).mp q).1)
                      have bi_ := bz i (by omega) (sub i i2)
                      have e15 : f.1 15 n = _ := congrArg Prod.fst i3
                      have e16 : f.1 16 n = _ := congrArg Prod.snd i3
                      rw [e15, e16]
                      unfold jnI
                      by_cases q : (bwo (n : Int) (1 * 2 ^ i)).toNat ≠ 0 ∧ g.1 16 (bwo (n : Int) (1 * 2 ^ i)).toNat + szV v i ≤ Zr v
                      · rw [cif_t q]
                        show (0 ≤ g.1 15 _ ∧ g.1 15 _ ≤ 99) ∧ 0 ≤ g.1 16 _ + szV v i ∧ g.1 16 _ + szV v i ≤ 100000
                        omega
                      · rw [cif_f q]
                        show (0 ≤ g.1 15 _ + 1 ∧ g.1 15 _ + 1 ≤ 99) ∧ 0 ≤ szV v i ∧ szV v i ≤ 100000
                        omega
                  have cJ := m_joins (n := n) (a := a0) (x := szV v k) Bf (by clear RB; omega) (by clear RB; omega) (by clear RB; omega) (by rw [foa.1]; clear RB; omega) (by rw [foa.2]; clear RB; omega) rs.1 rs.2
                  rw [foa.1, foa.2, ← hjp] at cJ
                  have NX : ∀ f', f' = cif (ltI jp (f.1 15 n, f.1 16 n)) (hI (hI f 15 n jp.1) 16 n jp.2) f → Ev mX8_fewestRolls 1 93 [some (.ref 0), some (iv (A : Int)), some (iv (n : Int)), some (iv ((k : Int) + 1))] [] f' (PI (fun x h' => Ck h h' ∧ isMin v (szV v) x)) := by
                    intro f' ef'
                    by_cases lt : ltI jp (f.1 15 n, f.1 16 n)
                    · rw [cif_t lt] at ef'
                      have r15 : f'.1 15 n = jp.1 := by rw [ef', hI_ni (by decide), hI_eq]
                      have r16 : f'.1 16 n = jp.2 := by rw [ef', hI_eq]
                      refine ih3 _ sk.1 (k + 1) f' rfl sk.2.1 (by rw [ef']; exact (hCf.w (Or.inr (by decide))).w (Or.inr (by decide))) (fun j => by rw [ef', hI_ni (by decide), hI_ni (by decide)]; exact f12 j) (fun m hm => by rw [ef', hI_ni (i := 16) (by decide), hI_nk hm, hI_nk hm, hI_ni (i := 15) (by decide)]; exact fo m hm) (Or.inr ⟨⟨k, Nat.lt_succ_self k, hb, ?_⟩, fun i hi hbi => ?_⟩)
                      · rw [r15, r16, ha0, ← hjp]
                      · rw [r15, r16]
                        by_cases e : i = k
                        · subst e
                          rw [ha0, ← hjp]
                          exact Or.inr ⟨rfl, Int.le_refl _⟩
                        · rcases RB with ⟨_, _, q3⟩ | ⟨_, q⟩
                          · exact absurd hbi (q3 i (Nat.lt_of_le_of_ne (Nat.le_of_lt_succ hi) e))
                          · have z := q i (Nat.lt_of_le_of_ne (Nat.le_of_lt_succ hi) e) hbi
                            clear q
                            unfold leI at *
                            unfold ltI at lt
                            generalize jnI (Zr v) (bwo (n : Int) (1 * 2 ^ i)).toNat (g.1 15 (bwo (n : Int) (1 * 2 ^ i)).toNat) (g.1 16 (bwo (n : Int) (1 * 2 ^ i)).toNat) (szV v i) = pp at *
                            simp only at lt z ⊢
                            omega
                    · rw [cif_f lt] at ef'
                      subst ef'
                      refine ih3 _ sk.1 (k + 1) _ rfl sk.2.1 hCf f12 fo (Or.inr ?_)
                      rcases RB with ⟨q1, q2, _⟩ | ⟨⟨i, i1, i2, i3⟩, q⟩
                      · exact absurd (show ltI jp (f'.1 15 n, f'.1 16 n) from Or.inl (by show jp.1 < f'.1 15 n; omega)) lt
                      · refine ⟨⟨i, Nat.lt_succ_of_lt i1, i2, i3⟩, fun t ht hbt => ?_⟩
                        by_cases e : t = k
                        · subst e
                          rw [ha0, ← hjp]
                          unfold leI
                          unfold ltI at lt
                          clear q
                          simp only at lt ⊢
                          omega
                        · exact q t (Nat.lt_of_le_of_ne (Nat.le_of_lt_succ ht) e) hbt
                  clear RB
                  refine Ev.iload_n dX8_fewestRolls_93 (Eq.refl 94) rfl ?_
                  refine Ev.aload_n dX8_fewestRolls_94 (Eq.refl 95) rfl ?_
                  refine Ev.getR dX8_fewestRolls_95 (Eq.refl 98) fg_X8_13 rfl rfl (rX8_3 hR) ?_
                  refine Ev.iconst dX8_fewestRolls_98 (Eq.refl 99) ?_
                  refine Ev.iaload dX8_fewestRolls_99 (Eq.refl 100) rfl rfl (by omega) (by decide) (show (1 : Int).toNat = 1 from rfl) ?_
                  rw [e1]
                  refine Ev.icmp_ge (tgt := 136) dX8_fewestRolls_100 (Eq.refl 103) (by decide) ⟨by omega, by omega⟩ ⟨by omega, by omega⟩ (fun c100 => ?_) (fun c100 => ?_)
                  · omega
                  · refine Ev.iload_n dX8_fewestRolls_103 (Eq.refl 104) rfl ?_
                    refine Ev.iload_n dX8_fewestRolls_104 (Eq.refl 105) rfl ?_
                    refine Ev.ishr dX8_fewestRolls_105 (Eq.refl 106) (b_shr (Int.natCast_nonneg _) (by omega) (by omega) (by omega)) ?_
                    refine Ev.iconst dX8_fewestRolls_106 (Eq.refl 107) ?_
                    refine Ev.iand dX8_fewestRolls_107 (Eq.refl 108) (b_and (by first | exact Int.natCast_nonneg _ | exact shl0 | omega) (by first | exact Int.natCast_nonneg _ | exact shl0 | omega)) ?_
                    rw [bitE]
                    have hbb := bi01 (tb (n : Int) ((k : Int)).toNat)
                    rw [Int.toNat_natCast] at hbb ⊢
                    refine Ev.iconst dX8_fewestRolls_108 (Eq.refl 109) ?_
                    refine Ev.icmp_ne (tgt := 130) dX8_fewestRolls_109 (Eq.refl 112) (by decide) ⟨by omega, by omega⟩ ⟨by omega, by omega⟩ (fun c109 => ?_) (fun c109 => ?_)
                    · exact absurd (bi_t hb) c109
                    · refine Ev.aload_n dX8_fewestRolls_112 (Eq.refl 113) rfl ?_
                      refine Ev.iload_n dX8_fewestRolls_113 (Eq.refl 114) rfl ?_
                      refine Ev.iload_n dX8_fewestRolls_114 (Eq.refl 115) rfl ?_
                      refine Ev.iconst dX8_fewestRolls_115 (Eq.refl 116) ?_
                      refine Ev.iload_n dX8_fewestRolls_116 (Eq.refl 117) rfl ?_
                      refine Ev.ishl dX8_fewestRolls_117 (Eq.refl 118) (b_shl (by omega) (by omega) (by omega) (shl1 (by omega))) ?_
                      refine Ev.iconst dX8_fewestRolls_118 (Eq.refl 119) ?_
                      refine Ev.ixor dX8_fewestRolls_119 (Eq.refl 120) (b_not shl0) ?_
                      refine Ev.iand dX8_fewestRolls_120 (Eq.refl 121) (b_andn (Int.natCast_nonneg _) shl0) ?_
                      rw [Int.toNat_natCast, ea]
                      refine Ev.aload_n dX8_fewestRolls_121 (Eq.refl 122) rfl ?_
                      refine Ev.getR dX8_fewestRolls_122 (Eq.refl 125) fg_X8_46 rfl rfl (rX8_18 hR) ?_
                      refine Ev.iload_n dX8_fewestRolls_125 (Eq.refl 126) rfl ?_
                      refine Ev.iaload dX8_fewestRolls_126 (Eq.refl 127) rfl rfl (by omega) (by decide) (by first | with_reducible exact Int.toNat_natCast _ | exact Eq.refl _) ?_
                      rw [pk]
                      refine Ev.cv3V dX8_fewestRolls_127 (Eq.refl 130) cw_X8_230 (Nat.le_of_ble_eq_true rfl) (by decide) rfl rfl rfl (Nat.le_of_ble_eq_true rfl) (cJ) (fun g127 hp127 => ?_)
                      refine Ev.ii3 dX8_fewestRolls_130 (Eq.refl 133) (by decide) rfl ?_
                      refine Ev.goto' (pc' := 93) dX8_fewestRolls_133 (by decide) ?_
                      exact NX _ hp127
                · have NX := ih3 _ sk.1 (k + 1) f rfl sk.2.1 hCf f12 fo (by
                    rcases RB with ⟨q1, q2, q3⟩ | ⟨⟨i, i1, i2, i3⟩, q⟩
                    · exact Or.inl ⟨q1, q2, fun i hi => if e : i = k then by rw [e]; exact hb else q3 i (Nat.lt_of_le_of_ne (Nat.le_of_lt_succ hi) e)⟩
                    · exact Or.inr ⟨⟨i, Nat.lt_succ_of_lt i1, i2, i3⟩, fun t ht hbt => if e : t = k then absurd (e ▸ hbt) hb else q t (Nat.lt_of_le_of_ne (Nat.le_of_lt_succ ht) e) hbt⟩)
                  clear RB
                  refine Ev.iload_n dX8_fewestRolls_93 (Eq.refl 94) rfl ?_
                  refine Ev.aload_n dX8_fewestRolls_94 (Eq.refl 95) rfl ?_
                  refine Ev.getR dX8_fewestRolls_95 (Eq.refl 98) fg_X8_13 rfl rfl (rX8_3 hR) ?_
                  refine Ev.iconst dX8_fewestRolls_98 (Eq.refl 99) ?_
                  refine Ev.iaload dX8_fewestRolls_99 (Eq.refl 100) rfl rfl (by omega) (by decide) (show (1 : Int).toNat = 1 from rfl) ?_
                  rw [e1]
                  refine Ev.icmp_ge (tgt := 136) dX8_fewestRolls_100 (Eq.refl 103) (by decide) ⟨by omega, by omega⟩ ⟨by omega, by omega⟩ (fun c100 => ?_) (fun c100 => ?_)
                  · omega
                  · refine Ev.iload_n dX8_fewestRolls_103 (Eq.refl 104) rfl ?_
                    refine Ev.iload_n dX8_fewestRolls_104 (Eq.refl 105) rfl ?_
                    refine Ev.ishr dX8_fewestRolls_105 (Eq.refl 106) (b_shr (Int.natCast_nonneg _) (by omega) (by omega) (by omega)) ?_
                    refine Ev.iconst dX8_fewestRolls_106 (Eq.refl 107) ?_
                    refine Ev.iand dX8_fewestRolls_107 (Eq.refl 108) (b_and (by first | exact Int.natCast_nonneg _ | exact shl0 | omega) (by first | exact Int.natCast_nonneg _ | exact shl0 | omega)) ?_
                    rw [bitE]
                    have hbb := bi01 (tb (n : Int) ((k : Int)).toNat)
                    rw [Int.toNat_natCast] at hbb ⊢
                    refine Ev.iconst dX8_fewestRolls_108 (Eq.refl 109) ?_
                    refine Ev.icmp_ne (tgt := 130) dX8_fewestRolls_109 (Eq.refl 112) (by decide) ⟨by omega, by omega⟩ ⟨by omega, by omega⟩ (fun c109 => ?_) (fun c109 => ?_)
                    · refine Ev.ii3 dX8_fewestRolls_130 (Eq.refl 133) (by decide) rfl ?_
                      refine Ev.goto' (pc' := 93) dX8_fewestRolls_133 (by decide) ?_
                      exact NX
                    · exact absurd (bi_1 c109) hb
              · have e : k = vS v := Nat.le_antisymm hk (Nat.le_of_not_lt hk2)
                subst e
                -- the set is done
                have n0 : n ≠ 0 := Nat.ne_of_gt hn1
                have hbit : ∃ i, tb (n : Int) i := Classical.byContradiction fun z => n0 (by
                  have := tb_ext (Int.natCast_nonneg n) (Int.le_refl 0) (fun j => ⟨fun y => absurd ⟨j, y⟩ z, fun y => by simp [tb] at y⟩)
                  clear RB; omega)
                have FIN : ∃ F : Nat, f.1 15 n = (F : Int) ∧ BP (vS v) (szV v) (Zr v) (tb (n : Int)) F (f.1 16 n) := by
                  rcases RB with ⟨_, _, q3⟩ | ⟨⟨i0, i1, i2, i3⟩, q⟩
                  · obtain ⟨i, hi⟩ := hbit
                    exact absurd hi (q3 i ((tA i).mp (sub i hi)).1)
                  · have jj : ∀ i, i < vS v → tb (n : Int) i → ∃ F' : Nat, (jnI (Zr v) (bwo (n : Int) (1 * 2 ^ i)).toNat (g.1 15 (bwo (n : Int) (1 * 2 ^ i)).toNat) (g.1 16 (bwo (n : Int) (1 * 2 ^ i)).toNat) (szV v i)).1 = (F' : Int) ∧ (((∃ j, j < vS v ∧ tb (n : Int) j ∧ j ≠ i) ∧ ∃ F'' G'', BP (vS v) (szV v) (Zr v) (fun j => tb (n : Int) j ∧ j ≠ i) F'' G'' ∧ ((F', (jnI (Zr v) (bwo (n : Int) (1 * 2 ^ i)).toNat (g.1 15 (bwo (n : Int) (1 * 2 ^ i)).toNat) (g.1 16 (bwo (n : Int) (1 * 2 ^ i)).toNat) (szV v i)).2) : Nat × Int) = if G'' + szV v i ≤ Zr v then (F'', G'' + szV v i) else (F'' + 1, szV v i)) ∨ ((∀ j, j < vS v → tb (n : Int) j → j = i) ∧ ((F', (jnI (Zr v) (bwo (n : Int) (1 * 2 ^ i)).toNat (g.1 15 (bwo (n : Int) (1 * 2 ^ i)).toNat) (g.1 16 (bwo (n : Int) (1 * 2 ^ i)).toNat) (szV v i)).2) : Nat × Int) = (1, szV v i))) := by
                      intro i hi hbi
                      obtain ⟨al, at2⟩ := ah i hbi
                      have asub : ∀ j, tb (((bwo (n : Int) (1 * 2 ^ i)).toNat : Nat) : Int) j → tb (A : Int) j := fun j q => sub j ((at2 j).mp q).1
                      have dn := hD _ al asub
                      generalize ha0 : (bwo (n : Int) (1 * 2 ^ i)).toNat = a0 at *
                      by_cases a00 : a0 = 0
                      · obtain ⟨d1, d2⟩ := dn.1 a00
                        have ej : jnI (Zr v) a0 (g.1 15 a0) (g.1 16 a0) (szV v i) = (g.1 15 a0 + 1, szV v i) := cif_f (fun z => z.1 a00)
                        rw [ej]
                        refine ⟨1, by show g.1 15 a0 + 1 = _; rw [d1]; rfl, Or.inr ⟨fun j _ hj => ?_, rfl⟩⟩
                        refine Classical.byContradiction fun ne => ?_
                        have := (at2 j).mpr ⟨hj, ne⟩
                        rw [a00] at this
                        simp [tb] at this
                      · obtain ⟨F', d1, d2⟩ := dn.2 a00
                        have eS' : tb (a0 : Int) = fun j => tb (n : Int) j ∧ j ≠ i := funext fun j => propext (at2 j)
                        rw [eS'] at d2
                        have hj : ∃ j, tb (a0 : Int) j := Classical.byContradiction fun z => a00 (by
                          have := tb_ext (Int.natCast_nonneg a0) (Int.le_refl 0) (fun j => ⟨fun y => absurd ⟨j, y⟩ z, fun y => by simp [tb] at y⟩)
                          clear q i3; omega)
                        obtain ⟨j, hj⟩ := hj
                        have hj2 := (at2 j).mp hj
                        have ex : ∃ j, j < vS v ∧ tb (n : Int) j ∧ j ≠ i := ⟨j, ((tA j).mp (sub j hj2.1)).1, hj2⟩
                        by_cases ft : g.1 16 a0 + szV v i ≤ Zr v
                        · have ej : jnI (Zr v) a0 (g.1 15 a0) (g.1 16 a0) (szV v i) = (g.1 15 a0, g.1 16 a0 + szV v i) := cif_t ⟨a00, ft⟩
                          rw [ej]
                          exact ⟨F', d1, Or.inl ⟨ex, F', g.1 16 a0, d2, by rw [if_pos ft]⟩⟩
                        · have ej : jnI (Zr v) a0 (g.1 15 a0) (g.1 16 a0) (szV v i) = (g.1 15 a0 + 1, szV v i) := cif_f (fun z => ft z.2)
                          rw [ej]
                          exact ⟨F' + 1, by show g.1 15 a0 + 1 = _; rw [d1]; rfl, Or.inl ⟨ex, F', g.1 16 a0, d2, by rw [if_neg ft]⟩⟩
                    obtain ⟨F0, e0, _⟩ := jj i0 i1 i2
                    have e15 : f.1 15 n = (F0 : Int) := (show f.1 15 n = _ from congrArg Prod.fst i3).trans e0
                    have e16 : f.1 16 n = _ := congrArg Prod.snd i3
                    refine ⟨F0, e15, BP_step (J := fun i => ((jnI (Zr v) (bwo (n : Int) (1 * 2 ^ i)).toNat (g.1 15 (bwo (n : Int) (1 * 2 ^ i)).toNat) (g.1 16 (bwo (n : Int) (1 * 2 ^ i)).toNat) (szV v i)).1.toNat, (jnI (Zr v) (bwo (n : Int) (1 * 2 ^ i)).toNat (g.1 15 (bwo (n : Int) (1 * 2 ^ i)).toNat) (g.1 16 (bwo (n : Int) (1 * 2 ^ i)).toNat) (szV v i)).2)) (by show (0 : Int) ≤ 100 * vR v; clear q; omega) (fun k hk hb => bz k hk (sub k hb)) (fun i hi hbi => ?_) ⟨i0, i1, i2, ?_⟩ (fun i hi hbi => ?_)⟩
                    · obtain ⟨F', e1', e2'⟩ := jj i hi hbi
                      show _ ∨ _
                      rw [e1', Int.toNat_natCast]
                      exact e2'
                    · show (F0, f.1 16 n) = (_, _)
                      rw [e0, Int.toNat_natCast, e16]
                    · obtain ⟨F', e1', e2'⟩ := jj i hi hbi
                      have z := q i hi hbi
                      unfold leI at z
                      unfold lxl
                      show F0 < (_ : Nat) ∨ (F0 = (_ : Nat) ∧ f.1 16 n ≤ _)
                      rw [e1', Int.toNat_natCast]
                      have z1 : f.1 15 n < _ ∨ (f.1 15 n = _ ∧ f.1 16 n ≤ _) := z
                      rw [e1', e15] at z1
                      clear q
                      rcases z1 with z1 | ⟨z1, z2⟩
                      · exact Or.inl (by omega)
                      · exact Or.inr ⟨by omega, z2⟩
                have D2 : DN f v A (n + 1) := fun m hm hs => by
                  by_cases e : m = n
                  · subst e
                    exact ⟨fun z => absurd z n0, fun _ => FIN⟩
                  · have q := hD m (Nat.lt_of_le_of_ne (Nat.le_of_lt_succ hm) e) hs
                    rw [(fo m e).1, (fo m e).2]
                    exact q
                have NX := ih (A + 1 - (n + 1)) (by clear RB; omega) (n + 1) f (some (iv ((vS v : Nat) : Int))) rfl (by clear RB; omega) (by clear RB; omega) hCf f12 D2
                clear RB
                refine Ev.iload_n dX8_fewestRolls_93 (Eq.refl 94) rfl ?_
                refine Ev.aload_n dX8_fewestRolls_94 (Eq.refl 95) rfl ?_
                refine Ev.getR dX8_fewestRolls_95 (Eq.refl 98) fg_X8_13 rfl rfl (rX8_3 hR) ?_
                refine Ev.iconst dX8_fewestRolls_98 (Eq.refl 99) ?_
                refine Ev.iaload dX8_fewestRolls_99 (Eq.refl 100) rfl rfl (by omega) (by decide) (show (1 : Int).toNat = 1 from rfl) ?_
                rw [e1]
                refine Ev.icmp_ge (tgt := 136) dX8_fewestRolls_100 (Eq.refl 103) (by decide) ⟨by omega, by omega⟩ ⟨by omega, by omega⟩ (fun c100 => ?_) (fun c100 => ?_)
                · refine Ev.ii2 dX8_fewestRolls_136 (Eq.refl 139) (by decide) rfl ?_
                  refine Ev.goto' (pc' := 63) dX8_fewestRolls_139 (by decide) ?_
                  exact NX
                · omega
          have b0 := bwo_0.mpr sub
          refine Ev.iload_n dX8_fewestRolls_63 (Eq.refl 64) rfl ?_
          refine Ev.iload_n dX8_fewestRolls_64 (Eq.refl 65) rfl ?_
          refine Ev.icmp_gt (tgt := 142) dX8_fewestRolls_65 (Eq.refl 68) (by decide) ⟨by omega, by omega⟩ ⟨by omega, by omega⟩ (fun c65 => ?_) (fun c65 => ?_)
          · omega
          · refine Ev.iload_n dX8_fewestRolls_68 (Eq.refl 69) rfl ?_
            refine Ev.iload_n dX8_fewestRolls_69 (Eq.refl 70) rfl ?_
            refine Ev.iconst dX8_fewestRolls_70 (Eq.refl 71) ?_
            refine Ev.ixor dX8_fewestRolls_71 (Eq.refl 72) (b_not (Int.natCast_nonneg _)) ?_
            refine Ev.iand dX8_fewestRolls_72 (Eq.refl 73) (b_andn (Int.natCast_nonneg _) (Int.natCast_nonneg _)) ?_
            rw [b0]
            refine Ev.if_ne (tgt := 136) dX8_fewestRolls_73 (Eq.refl 76) (by decide) ⟨by omega, by omega⟩ (fun c73 => ?_) (fun c73 => ?_)
            · omega
            · refine Ev.aload_n dX8_fewestRolls_76 (Eq.refl 77) rfl ?_
              refine Ev.getR dX8_fewestRolls_77 (Eq.refl 80) fg_X8_55 rfl rfl (rX8_22 hR) ?_
              refine Ev.iload_n dX8_fewestRolls_80 (Eq.refl 81) rfl ?_
              refine Ev.bipush dX8_fewestRolls_81 (Eq.refl 83) (by decide) ?_
              refine Ev.iastore dX8_fewestRolls_83 (Eq.refl 84) rfl rfl (by omega) (by decide) (by first | with_reducible exact Int.toNat_natCast _ | exact Eq.refl _) ?_
              refine Ev.aload_n dX8_fewestRolls_84 (Eq.refl 85) rfl ?_
              refine Ev.getR dX8_fewestRolls_85 (Eq.refl 88) fg_X8_58 rfl rfl (rX8_23 hR) ?_
              refine Ev.iload_n dX8_fewestRolls_88 (Eq.refl 89) rfl ?_
              refine Ev.iconst dX8_fewestRolls_89 (Eq.refl 90) ?_
              refine Ev.iastore dX8_fewestRolls_90 (Eq.refl 91) rfl rfl (by omega) (by decide) (by first | with_reducible exact Int.toNat_natCast _ | exact Eq.refl _) ?_
              refine Ev.iconst dX8_fewestRolls_91 (Eq.refl 92) ?_
              refine Ev.is3 dX8_fewestRolls_92 (Eq.refl 93) (by decide) rfl ?_
              exact L3 _ 0 _ rfl (by omega) ((hC.w (by omega)).w (by omega)) (fun j => by rw [hI_ni (by omega), hI_ni (by omega)]; exact h12 j) (fun m hm => by rw [hI_ni (i := 16) (by decide), hI_nk hm, hI_nk hm, hI_ni (i := 15) (by decide)]; exact ⟨rfl, rfl⟩) (Or.inl ⟨by rw [hI_ni (by decide), hI_eq], hI_eq, fun i hi => by omega⟩)
        · have b0 : bwo (n : Int) (A : Int) ≠ 0 := fun z => sub (bwo_0.mp z)
          have br := bwoR (x := (n : Int)) (y := (A : Int)) (by omega)
          have D2 : DN g v A (n + 1) := fun m hm hs => by
            by_cases e : m = n
            · subst e; exact absurd hs sub
            · exact hD m (by omega) hs
          refine Ev.iload_n dX8_fewestRolls_63 (Eq.refl 64) rfl ?_
          refine Ev.iload_n dX8_fewestRolls_64 (Eq.refl 65) rfl ?_
          refine Ev.icmp_gt (tgt := 142) dX8_fewestRolls_65 (Eq.refl 68) (by decide) ⟨by omega, by omega⟩ ⟨by omega, by omega⟩ (fun c65 => ?_) (fun c65 => ?_)
          · omega
          · refine Ev.iload_n dX8_fewestRolls_68 (Eq.refl 69) rfl ?_
            refine Ev.iload_n dX8_fewestRolls_69 (Eq.refl 70) rfl ?_
            refine Ev.iconst dX8_fewestRolls_70 (Eq.refl 71) ?_
            refine Ev.ixor dX8_fewestRolls_71 (Eq.refl 72) (b_not (Int.natCast_nonneg _)) ?_
            refine Ev.iand dX8_fewestRolls_72 (Eq.refl 73) (b_andn (Int.natCast_nonneg _) (Int.natCast_nonneg _)) ?_
            refine Ev.if_ne (tgt := 136) dX8_fewestRolls_73 (Eq.refl 76) (by decide) br (fun c73 => ?_) (fun c73 => ?_)
            · refine Ev.ii2 dX8_fewestRolls_136 (Eq.refl 139) (by decide) rfl ?_
              refine Ev.goto' (pc' := 63) dX8_fewestRolls_139 (by decide) ?_
              exact ih _ (by omega) (n + 1) _ _ rfl (by omega) (by omega) hC h12 D2
            · exact absurd c73 b0
      · have fin : isMin v (szV v) (g.1 15 A) := by
          have q := hD A (by omega) (fun _ z => z)
          by_cases A0 : A = 0
          · rw [(q.1 A0).1]
            refine BP_min0 ?_
            rintro ⟨k, hk, hh⟩
            have := (tA k).mpr ⟨hk, hh⟩
            rw [A0] at this
            simp [tb] at this
          · obtain ⟨F, e, b⟩ := q.2 A0
            rw [e]
            have hbit : ∃ i, tb (A : Int) i := Classical.byContradiction fun z => A0 (by
              have := tb_ext (Int.natCast_nonneg A) (Int.le_refl 0) (fun j => ⟨fun y => absurd ⟨j, y⟩ z, fun y => by simp [tb] at y⟩)
              omega)
            obtain ⟨i, hi⟩ := hbit
            have ec : ∀ f r, bsm (vS v) (szV v) (tb (A : Int)) f r = bsm (vS v) (szV v) (fun k => vH v k = true) f r := fun f r => sm_congr _ (fun j hj => by
              by_cases z : vH v j = true ∧ f j = r
              · rw [cif_t z, cif_t ⟨(tA j).mpr ⟨hj, z.1⟩, z.2⟩]
              · rw [cif_f z, cif_f (fun y => z ⟨((tA j).mp y.1).2, y.2⟩)])
            refine BP_min (G := g.1 16 A) ?_ ⟨i, (tA i).mp hi⟩
            obtain ⟨⟨f, f1, f2, f3⟩, F1, lo⟩ := b
            refine ⟨⟨f, fun k hk hh => f1 k hk ((tA k).mpr ⟨hk, hh⟩), fun r hr => by rw [← ec]; exact f2 r hr, by rw [← ec]; exact f3⟩, F1, fun c f b hbc g1 g2 => ?_⟩
            rw [← ec]
            exact lo c f b hbc (fun k hk hh => g1 k hk ((tA k).mp hh).2) (fun r hr => by rw [ec]; exact g2 r hr)
        refine Ev.iload_n dX8_fewestRolls_63 (Eq.refl 64) rfl ?_
        refine Ev.iload_n dX8_fewestRolls_64 (Eq.refl 65) rfl ?_
        refine Ev.icmp_gt (tgt := 142) dX8_fewestRolls_65 (Eq.refl 68) (by decide) ⟨by omega, by omega⟩ ⟨by omega, by omega⟩ (fun c65 => ?_) (fun c65 => ?_)
        · refine Ev.aload_n dX8_fewestRolls_142 (Eq.refl 143) rfl ?_
          refine Ev.getR dX8_fewestRolls_143 (Eq.refl 146) fg_X8_55 rfl rfl (rX8_22 hR) ?_
          refine Ev.iload_n dX8_fewestRolls_146 (Eq.refl 147) rfl ?_
          refine Ev.iaload dX8_fewestRolls_147 (Eq.refl 148) rfl rfl (by omega) (by decide) (by first | with_reducible exact Int.toNat_natCast _ | exact Eq.refl _) ?_
          exact Ev.iret dX8_fewestRolls_148 rfl (⟨_, rfl, hC, fin⟩)
        · omega
  have L1 : ∀ (w k : Nat) (x : Int), vS v - k = w → k ≤ vS v → (0 ≤ x ∧ x < 2 ^ k ∧ ∀ i, tb x i ↔ i < k ∧ vH v i = true) → Ev mX8_fewestRolls 1 4 [some (.ref 0), some (iv x), some (iv (k : Int)), none] [] h (PI (fun x h' => Ck h h' ∧ isMin v (szV v) x)) := by
    intro w
    have hR := B.1
    have e1 := B.s1
    induction w using Nat.strongRecOn with
    | ind w ih =>
      intro k x hw hk hx
      have hx0 := hx.1
      by_cases hk2 : k < vS v
      · have pk := pc k hk2
        have sb := szV_b hv ha hk2
        have eo := or0 hx0
        by_cases hh : vH v k = true
        · rw [if_pos hh] at pk
          refine Ev.iload_n dX8_fewestRolls_4 (Eq.refl 5) rfl ?_
          refine Ev.aload_n dX8_fewestRolls_5 (Eq.refl 6) rfl ?_
          refine Ev.getR dX8_fewestRolls_6 (Eq.refl 9) fg_X8_13 rfl rfl (rX8_3 hR) ?_
          refine Ev.iconst dX8_fewestRolls_9 (Eq.refl 10) ?_
          refine Ev.iaload dX8_fewestRolls_10 (Eq.refl 11) rfl rfl (by omega) (by decide) (show (1 : Int).toNat = 1 from rfl) ?_
          rw [e1]
          refine Ev.icmp_ge (tgt := 39) dX8_fewestRolls_11 (Eq.refl 14) (by decide) ⟨by omega, by omega⟩ ⟨by omega, by omega⟩ (fun c11 => ?_) (fun c11 => ?_)
          · omega
          · refine Ev.iload_n dX8_fewestRolls_14 (Eq.refl 15) rfl ?_
            refine Ev.aload_n dX8_fewestRolls_15 (Eq.refl 16) rfl ?_
            refine Ev.getR dX8_fewestRolls_16 (Eq.refl 19) fg_X8_46 rfl rfl (rX8_18 hR) ?_
            refine Ev.iload_n dX8_fewestRolls_19 (Eq.refl 20) rfl ?_
            refine Ev.iaload dX8_fewestRolls_20 (Eq.refl 21) rfl rfl (by omega) (by decide) (by first | with_reducible exact Int.toNat_natCast _ | exact Eq.refl _) ?_
            rw [pk]
            refine Ev.if_lt (tgt := 30) dX8_fewestRolls_21 (Eq.refl 24) (by decide) ⟨by omega, by omega⟩ (fun c21 => ?_) (fun c21 => ?_)
            · omega
            · refine Ev.iconst dX8_fewestRolls_24 (Eq.refl 25) ?_
              refine Ev.iload_n dX8_fewestRolls_25 (Eq.refl 26) rfl ?_
              refine Ev.ishl dX8_fewestRolls_26 (Eq.refl 27) (b_shl (by omega) (by omega) (by omega) (shl1 (by omega))) ?_
              rw [Int.toNat_natCast]
              refine Ev.goto' (pc' := 31) dX8_fewestRolls_27 (by decide) ?_
              refine Ev.ior dX8_fewestRolls_31 (Eq.refl 32) (b_or (by first | exact Int.natCast_nonneg _ | exact shl0 | omega) (by first | exact Int.natCast_nonneg _ | exact shl0 | omega)) ?_
              refine Ev.is1 dX8_fewestRolls_32 (Eq.refl 33) (by decide) rfl ?_
              refine Ev.ii2 dX8_fewestRolls_33 (Eq.refl 36) (by decide) rfl ?_
              refine Ev.goto' (pc' := 4) dX8_fewestRolls_36 (by decide) ?_
              exact ih _ (by omega) (k + 1) _ rfl (by omega) (isB_s (P := fun i => vH v i = true) hx hh)
        · rw [if_neg hh] at pk
          refine Ev.iload_n dX8_fewestRolls_4 (Eq.refl 5) rfl ?_
          refine Ev.aload_n dX8_fewestRolls_5 (Eq.refl 6) rfl ?_
          refine Ev.getR dX8_fewestRolls_6 (Eq.refl 9) fg_X8_13 rfl rfl (rX8_3 hR) ?_
          refine Ev.iconst dX8_fewestRolls_9 (Eq.refl 10) ?_
          refine Ev.iaload dX8_fewestRolls_10 (Eq.refl 11) rfl rfl (by omega) (by decide) (show (1 : Int).toNat = 1 from rfl) ?_
          rw [e1]
          refine Ev.icmp_ge (tgt := 39) dX8_fewestRolls_11 (Eq.refl 14) (by decide) ⟨by omega, by omega⟩ ⟨by omega, by omega⟩ (fun c11 => ?_) (fun c11 => ?_)
          · omega
          · refine Ev.iload_n dX8_fewestRolls_14 (Eq.refl 15) rfl ?_
            refine Ev.aload_n dX8_fewestRolls_15 (Eq.refl 16) rfl ?_
            refine Ev.getR dX8_fewestRolls_16 (Eq.refl 19) fg_X8_46 rfl rfl (rX8_18 hR) ?_
            refine Ev.iload_n dX8_fewestRolls_19 (Eq.refl 20) rfl ?_
            refine Ev.iaload dX8_fewestRolls_20 (Eq.refl 21) rfl rfl (by omega) (by decide) (by first | with_reducible exact Int.toNat_natCast _ | exact Eq.refl _) ?_
            rw [pk]
            refine Ev.if_lt (tgt := 30) dX8_fewestRolls_21 (Eq.refl 24) (by decide) ⟨by omega, by omega⟩ (fun c21 => ?_) (fun c21 => ?_)
            · refine Ev.iconst dX8_fewestRolls_30 (Eq.refl 31) ?_
              refine Ev.ior dX8_fewestRolls_31 (Eq.refl 32) (b_or (by first | exact Int.natCast_nonneg _ | exact shl0 | omega) (by first | exact Int.natCast_nonneg _ | exact shl0 | omega)) ?_
              rw [eo]
              refine Ev.is1 dX8_fewestRolls_32 (Eq.refl 33) (by decide) rfl ?_
              refine Ev.ii2 dX8_fewestRolls_33 (Eq.refl 36) (by decide) rfl ?_
              refine Ev.goto' (pc' := 4) dX8_fewestRolls_36 (by decide) ?_
              exact ih _ (by omega) (k + 1) _ rfl (by omega) (isB_n (P := fun i => vH v i = true) hx hh)
            · omega
      · have e : k = vS v := by omega
        subst e
        obtain ⟨A, rfl⟩ := Int.eq_ofNat_of_zero_le hx0
        have hA : A < 16384 := by
          have a := hx.2.1
          have b := p2le hS14
          omega
        have rR : ∀ x, (hI h 15 0 x).1 2 2 = vR v := fun x => by rw [hI_ni (by omega)]; exact B.R
        refine Ev.iload_n dX8_fewestRolls_4 (Eq.refl 5) rfl ?_
        refine Ev.aload_n dX8_fewestRolls_5 (Eq.refl 6) rfl ?_
        refine Ev.getR dX8_fewestRolls_6 (Eq.refl 9) fg_X8_13 rfl rfl (rX8_3 hR) ?_
        refine Ev.iconst dX8_fewestRolls_9 (Eq.refl 10) ?_
        refine Ev.iaload dX8_fewestRolls_10 (Eq.refl 11) rfl rfl (by omega) (by decide) (show (1 : Int).toNat = 1 from rfl) ?_
        rw [e1]
        refine Ev.icmp_ge (tgt := 39) dX8_fewestRolls_11 (Eq.refl 14) (by decide) ⟨by omega, by omega⟩ ⟨by omega, by omega⟩ (fun c11 => ?_) (fun c11 => ?_)
        · refine Ev.aload_n dX8_fewestRolls_39 (Eq.refl 40) rfl ?_
          refine Ev.getR dX8_fewestRolls_40 (Eq.refl 43) fg_X8_55 rfl rfl (rX8_22 hR) ?_
          refine Ev.iconst dX8_fewestRolls_43 (Eq.refl 44) ?_
          refine Ev.iconst dX8_fewestRolls_44 (Eq.refl 45) ?_
          refine Ev.iastore dX8_fewestRolls_45 (Eq.refl 46) rfl rfl (by omega) (by decide) (show (0 : Int).toNat = 0 from rfl) ?_
          refine Ev.aload_n dX8_fewestRolls_46 (Eq.refl 47) rfl ?_
          refine Ev.getR dX8_fewestRolls_47 (Eq.refl 50) fg_X8_58 rfl rfl (rX8_23 hR) ?_
          refine Ev.iconst dX8_fewestRolls_50 (Eq.refl 51) ?_
          refine Ev.bipush dX8_fewestRolls_51 (Eq.refl 53) (by decide) ?_
          refine Ev.aload_n dX8_fewestRolls_53 (Eq.refl 54) rfl ?_
          refine Ev.getR dX8_fewestRolls_54 (Eq.refl 57) fg_X8_13 rfl rfl (rX8_3 hR) ?_
          refine Ev.iconst dX8_fewestRolls_57 (Eq.refl 58) ?_
          refine Ev.iaload dX8_fewestRolls_58 (Eq.refl 59) rfl rfl (by omega) (by decide) (show (2 : Int).toNat = 2 from rfl) ?_
          rw [rR]
          refine Ev.imul dX8_fewestRolls_59 (Eq.refl 60) ?_
          refine Ev.iastore dX8_fewestRolls_60 (Eq.refl 61) rfl rfl (by omega) (by decide) (show (0 : Int).toNat = 0 from rfl) ?_
          refine Ev.iconst dX8_fewestRolls_61 (Eq.refl 62) ?_
          refine Ev.is2 dX8_fewestRolls_62 (Eq.refl 63) (by decide) rfl ?_
          exact L2 A hA hx.2.2 _ 1 _ _ rfl (by omega) (by omega) ((Ck.rf.w (by omega)).w (by omega)) (fun j => by rw [hI_ni (by omega), hI_ni (by omega)]) (fun m hm hs => by have m0 : m = 0 := (by omega); subst m0; exact ⟨fun _ => ⟨by rw [hI_ni (by decide), hI_eq], hI_eq⟩, fun z => absurd rfl z⟩)
        · omega
  refine Ev.iconst dX8_fewestRolls_0 (Eq.refl 1) ?_
  refine Ev.is1 dX8_fewestRolls_1 (Eq.refl 2) (by decide) rfl ?_
  refine Ev.iconst dX8_fewestRolls_2 (Eq.refl 3) ?_
  refine Ev.is2 dX8_fewestRolls_3 (Eq.refl 4) (by decide) rfl ?_
  exact L1 _ 0 0 rfl (by omega) ⟨by omega, by decide, fun s => by simp⟩
end FEW
