section BA
variable {P : am_P} {TAB : List Cond} {NST : (List (String × Nat × MethodName × String)) × (List (String × String × String)) × (List MethodName) × (List (Nat × Nat))} {cl : List vw_C} {tt : List FieldType} {D : va_G} {ac : Nat → ClassId} {AO : List String} {b bs KC KS y pc pc' len : Nat} {lo lo' : am_L} {st st' : List Value} {h h' : am_H}
variable {p : Program} {l : Launch} {e : Env} {R : Room} {s : State} {m : MethodId} {args : Array Value} {below : List Frame} {meth : Method} {c : Code} {ls : Array Slot} {H : Heap} {locs : List Loc} {cells slots : Nat} {Q : State → Prop}
set_option maxHeartbeats 4000000 in
theorem am_sim (hexec : p.tables.exec = Jvm.exec) (hgood : ∀ w ∈ TAB, (w.onTables && w.keeps) = true ∨ ∃ ty, w = .arrayClass ty) (ok : am_OK P TAB AO cl tt) (okK : am_okK P TAB NST cl)
    (okX : am_okX p l e P TAB NST AO cl tt D ac b bs) (okH : am_okH p l e P TAB NST AO cl tt D ac b bs) :
    ∀ (n y pc : Nat) (lo : am_L) (st : List Value) (h : am_H) (o : am_A) (h' : am_H), am_run P n y pc lo st h = some (o, h') → am_Sim p l e P TAB NST AO cl tt D ac b bs y pc lo st h o h' := by
  intro n
  induction n with
  | zero => intro y pc lo st h o h' hx; cases hx
  | succ n ih =>
    intro y pc lo st h o h' hx R s m args below meth c ls H locs cells slots KC KS env at_ hrf hrl hkk hf
    unfold am_run at hx
    cases hst : am_st P y pc lo st h with
    | none => rw [hst] at hx; cases hx
    | some out =>
      rw [hst] at hx
      unfold am_st at hst
      split at hst
      · rename_i i len hd
        obtain ⟨hl, hex⟩ := am_if_inv hst
        rcases out with ⟨pc1, lo1, st1, h1⟩ | ⟨z, as, rest⟩ | v | E
        · have hle := am_run_le P n y pc1 lo1 st1 h1 o h' hx
          exact am_next hexec ok env at_ hrf hrl hd hl hex ⟨Nat.le_trans hle.1 hkk.1, Nat.le_trans hle.2 hkk.2⟩ hf (fun ls' H' locs' cells' slots' hf' => ih y pc1 lo1 st1 h1 o h' hx R s m args below meth c ls' H' locs' cells' slots' KC KS env at_ hrf hrl hkk hf')
        · dsimp only at hx
          cases hl0 : am_en0 P z as with
          | none => rw [hl0] at hx; cases hx
          | some l0 =>
            rw [hl0] at hx
            dsimp only at hx
            cases hr : am_run P n z 0 l0 [] h with
            | none => rw [hr] at hx; cases hx
            | some res =>
              obtain ⟨oz, h1⟩ := res
              rw [hr] at hx
              have hle1 := am_run_le P n z 0 l0 [] h oz h1 hr
              have hz := ih z 0 l0 [] h oz h1 hr
              obtain ⟨ix, k, kd, hca, hk, hroom, hkind⟩ := am_ex_cv P y pc i lo st h _ hex z as rest rfl
              obtain ⟨okM, hlk, hpar, k0, k1, k2⟩ := okK y ix z k kd hca
              have hlk' : am_lk (am_nm (am_me P y)).cls ix (am_nm (am_me P z)) args s := by
                rcases hlk with hw | ⟨host, hw⟩
                · exact Or.inl (env.1 _ hw)
                · exact Or.inr ⟨host, env.2.1 _ hw⟩
              have hle2 : am_le h1 h' := by
                cases oz with
                | inl v => exact am_run_le P n y _ _ _ h1 o h' hx
                | inr E =>
                  dsimp only at hx
                  split at hx
                  · cases hx
                    exact am_le.rf _
                  · split at hx
                    · split at hx
                      · exact am_run_le P n y _ _ _ h1 o h' hx
                      · cases hx
                    · cases hx
              have hnamed : ∃ mk, s.methodNamed? (am_nm (am_me P z)) = some mk := by
                rcases okM.2.2.2 with ⟨-, hw⟩ | hw
                · exact Cond.code_named (env.1 _ hw)
                · obtain ⟨mk, -, -, a0, -⟩ := Cond.codeWith_spec (env.1 _ hw)
                  exact ⟨mk, a0⟩
              obtain ⟨mk, hn⟩ := hnamed
              have hcz : ∃ methk : Method, s.vm.method? mk = some methk ∧ parseMethodDescriptor (am_nm (am_me P z)).desc = some methk.sig := by
                rcases okM.2.2.2 with ⟨-, hw⟩ | hw
                · obtain ⟨methk, ck, a1, -, -, -, -, -, -, a2⟩ := Cond.code_spec hn (env.1 _ hw)
                  exact ⟨methk, a1, a2⟩
                · obtain ⟨mk', methk, ck, a0, a1, -, -, -, -, -, -, a2⟩ := Cond.codeWith_spec (env.1 _ hw)
                  cases hn.symm.trans a0
                  exact ⟨methk, a1, a2⟩
              obtain ⟨methk, hmk, hsig⟩ := hcz
              have hpl : k = methk.sig.parameters.length := by
                rw [hsig] at hpar
                exact (Option.some.inj hpar).symm
              have hlen3 : len = 3 := by
                rcases hkind with ⟨-, rfl, -⟩ | ⟨-, rfl, -⟩ | ⟨-, rfl, -⟩ <;> simpa [am_ln] using hl
              subst hlen3
              have htk : ((st.take k).reverse).length = methk.sig.parameters.length := by
                rw [List.length_reverse, List.length_take, ← hpl]; omega
              have hb := at_.1
              have hd' : decode c.code pc = .ok (i, 3) := by rw [hb]; exact hd
              refine am_callW hgood env at_ hrf hrl okM hn hd hroom hl0 hz hle1 ⟨Nat.le_trans hle2.1 hkk.1, Nat.le_trans hle2.2 hkk.2⟩ ?_ hf ?_ ?_
              · intro T hT X
                have hsp : st = st.take k ++ st.drop k := (List.take_append_drop k st).symm
                rcases hkind with ⟨rfl, rfl, rfl, rfl⟩ | ⟨rfl, rfl, a, fs, rfl, hdr, ha⟩ | ⟨rfl, rfl, a, rfl, hdr⟩
                · have e1 : st.map (am_sv b bs) = ((st.take k).reverse.map (am_sv b bs)).reverse ++ (st.drop k).map (am_sv b bs) := by
                    rw [← List.map_reverse, List.reverse_reverse, ← List.map_append, List.take_append_drop]
                  exact am_invS X hexec at_.2.2.2.2.1 hlk' (env.1 _ (k0 rfl)) (env.1 _ okM.2.2.1) okM.2.1 hn hmk (g := F0 m pc ls (st.map (am_sv b bs))) rfl (by rw [List.length_map]; exact htk) e1 hd'
                · obtain ⟨w1, C, T0, N, w2, w3⟩ := k1 rfl
                  have e1 : st.map (am_sv b bs) = ((st.take k).reverse.map (am_sv b bs)).reverse ++ .ref (b + a) :: rest.map (am_sv b bs) := by
                    rw [← List.map_reverse, List.reverse_reverse]
                    have e2 : (Value.ref a :: rest).map (am_sv b bs) = .ref (b + a) :: rest.map (am_sv b bs) := by simp [am_sv, hf.ad ha]
                    rw [← e2, ← hdr, ← List.map_append, List.take_append_drop]
                  obtain ⟨cellB, g1, g2, g3⟩ := va_recv env.2.2.2.1 hf.2.1.1 w2 (am_ws_get ha)
                  have e3 : (Value.ref a :: (st.take k).reverse).map (am_sv b bs) = .ref (b + a) :: (st.take k).reverse.map (am_sv b bs) := by simp [am_sv, hf.ad ha]
                  rw [e3]
                  exact am_invV X hexec at_.2.2.2.2.1 hlk' (env.1 _ w1) (env.1 _ w3) okM.2.1 hn hmk (by rw [hT]; exact g1) g2 g3 (g := F0 m pc ls (st.map (am_sv b bs))) rfl (by rw [List.length_map]; exact htk) e1 hd'
                · obtain ⟨w1, w2, w3⟩ := k2 rfl
                  have e1 : st.map (am_sv b bs) = ((st.take k).reverse.map (am_sv b bs)).reverse ++ .ref (am_ad b bs a) :: rest.map (am_sv b bs) := by
                    rw [← List.map_reverse, List.reverse_reverse]
                    have e2 : (Value.ref a :: rest).map (am_sv b bs) = .ref (am_ad b bs a) :: rest.map (am_sv b bs) := rfl
                    rw [← e2, ← hdr, ← List.map_append, List.take_append_drop]
                  exact am_invI X hexec at_.2.2.2.2.1 hlk' (env.1 _ w1) (env.1 _ w3) w2 okM.2.1 hn (q := am_ad b bs a) (g := F0 m pc ls (st.map (am_sv b bs))) rfl (fun sig hs => by rw [List.length_map]; rw [hsig] at hs; cases hs; exact htk) e1 hd'
              · intro v hv H' locs' cells' slots' hf'
                subst hv
                exact ih y (pc + 3) lo (v.toList ++ rest) h1 o h' hx R s m args below meth c ls H' locs' cells' slots' KC KS env at_ hrf hrl hkk hf'
              · intro E hE T' locs' cells' slots' q ce r hf' X' d1 d2 d3 d4
                subst hE
                dsimp only at hx
                split at hx
                · rename_i hno
                  cases hx
                  exact am_leave at_ hno X' rfl hf' d1 d2 d3 d4
                · split at hx
                  · rename_i pc2 kx hfh
                    split at hx
                    · rename_i hkx
                      exact okH y pc E pc2 kx lo h1 hfh hkx R s m args below meth c ls T' locs' cells' slots' KC KS (rest.map (am_sv b bs)) env at_ hf' X' q ce r d1 d2 d3 d4 _ (fun ls' hf2 => ih y pc2 (lo.set kx none) [] h1 o h' hx R s m args below meth c ls' T'.heap locs' cells' slots' KC KS env at_ hrf hrl hkk hf2)
                    · cases hx
                  · cases hx
        · cases hx
          have hb := at_.1
          have hr := at_.2.2.1
          have hlocks := at_.2.2.2.1
          rcases (am_ex_ev P y pc i lo st h _ hex).1 v rfl with rfl | rfl | rfl
          · obtain rfl : len = 1 := by simpa [am_ln] using hl
            exact am_e_ireturn hexec hb hr hlocks hd hex hf
          · obtain rfl : len = 1 := by simpa [am_ln] using hl
            exact am_e_areturn hexec hb hr hlocks hd hex hf
          · obtain rfl : len = 1 := by simpa [am_ln] using hl
            exact am_e_return hexec hb hr hlocks hd hex hf
        · dsimp only at hx
          split at hx
          · rename_i hno
            cases hx
            obtain ⟨ix, ic, rfl, e1, e2, e3, e4, e5, e6⟩ := (am_ex_ev P y pc i lo st h _ hex).2 E rfl
            obtain rfl : len = 3 := by simpa [am_ln] using hl
            exact okX y pc lo st h ix ic E hd e1 e2 e3 e4 e5 e6 hno R s m args below meth c ls H locs cells slots KC KS env at_ hrf hrl hkk hf
          · cases hx
      · cases hst
end BA
