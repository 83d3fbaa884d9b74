/-! calls that only look: both sides together -/
theorem st_of {g : xG} (v1 v2 : Int32) {K : Nat} {M : xM} (h : q_inv K M) : mi_X9_of g v1 v2 M (fun r N => mi_X10_of g v1 v2 N (fun r' N' => r = r' ∧ q_inv (K + 20) N')) := by
  refine mo_X9_of (ok_X9_of v1 v2 M K h.1) ?_
  rintro r M ⟨rfl, rfl⟩
  refine mo_X10_of (ok_X10_of M M K v1 v2 h.1 h.2.1) ?_
  rintro r M ⟨rfl, rfl⟩
  exact ⟨rfl, q_inv_mono h (by omega)⟩
theorem st_inQueue {g : xG} (v1 v2 : Int32) {K : Nat} {M : xM} (h : q_inv K M) : mi_X9_inQueue g v1 v2 M (fun r N => mi_X10_inQueue g v1 v2 N (fun r' N' => r = r' ∧ q_inv (K + 20) N')) := by
  refine mo_X9_inQueue (ok_X9_inQueue v1 v2 M K h.1) ?_
  rintro r M ⟨rfl, rfl⟩
  refine mo_X10_inQueue (ok_X10_inQueue M M K v1 v2 h.1 h.2.1) ?_
  rintro r M ⟨rfl, rfl⟩
  exact ⟨rfl, q_inv_mono h (by omega)⟩
theorem st_key {g : xG} (v1 v2 v3 : Int32) {K : Nat} {M : xM} (h : q_inv K M) : mi_X9_key g v1 v2 v3 M (fun r N => mi_X10_key g v1 v2 v3 N (fun r' N' => r = r' ∧ q_inv (K + 20) N')) := by
  refine mo_X9_key (ok_X9_key v1 v2 v3 M K h.1) ?_
  rintro r M ⟨rfl, rfl⟩
  refine mo_X10_key (ok_X10_key M M K v1 v2 v3 h.1 h.2.1) ?_
  rintro r M ⟨rfl, rfl⟩
  exact ⟨rfl, q_inv_mono h (by omega)⟩
theorem st_ofSong {g : xG} (v1 v2 : Int32) {K : Nat} {M : xM} (h : q_inv K M) : mi_X9_ofSong g v1 v2 M (fun r N => mi_X10_ofSong g v1 v2 N (fun r' N' => r = r' ∧ q_inv (K + 20) N')) := by
  refine mo_X9_ofSong (ok_X9_ofSong v1 v2 M K h.1) ?_
  rintro r M ⟨rfl, rfl⟩
  refine mo_X10_ofSong (ok_X10_ofSong M M K v1 v2 h.1 h.2.1) ?_
  rintro r M ⟨rfl, rfl⟩
  exact ⟨rfl, q_inv_mono h (by omega)⟩
theorem st_past {g : xG} (v1 v2 : Int32) {K : Nat} {M : xM} (h : q_inv K M) : mi_X9_past g v1 v2 M (fun r N => mi_X10_past g v1 v2 N (fun r' N' => r = r' ∧ q_inv (K + 20) N')) := by
  refine mo_X9_past (ok_X9_past v1 v2 M K h.1) ?_
  rintro r M ⟨rfl, rfl⟩
  refine mo_X10_past (ok_X10_past M M K v1 v2 h.1 h.2.1) ?_
  rintro r M ⟨rfl, rfl⟩
  exact ⟨rfl, q_inv_mono h (by omega)⟩
theorem st_count {g : xG} (v1 : Int32) {K : Nat} {M : xM} (h : q_inv K M) : mi_X9_count g v1 M (fun r N => mi_X10_count g v1 N (fun r' N' => r = r' ∧ q_inv (K + 20) N')) := by
  obtain ⟨h1, h2, ⟨n, p, hh⟩, h4, ⟨tx, m, hpd, hpm⟩⟩ := id h
  refine mo_X9_count (ok_X9_count v1 M K h.1) ?_
  rintro r M ⟨rfl, rfl⟩
  refine mo_X10_count (ok_X10_count M M K v1 h.1 h.2.1) ?_
  rintro r M ⟨rfl, rfl⟩
  refine ⟨?_, q_inv_mono h (by omega)⟩
  rw [hpd.1, hpm.1, hh.2.2.1, hh.2.2.2.2.1]
theorem st_endOfAll {g : xG} {K : Nat} {M : xM} (h : q_inv K M) : mi_X9_endOfAll g M (fun r N => mi_X10_endOfAll g N (fun r' N' => r = r' ∧ q_inv (K + 20) N')) := by
  refine mo_X9_endOfAll (ok_X9_endOfAll M K h.1) ?_
  rintro r M ⟨rfl, rfl⟩
  refine mo_X10_endOfAll (ok_X10_endOfAll M M K h.1 h.2.1) ?_
  rintro r M ⟨rfl, rfl⟩
  exact ⟨rfl, q_inv_mono h (by omega)⟩
theorem st_ifLeft {g : xG} (v1 : Int32) {K : Nat} {M : xM} (h : q_inv K M) : mi_X9_ifLeft g v1 M (fun r N => mi_X10_ifLeft g v1 N (fun r' N' => r = r' ∧ q_inv (K + 20) N')) := by
  refine mo_X9_ifLeft (ok_X9_ifLeft v1 M K h.1) ?_
  rintro r M ⟨rfl, rfl⟩
  refine mo_X10_ifLeft (ok_X10_ifLeft M M K v1 h.1 h.2.1) ?_
  rintro r M ⟨rfl, rfl⟩
  exact ⟨rfl, q_inv_mono h (by omega)⟩
theorem st_together {g : xG} (v1 v2 : Int32) {K : Nat} {M : xM} (h : q_inv K M) : mi_X9_together g v1 v2 M (fun r N => mi_X10_together g v1 v2 N (fun r' N' => r = r' ∧ q_inv (K + 20) N')) := by
  refine mo_X9_together (ok_X9_together v1 v2 M K h.1) ?_
  rintro r M ⟨rfl, rfl⟩
  refine mo_X10_together (ok_X10_together M M K v1 v2 h.1 h.2.1) ?_
  rintro r M ⟨rfl, rfl⟩
  exact ⟨rfl, q_inv_mono h (by omega)⟩
theorem st_look2 {K : Nat} {M N N' : xM} (h : q_inv K M) (ho : ∀ a, a ≠ 191 → a ≠ 192 → N a = M a) (hR : RE M (N' 194)) (ho' : ∀ a, a ≠ 194 → a ≠ 195 → N' a = N a) : q_inv (K + 20) N' := by
  have fr : ∀ a, a ≠ 191 → a ≠ 192 → a ≠ 194 → a ≠ 195 → N' a = M a := fun a a1 a2 a3 a4 => by rw [ho' a a3 a4, ho a a1 a2]
  have k193 := fr 193 (by decide) (by decide) (by decide) (by decide)
  exact q_inv_mono (q_inv_look h hR (fun a ha => fr a (by omega) (by omega) (by omega) (by omega)) (by rw [k193]) (by rw [k193]) (fr 196 (by decide) (by decide) (by decide) (by decide)) (fr 197 (by decide) (by decide) (by decide) (by decide)) (fr 198 (by decide) (by decide) (by decide) (by decide)) (fr 199 (by decide) (by decide) (by decide) (by decide))) (by omega)
theorem st_turnOf {g : xG} (v1 v2 : Int32) {K : Nat} {M : xM} (h : q_inv K M) (hK : K + 20 < 1000000) : mi_X9_turnOf g v1 v2 M (fun r N => mi_X10_turnOf g v1 v2 N (fun r' N' => r = r' ∧ q_inv (K + 20) N')) := by
  refine mo_X9_turnOf (ok_X9_turnOf v1 v2 M K h.1) ?_
  rintro r N ⟨rfl, ho⟩
  refine mo_X10_turnOf (ok_X10_turnOf M N K v1 v2 h.1 hK (by rw [ho 194 (by decide) (by decide)]; exact h.2.1)) ?_
  rintro r N' ⟨rfl, hR, ho'⟩
  exact ⟨rfl, st_look2 h ho hR ho'⟩
theorem st_heldUpBy {g : xG} (v1 v2 : Int32) {K : Nat} {M : xM} (h : q_inv K M) (hK : K + 20 < 1000000) : mi_X9_heldUpBy g v1 v2 M (fun r N => mi_X10_heldUpBy g v1 v2 N (fun r' N' => r = r' ∧ q_inv (K + 20) N')) := by
  refine mo_X9_heldUpBy (ok_X9_heldUpBy v1 v2 M K h.1) ?_
  rintro r N ⟨rfl, ho⟩
  refine mo_X10_heldUpBy (ok_X10_heldUpBy M N K v1 v2 h.1 hK (by rw [ho 194 (by decide) (by decide)]; exact h.2.1)) ?_
  rintro r N' ⟨rfl, hR, ho'⟩
  exact ⟨rfl, st_look2 h ho hR ho'⟩
