theorem zm_all0 : ∀ mr ∈ [zm_m0, zm_m1, zm_m2, zm_m3, zm_m4, zm_m5, zm_m6, zm_m7, zm_m8, zm_m9, zm_m10, zm_m11, zm_m12, zm_m13, zm_m14, zm_m15, zm_m16, zm_m17, zm_m18, zm_m19, zm_m20, zm_m21, zm_m22, zm_m23], zm_mok zm_P zm_W zm_S zm_St zm_N mr := by
  simp only [List.forall_mem_cons]
  exact ⟨zm_ok0, zm_ok1, zm_ok2, zm_ok3, zm_ok4, zm_ok5, zm_ok6, zm_ok7, zm_ok8, zm_ok9, zm_ok10, zm_ok11, zm_ok12, zm_ok13, zm_ok14, zm_ok15, zm_ok16, zm_ok17, zm_ok18, zm_ok19, zm_ok20, zm_ok21, zm_ok22, zm_ok23, fun _ h => absurd h List.not_mem_nil⟩
theorem zm_all1 : ∀ mr ∈ [zm_m24, zm_m25, zm_m26, zm_m27, zm_m28, zm_m29, zm_m30, zm_m31, zm_m32, zm_m33, zm_m34, zm_m35, zm_m36, zm_m37, zm_m38, zm_m39, zm_m40, zm_m41, zm_m42, zm_m43, zm_m44, zm_m45, zm_m46, zm_m47], zm_mok zm_P zm_W zm_S zm_St zm_N mr := by
  simp only [List.forall_mem_cons]
  exact ⟨zm_ok24, zm_ok25, zm_ok26, zm_ok27, zm_ok28, zm_ok29, zm_ok30, zm_ok31, zm_ok32, zm_ok33, zm_ok34, zm_ok35, zm_ok36, zm_ok37, zm_ok38, zm_ok39, zm_ok40, zm_ok41, zm_ok42, zm_ok43, zm_ok44, zm_ok45, zm_ok46, zm_ok47, fun _ h => absurd h List.not_mem_nil⟩
theorem zm_all2 : ∀ mr ∈ [zm_m48, zm_m49, zm_m50, zm_m51, zm_m52, zm_m53, zm_m54, zm_m55, zm_m56, zm_m57, zm_m58, zm_m59, zm_m60, zm_m61, zm_m62, zm_m63, zm_m64, zm_m65, zm_m66, zm_m67, zm_m68, zm_m69, zm_m70, zm_m71], zm_mok zm_P zm_W zm_S zm_St zm_N mr := by
  simp only [List.forall_mem_cons]
  exact ⟨zm_ok48, zm_ok49, zm_ok50, zm_ok51, zm_ok52, zm_ok53, zm_ok54, zm_ok55, zm_ok56, zm_ok57, zm_ok58, zm_ok59, zm_ok60, zm_ok61, zm_ok62, zm_ok63, zm_ok64, zm_ok65, zm_ok66, zm_ok67, zm_ok68, zm_ok69, zm_ok70, zm_ok71, fun _ h => absurd h List.not_mem_nil⟩
theorem zm_all3 : ∀ mr ∈ [zm_m72, zm_m73, zm_m74, zm_m75, zm_m76, zm_m77, zm_m78, zm_m79, zm_m80, zm_m81, zm_m82, zm_m83, zm_m84, zm_m85, zm_m86, zm_m87, zm_m88, zm_m89, zm_m90, zm_m91, zm_m92, zm_m93, zm_m94, zm_m95], zm_mok zm_P zm_W zm_S zm_St zm_N mr := by
  simp only [List.forall_mem_cons]
  exact ⟨zm_ok72, zm_ok73, zm_ok74, zm_ok75, zm_ok76, zm_ok77, zm_ok78, zm_ok79, zm_ok80, zm_ok81, zm_ok82, zm_ok83, zm_ok84, zm_ok85, zm_ok86, zm_ok87, zm_ok88, zm_ok89, zm_ok90, zm_ok91, zm_ok92, zm_ok93, zm_ok94, zm_ok95, fun _ h => absurd h List.not_mem_nil⟩
theorem zm_all4 : ∀ mr ∈ [zm_m96, zm_m97, zm_m98, zm_m99, zm_m100, zm_m101, zm_m102, zm_m103, zm_m104, zm_m105, zm_m106, zm_m107, zm_m108, zm_m109, zm_m110, zm_m111, zm_m112, zm_m113, zm_m114, zm_m115, zm_m116, zm_m117, zm_m118, zm_m119], zm_mok zm_P zm_W zm_S zm_St zm_N mr := by
  simp only [List.forall_mem_cons]
  exact ⟨zm_ok96, zm_ok97, zm_ok98, zm_ok99, zm_ok100, zm_ok101, zm_ok102, zm_ok103, zm_ok104, zm_ok105, zm_ok106, zm_ok107, zm_ok108, zm_ok109, zm_ok110, zm_ok111, zm_ok112, zm_ok113, zm_ok114, zm_ok115, zm_ok116, zm_ok117, zm_ok118, zm_ok119, fun _ h => absurd h List.not_mem_nil⟩
theorem zm_all5 : ∀ mr ∈ [zm_m120, zm_m121, zm_m122, zm_m123, zm_m124, zm_m125, zm_m126, zm_m127, zm_m128, zm_m129, zm_m130, zm_m131, zm_m132, zm_m133, zm_m134, zm_m135, zm_m136, zm_m137, zm_m138, zm_m139, zm_m140, zm_m141, zm_m142, zm_m143], zm_mok zm_P zm_W zm_S zm_St zm_N mr := by
  simp only [List.forall_mem_cons]
  exact ⟨zm_ok120, zm_ok121, zm_ok122, zm_ok123, zm_ok124, zm_ok125, zm_ok126, zm_ok127, zm_ok128, zm_ok129, zm_ok130, zm_ok131, zm_ok132, zm_ok133, zm_ok134, zm_ok135, zm_ok136, zm_ok137, zm_ok138, zm_ok139, zm_ok140, zm_ok141, zm_ok142, zm_ok143, fun _ h => absurd h List.not_mem_nil⟩
theorem zm_all6 : ∀ mr ∈ [zm_m144, zm_m145, zm_m146, zm_m147, zm_m148, zm_m149, zm_m150, zm_m151, zm_m152, zm_m153, zm_m154, zm_m155, zm_m156, zm_m157, zm_m158, zm_m159, zm_m160, zm_m161, zm_m162, zm_m163, zm_m164, zm_m165, zm_m166, zm_m167], zm_mok zm_P zm_W zm_S zm_St zm_N mr := by
  simp only [List.forall_mem_cons]
  exact ⟨zm_ok144, zm_ok145, zm_ok146, zm_ok147, zm_ok148, zm_ok149, zm_ok150, zm_ok151, zm_ok152, zm_ok153, zm_ok154, zm_ok155, zm_ok156, zm_ok157, zm_ok158, zm_ok159, zm_ok160, zm_ok161, zm_ok162, zm_ok163, zm_ok164, zm_ok165, zm_ok166, zm_ok167, fun _ h => absurd h List.not_mem_nil⟩
theorem zm_all7 : ∀ mr ∈ [zm_m168, zm_m169, zm_m170, zm_m171, zm_m172, zm_m173, zm_m174, zm_m175, zm_m176, zm_m177, zm_m178, zm_m179, zm_m180, zm_m181, zm_m182, zm_m183, zm_m184, zm_m185, zm_m186, zm_m187, zm_m188, zm_m189, zm_m190, zm_m191], zm_mok zm_P zm_W zm_S zm_St zm_N mr := by
  simp only [List.forall_mem_cons]
  exact ⟨zm_ok168, zm_ok169, zm_ok170, zm_ok171, zm_ok172, zm_ok173, zm_ok174, zm_ok175, zm_ok176, zm_ok177, zm_ok178, zm_ok179, zm_ok180, zm_ok181, zm_ok182, zm_ok183, zm_ok184, zm_ok185, zm_ok186, zm_ok187, zm_ok188, zm_ok189, zm_ok190, zm_ok191, fun _ h => absurd h List.not_mem_nil⟩
theorem zm_all8 : ∀ mr ∈ [zm_m192, zm_m193, zm_m194, zm_m195, zm_m196, zm_m197, zm_m198, zm_m199, zm_m200, zm_m201, zm_m202, zm_m203, zm_m204, zm_m205, zm_m206, zm_m207, zm_m208, zm_m209, zm_m210, zm_m211, zm_m212, zm_m213, zm_m214, zm_m215], zm_mok zm_P zm_W zm_S zm_St zm_N mr := by
  simp only [List.forall_mem_cons]
  exact ⟨zm_ok192, zm_ok193, zm_ok194, zm_ok195, zm_ok196, zm_ok197, zm_ok198, zm_ok199, zm_ok200, zm_ok201, zm_ok202, zm_ok203, zm_ok204, zm_ok205, zm_ok206, zm_ok207, zm_ok208, zm_ok209, zm_ok210, zm_ok211, zm_ok212, zm_ok213, zm_ok214, zm_ok215, fun _ h => absurd h List.not_mem_nil⟩
theorem zm_all9 : ∀ mr ∈ [zm_m216, zm_m217, zm_m218, zm_m219, zm_m220, zm_m221, zm_m222, zm_m223, zm_m224, zm_m225, zm_m226, zm_m227, zm_m228, zm_m229, zm_m230, zm_m231, zm_m232, zm_m233, zm_m234, zm_m235, zm_m236, zm_m237, zm_m238, zm_m239], zm_mok zm_P zm_W zm_S zm_St zm_N mr := by
  simp only [List.forall_mem_cons]
  exact ⟨zm_ok216, zm_ok217, zm_ok218, zm_ok219, zm_ok220, zm_ok221, zm_ok222, zm_ok223, zm_ok224, zm_ok225, zm_ok226, zm_ok227, zm_ok228, zm_ok229, zm_ok230, zm_ok231, zm_ok232, zm_ok233, zm_ok234, zm_ok235, zm_ok236, zm_ok237, zm_ok238, zm_ok239, fun _ h => absurd h List.not_mem_nil⟩
theorem zm_all10 : ∀ mr ∈ [zm_m240, zm_m241, zm_m242, zm_m243, zm_m244, zm_m245, zm_m246, zm_m247, zm_m248, zm_m249, zm_m250, zm_m251, zm_m252, zm_m253, zm_m254, zm_m255, zm_m256, zm_m257, zm_m258, zm_m259, zm_m260, zm_m261, zm_m262, zm_m263], zm_mok zm_P zm_W zm_S zm_St zm_N mr := by
  simp only [List.forall_mem_cons]
  exact ⟨zm_ok240, zm_ok241, zm_ok242, zm_ok243, zm_ok244, zm_ok245, zm_ok246, zm_ok247, zm_ok248, zm_ok249, zm_ok250, zm_ok251, zm_ok252, zm_ok253, zm_ok254, zm_ok255, zm_ok256, zm_ok257, zm_ok258, zm_ok259, zm_ok260, zm_ok261, zm_ok262, zm_ok263, fun _ h => absurd h List.not_mem_nil⟩
theorem zm_all11 : ∀ mr ∈ [zm_m264, zm_m265, zm_m266, zm_m267, zm_m268, zm_m269, zm_m270, zm_m271, zm_m272, zm_m273, zm_m274, zm_m275, zm_m276, zm_m277, zm_m278, zm_m279, zm_m280, zm_m281, zm_m282, zm_m283, zm_m284, zm_m285, zm_m286, zm_m287], zm_mok zm_P zm_W zm_S zm_St zm_N mr := by
  simp only [List.forall_mem_cons]
  exact ⟨zm_ok264, zm_ok265, zm_ok266, zm_ok267, zm_ok268, zm_ok269, zm_ok270, zm_ok271, zm_ok272, zm_ok273, zm_ok274, zm_ok275, zm_ok276, zm_ok277, zm_ok278, zm_ok279, zm_ok280, zm_ok281, zm_ok282, zm_ok283, zm_ok284, zm_ok285, zm_ok286, zm_ok287, fun _ h => absurd h List.not_mem_nil⟩
theorem zm_all12 : ∀ mr ∈ [zm_m288, zm_m289, zm_m290, zm_m291, zm_m292, zm_m293, zm_m294, zm_m295, zm_m296], zm_mok zm_P zm_W zm_S zm_St zm_N mr := by
  simp only [List.forall_mem_cons]
  exact ⟨zm_ok288, zm_ok289, zm_ok290, zm_ok291, zm_ok292, zm_ok293, zm_ok294, zm_ok295, zm_ok296, fun _ h => absurd h List.not_mem_nil⟩
set_option maxRecDepth 100000 in
theorem zm_PL_eq : zm_PL = [zm_m0, zm_m1, zm_m2, zm_m3, zm_m4, zm_m5, zm_m6, zm_m7, zm_m8, zm_m9, zm_m10, zm_m11, zm_m12, zm_m13, zm_m14, zm_m15, zm_m16, zm_m17, zm_m18, zm_m19, zm_m20, zm_m21, zm_m22, zm_m23] ++ ([zm_m24, zm_m25, zm_m26, zm_m27, zm_m28, zm_m29, zm_m30, zm_m31, zm_m32, zm_m33, zm_m34, zm_m35, zm_m36, zm_m37, zm_m38, zm_m39, zm_m40, zm_m41, zm_m42, zm_m43, zm_m44, zm_m45, zm_m46, zm_m47] ++ ([zm_m48, zm_m49, zm_m50, zm_m51, zm_m52, zm_m53, zm_m54, zm_m55, zm_m56, zm_m57, zm_m58, zm_m59, zm_m60, zm_m61, zm_m62, zm_m63, zm_m64, zm_m65, zm_m66, zm_m67, zm_m68, zm_m69, zm_m70, zm_m71] ++ ([zm_m72, zm_m73, zm_m74, zm_m75, zm_m76, zm_m77, zm_m78, zm_m79, zm_m80, zm_m81, zm_m82, zm_m83, zm_m84, zm_m85, zm_m86, zm_m87, zm_m88, zm_m89, zm_m90, zm_m91, zm_m92, zm_m93, zm_m94, zm_m95] ++ ([zm_m96, zm_m97, zm_m98, zm_m99, zm_m100, zm_m101, zm_m102, zm_m103, zm_m104, zm_m105, zm_m106, zm_m107, zm_m108, zm_m109, zm_m110, zm_m111, zm_m112, zm_m113, zm_m114, zm_m115, zm_m116, zm_m117, zm_m118, zm_m119] ++ ([zm_m120, zm_m121, zm_m122, zm_m123, zm_m124, zm_m125, zm_m126, zm_m127, zm_m128, zm_m129, zm_m130, zm_m131, zm_m132, zm_m133, zm_m134, zm_m135, zm_m136, zm_m137, zm_m138, zm_m139, zm_m140, zm_m141, zm_m142, zm_m143] ++ ([zm_m144, zm_m145, zm_m146, zm_m147, zm_m148, zm_m149, zm_m150, zm_m151, zm_m152, zm_m153, zm_m154, zm_m155, zm_m156, zm_m157, zm_m158, zm_m159, zm_m160, zm_m161, zm_m162, zm_m163, zm_m164, zm_m165, zm_m166, zm_m167] ++ ([zm_m168, zm_m169, zm_m170, zm_m171, zm_m172, zm_m173, zm_m174, zm_m175, zm_m176, zm_m177, zm_m178, zm_m179, zm_m180, zm_m181, zm_m182, zm_m183, zm_m184, zm_m185, zm_m186, zm_m187, zm_m188, zm_m189, zm_m190, zm_m191] ++ ([zm_m192, zm_m193, zm_m194, zm_m195, zm_m196, zm_m197, zm_m198, zm_m199, zm_m200, zm_m201, zm_m202, zm_m203, zm_m204, zm_m205, zm_m206, zm_m207, zm_m208, zm_m209, zm_m210, zm_m211, zm_m212, zm_m213, zm_m214, zm_m215] ++ ([zm_m216, zm_m217, zm_m218, zm_m219, zm_m220, zm_m221, zm_m222, zm_m223, zm_m224, zm_m225, zm_m226, zm_m227, zm_m228, zm_m229, zm_m230, zm_m231, zm_m232, zm_m233, zm_m234, zm_m235, zm_m236, zm_m237, zm_m238, zm_m239] ++ ([zm_m240, zm_m241, zm_m242, zm_m243, zm_m244, zm_m245, zm_m246, zm_m247, zm_m248, zm_m249, zm_m250, zm_m251, zm_m252, zm_m253, zm_m254, zm_m255, zm_m256, zm_m257, zm_m258, zm_m259, zm_m260, zm_m261, zm_m262, zm_m263] ++ ([zm_m264, zm_m265, zm_m266, zm_m267, zm_m268, zm_m269, zm_m270, zm_m271, zm_m272, zm_m273, zm_m274, zm_m275, zm_m276, zm_m277, zm_m278, zm_m279, zm_m280, zm_m281, zm_m282, zm_m283, zm_m284, zm_m285, zm_m286, zm_m287] ++ ([zm_m288, zm_m289, zm_m290, zm_m291, zm_m292, zm_m293, zm_m294, zm_m295, zm_m296])))))))))))) := rfl
theorem zm_P_ok : ∀ (mi : Nat) (mr : zm_M), zm_P mi = some mr → zm_mok zm_P zm_W zm_S zm_St zm_N mr := by
  intro mi mr hm
  have h := List.mem_of_getElem? hm
  rw [zm_PL_eq] at h
  simp only [List.mem_append] at h
  rcases h with h | h | h | h | h | h | h | h | h | h | h | h | h
  · exact zm_all0 _ h
  · exact zm_all1 _ h
  · exact zm_all2 _ h
  · exact zm_all3 _ h
  · exact zm_all4 _ h
  · exact zm_all5 _ h
  · exact zm_all6 _ h
  · exact zm_all7 _ h
  · exact zm_all8 _ h
  · exact zm_all9 _ h
  · exact zm_all10 _ h
  · exact zm_all11 _ h
  · exact zm_all12 _ h
