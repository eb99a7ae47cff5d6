/** The Terms of the document, sentence by sentence: their bounds, what is cut, what is left, none, and all. */
final class EdgesTerms {
  private static Script terms(String sentence) {
    return Script.on(Doc.TERMS, sentence);
  }

  // ---- the part marked 1

  static void terms1_years() {
    terms("YEARS are 0 to 11.")
        .bounds("place(#, 5, 5, 1)", 0, 11).bounds("lack(#)", 0, 11).bounds("year(#, 0)", 0, 11)
        .bounds("harm(0, 0, #, 1)", 0, 11).harmYears("harm(#, 1)").is("told(7)", 4095);
  }

  static void terms1_layersNumbered() {
    Script s = terms("LAYERS are numbered from 0 on, 40 at most");
    for (int k = 0; k < 39; k++) s.is(Desks.layers(39).get(k), k);
    s.is("told(0)", 39).missing("layer(39, 0)").is("place(11, 0, 1, 1)", 39).is("told(0)", 40).is("layer(39, 0)", 11)
        .unfit("place(10, 0, 1, 1)").unfit("place(11, 900000000, 1, 1)").missing("layer(40, 0)").is("told(0)", 40)
        .is("back()", 39).is("place(10, 0, 1, 1)", 39).unfit("place(11, 0, 1, 1)");
  }

  static void terms1_sixOfOneYear() {
    Script s = terms("6 at most of one YEAR");
    for (int k = 0; k < 5; k++) s.is("place(4, " + 10 * k + ", 10, 1)", k);
    s.is("place(4, 50, 10, 1)", 5).is("year(4, 0)", 6).unfit("place(4, 60, 10, 1)").unfit("place(4, 900000000, 1, 1)")
        .is("year(4, 0)", 6).is("rung(4, 5)", 5).is("rung(4, 6)", -1).is("place(5, 60, 10, 1)", 6)
        .is("back()", 6).is("back()", 5).is("place(4, 60, 10, 1)", 5).unfit("place(4, 50, 10, 1)");
  }

  static void terms1_from() {
    terms("a LAYER has a FROM (0 to 900,000,000)").bounds("place(3, #, 100000000, 4)", 0, 900000000)
        .go("place(3, 0, 1, 1)", "place(3, 900000000, 1, 1)").is("layer(0, 1)", 0).is("layer(1, 1)", 900000000)
        .is("at(3, 900000000)", 1).is("at(3, 899999999)", -1);
  }

  static void terms1_size() {
    terms("a SIZE (1 to 100,000,000)").bounds("place(3, 900000000, #, 4)", 1, 100000000)
        .go("place(3, 0, 1, 1)", "place(3, 900000000, 100000000, 1)").is("layer(0, 2)", 1).is("layer(1, 2)", 100000000)
        .is("year(3, 2)", 1000000000);
  }

  static void terms1_times() {
    terms("TIMES (1 to 4)").bounds("place(3, 900000000, 100000000, #)", 1, 4)
        .go("place(3, 0, 7, 1)", "place(3, 7, 7, 4)").is("layer(0, 5)", 7).is("layer(1, 5)", 28);
  }

  static void terms1_fromUpToTop() {
    terms("it lies from FROM up to its TOP, FROM and SIZE").go("place(2, 30, 20, 1)")
        .is("at(2, 29)", -1).is("at(2, 30)", 0).is("at(2, 49)", 0).is("at(2, 50)", -2).is("cover(2, 30, 50)", 20)
        .is("cover(2, 0, 30)", 0).is("cover(2, 50, 1000000000)", 0).is("year(2, 2)", 50);
  }

  static void terms1_nothingInCommon() {
    terms("two of one YEAR have nothing in common").go("place(0, 100, 50, 1)")
        .unfit("place(0, 100, 50, 1)").unfit("place(0, 100, 1, 1)").unfit("place(0, 149, 1, 1)").unfit("place(0, 149, 2, 1)")
        .unfit("place(0, 99, 2, 1)").unfit("place(0, 0, 101, 1)").unfit("place(0, 0, 900, 1)").unfit("place(0, 120, 5, 1)")
        .is("place(1, 100, 50, 1)", 1).is("told(0)", 2);
  }

  static void terms1_oneMayBeginWhereAnotherEnds() {
    terms("(one may begin where another one ends)").go("place(0, 100, 50, 1)")
        .is("place(0, 99, 1, 1)", 1).is("place(0, 150, 1, 1)", 2).unfit("place(0, 98, 2, 1)").unfit("place(0, 150, 2, 1)")
        .is("place(0, 98, 1, 1)", 3).is("place(0, 151, 900, 1)", 4)
        .go("place(5, 900000000, 100000000, 1)").unfit("place(5, 899999999, 2, 1)").unfit("place(5, 800000001, 100000000, 1)")
        .is("place(5, 800000000, 100000000, 1)", 6);
  }

  static void terms1_insurers() {
    terms("It is SIGNED by INSURERS (0 to 9; 0 is the INSURED)").go("place(0, 0, 100, 1)").bounds("sign(0, #, 5)", 0, 9)
        .go("sign(0, 0, 5)", "sign(0, 9, 5)", "harm(0, 0, 0, 10)")
        .is("falls(0, 0)", 5).is("bears(0, 0)", 5).is("bears(0, 9)", 5);
  }

  static void terms1_fourSign() {
    terms("4 at most, each for some tenths").go("place(0, 0, 100, 1)", "sign(0, 1, 1)", "sign(0, 2, 1)", "sign(0, 3, 1)")
        .is("sign(0, 4, 1)", 6).unfit("sign(0, 5, 1)").unfit("sign(0, 0, 1)").is("layer(0, 7)", 4).is("layer(0, 8)", 6)
        .is("signed(0, 3, 0)", 4).is("signed(0, 4, 0)", -1).bounds("holds(#, 0, 5)", 0, 9);
  }

  static void terms1_tenTenths() {
    terms("10 at most together").go("place(0, 0, 100, 1)", "place(0, 100, 100, 1)")
        .is("sign(0, 1, 10)", 0).unfit("sign(0, 2, 1)")
        .is("sign(1, 1, 4)", 6).unfit("sign(1, 2, 7)").unfit("sign(1, 2, 10)").is("sign(1, 2, 6)", 0).unfit("sign(1, 3, 1)")
        .is("layer(1, 7)", 2);
  }

  static void terms1_holeBelow() {
    terms("A HOLE of a LAYER: what lies between its FROM and the TOP of the next one below it of its YEAR (0 without).")
        .go("place(0, 30, 10, 1)").is("layer(0, 6)", 30)
        .go("place(1, 5, 20, 1)").is("layer(0, 6)", 30)
        .go("place(0, 0, 20, 1)").is("layer(0, 6)", 10).is("layer(2, 6)", 0)
        .go("place(0, 50, 5, 1)").is("layer(0, 6)", 10).is("layer(3, 6)", 10)
        .go("place(0, 20, 10, 1)").is("layer(0, 6)", 0).is("layer(4, 6)", 0).is("layer(3, 6)", 10).is("year(0, 4)", 10)
        .go("place(7, 900000000, 1, 1)").is("layer(5, 6)", 900000000);
  }

  static void terms1_gapsAndLacks() {
    terms("A YEAR is a GAP, if it has no LAYERS; it LACKS, if that was told of it (it can't have LAYERS then).")
        .is("told(6)", 0).is("told(7)", 4095).go("lack(0)", "lack(11)").is("told(6)", 2049).is("told(7)", 4095)
        .unfit("place(0, 0, 1, 1)").unfit("place(11, 900000000, 100000000, 4)")
        .go("place(10, 0, 1, 1)").is("told(7)", 3071).unfit("lack(10)").is("told(6)", 2049)
        .is("back()", 2).is("told(7)", 4095).is("lack(10)", 3).unfit("place(10, 0, 1, 1)");
  }

  static void terms1_soundAtFirst() {
    Script s = terms("INSURERS 1 to 9 are SOUND at first, or SETTLED, or FALLEN.");
    for (int i = 0; i < 10; i++) s.is("insurer(" + i + ", 1)", 0);
    s.wrong("settle(0, 1)").wrong("fall(0)").go("settle(1, 0)", "fall(9)").is("insurer(1, 1)", 1).is("insurer(9, 1)", 2);
    for (int i = 2; i < 9; i++) s.is("insurer(" + i + ", 1)", 0);
  }

  static void terms1_harmsNumbered() {
    Script s = terms("HARMS are numbered from 0 on, 24 at most");
    for (int h = 0; h < 23; h++) s.is("harm(0, 0, 0, 1)", h);
    s.missing("damage(23, 0)").is("harm(1, 2, 3, 4)", 23).is("damage(23, 1)", 2).is("told(1)", 24)
        .unfit("harm(1, 2, 3, 4)").missing("damage(24, 0)").is("told(1)", 24).is("told(2)", 24)
        .is("back()", 23).is("harm(5, 6, 7, 8)", 23).unfit("harm(5, 6, 7, 8)");
  }

  static void terms1_firstLastShown() {
    terms("(FIRST not behind LAST, that not behind SHOWN)")
        .is("harm(3, 3, 3, 1)", 0).is("harm(3, 4, 4, 1)", 1).is("harm(3, 3, 4, 1)", 2)
        .wrong("harm(4, 3, 4, 1)").wrong("harm(4, 3, 3, 1)").wrong("harm(3, 4, 3, 1)").wrong("harm(3, 3, 2, 1)")
        .wrong("harm(5, 4, 3, 1)").harmYears("offs(#, 0)");
  }

  static void terms1_loss() {
    terms("a LOSS (1 to 1,000,000,000; it may GROW)").bounds("harm(0, 0, 0, #)", 1, 1000000000)
        .go("harm(0, 0, 0, 1000000000)").bounds("grow(0, #)", 1, 1000000000)
        // By growing a loss may be more than it can be told at first, and more than an int.
        .go("grow(0, 1)").is("damage(0, 3)", 1000000001).go("grow(0, 1000000000)", "grow(0, 1000000000)")
        .is("damage(0, 3)", 3000000001L).is("damage(0, 4)", 3000000001L).is("burden(3)", 3000000001L);
  }

  static void terms1_rules() {
    terms("RULES are three numbers, 0 to 3 each (at first 0)").is("told(3)", 0).is("told(4)", 0).is("told(5)", 0)
        .bounds("rules(#, 1, 1)", 0, 3).bounds("rules(1, #, 1)", 0, 3).bounds("rules(1, 1, #)", 0, 3).is("rules(0, 0, 0)", 0)
        .go("rules(3, 3, 3)").is("told(3)", 3).is("told(4)", 3).is("told(5)", 3);
  }

  static void terms1_yearsSetOff() {
    Script s = terms("YEARS SET OFF by TRIGGER: 0 FIRST to LAST, 1 SHOWN, 2 FIRST to SHOWN, 3 FIRST to LAST, and SHOWN.");
    s.is("offs(2, 4, 7, 0)", 4 + 8 + 16).is("offs(2, 4, 7, 1)", 128).is("offs(2, 4, 7, 2)", 4 + 8 + 16 + 32 + 64 + 128)
        .is("offs(2, 4, 7, 3)", 4 + 8 + 16 + 128).is("offs(2, 4, 4, 3)", 4 + 8 + 16).is("offs(2, 4, 5, 3)", 4 + 8 + 16 + 32);
    for (int trigger = 0; trigger < 4; trigger++) {
      s.is("offs(0, 0, 0, " + trigger + ")", 1).is("offs(11, 11, 11, " + trigger + ")", 2048)
          .is("offs(0, 11, 11, " + trigger + ")", trigger == 1 ? 2048 : 4095)
          .is("offs(0, 0, 11, " + trigger + ")", new int[] {1, 2048, 4095, 2049}[trigger]);
    }
    s.go("place(2, 0, 9, 1)", "place(3, 0, 9, 1)", "place(4, 0, 9, 1)", "harm(2, 2, 4, 6)").is("took(0, 0)", 6)
        .go("rules(1, 0, 0)", "harm(2, 2, 4, 6)").is("took(1, 2)", 6)
        .go("rules(3, 0, 0)", "harm(2, 2, 4, 6)").is("took(2, 0)", 3).is("took(2, 1)", 0).is("took(2, 2)", 3)
        .go("rules(2, 0, 0)", "harm(2, 2, 4, 3)").is("took(3, 1)", 1);
  }

  static void terms1_events() {
    terms("each that was not refused is one, 160 at most (rules() that changes nothing is none)")
        .is("rules(0, 0, 0)", 0).is("told(2)", 0).wrong("place(0, 0, 0, 1)").missing("sign(0, 1, 1)").is("told(2)", 0)
        .go("lack(3)").unfit("lack(3)").is("told(2)", 1).go("place(0, 0, 10, 1)", "harm(0, 0, 0, 1)")
        .go(Desks.times(156, "grow(0, 1)")).is("told(2)", 159).is("rules(0, 0, 0)", 0).is("told(2)", 159)
        .is("rules(0, 0, 1)", 1).is("told(2)", 160).is("rules(0, 0, 1)", 0).is("told(2)", 160)
        .unfit("rules(0, 0, 0)").unfit("grow(0, 1)").is("event(159, 0)", 3).missing("event(160, 0)");
  }

  // ---- the part marked 2

  static void terms2_left() {
    terms("it has LEFT: SIZE times TIMES, less USED.").go("place(0, 0, 10, 3)").is("layer(0, 5)", 30)
        .go("harm(0, 0, 0, 10)").is("layer(0, 4)", 10).is("layer(0, 5)", 20)
        .go("harm(0, 0, 0, 9)").is("layer(0, 4)", 19).is("layer(0, 5)", 11)
        .go("harm(0, 0, 0, 10)").is("layer(0, 4)", 29).is("layer(0, 5)", 1).is("layer(0, 10)", 0)
        .go("harm(0, 0, 0, 10)").is("layer(0, 4)", 30).is("layer(0, 5)", 0).is("layer(0, 10)", 1)
        .go("harm(0, 0, 0, 10)").is("layer(0, 4)", 30).is("layer(0, 5)", 0).is("falls(4, 2)", 10)
        .go("place(1, 0, 100000000, 4)").is("layer(1, 5)", 400000000);
  }

  static void terms2_canTake() {
    terms("Of one HARM it CAN take: SIZE less what it took of that, or LEFT, if that is less.")
        .go("place(0, 0, 10, 2)", "harm(0, 0, 0, 9)", "grow(0, 1)").is("took(0, 0)", 10)
        .go("grow(0, 1)").is("took(0, 0)", 10).is("falls(0, 2)", 1).is("layer(0, 5)", 10)
        .is("takes(0, 0, 0, 9, 0)", 9).is("takes(0, 0, 0, 10, 0)", 10).is("takes(0, 0, 0, 11, 0)", 10)
        .go("harm(0, 0, 0, 3)").is("takes(0, 0, 0, 11, 0)", 7).go("grow(1, 20)").is("took(1, 0)", 10).is("falls(1, 2)", 13)
        .is("takes(0, 0, 0, 1, 0)", 0);
  }

  static void terms2_room() {
    terms("of all of its LAYERS what these CAN take, and of their HOLES what lies in them")
        .go("place(0, 10, 20, 1)", "place(0, 40, 5, 1)", "rules(0, 3, 0)")
        .is("drops(0, 0, 0, 45, 2)", 0).is("drops(0, 0, 0, 46, 2)", 1)
        .go("place(1, 0, 46, 1)", "rules(0, 2, 0)").is("picks(0, 1, 1, 0)", 1)
        .go("harm(1, 1, 1, 1)").is("picks(0, 1, 1, 0)", 0).is("back()", 5).is("picks(0, 1, 1, 0)", 1);
  }

  static void terms2_roomZeroAtLeast() {
    // The harm went through 30 of a hole of 50; a layer from 10 to 45 leaves a hole of 5 there: for that harm 0, not -25.
    terms("less what of that one the HARM went through by now (0 at least; a LAYER that comes later may make it less)")
        .go("place(0, 50, 10, 1)", "place(1, 0, 100, 1)", "harm(0, 0, 1, 30)").is("hole(0, 0)", 30)
        .go("place(0, 10, 35, 1)").is("layer(0, 6)", 5).is("hole(0, 0)", 30).is("layer(2, 6)", 10)
        // Room of year 0 is 10 and 35 and 10, of year 1 100: by level all of 155 is taken, one more is above.
        .go("rules(2, 3, 0)", "grow(0, 156)").is("falls(0, 2)", 1).is("took(0, 0)", 10).is("took(0, 2)", 35)
        .is("took(0, 1)", 100).is("hole(0, 0)", 30).is("hole(0, 2)", 10).is("falls(0, 1)", 40);
  }

  static void terms2_roomZeroAtLeastPicks() {
    terms("0 the most ROOM first")
        .go("place(0, 50, 10, 1)", "place(1, 0, 54, 1)", "harm(0, 0, 1, 30)", "place(0, 10, 35, 1)", "rules(2, 2, 0)")
        // Room of year 0 is 55 for that harm, one more than that of year 1: what is more goes into the new hole.
        .go("grow(0, 1)").is("hole(0, 2)", 1).is("took(0, 1)", 0)
        // Now 54 each: the lesser year is first.
        .go("grow(0, 1)").is("hole(0, 2)", 2).is("took(0, 1)", 0)
        // Now 53 of year 0: year 1 is first; half of what it paid is fair, and no layer is in debt.
        .go("grow(0, 2)").is("hole(0, 2)", 2).is("took(0, 1)", 2);
  }

  static void terms2_fill() {
    Script s = terms("first the HOLE of it takes what it may (likewise), then the LAYER what it CAN; till nothing is left; "
        + "what is left behind all LAYERS is OVER.");
    s.go("place(0, 30, 10, 1)", "place(0, 10, 10, 1)");
    // Of an amount: in layer 1 (the lowest one), in layer 0, in holes, above.
    long[][] due = {{1, 0, 0, 1, 0}, {9, 0, 0, 9, 0}, {10, 0, 0, 10, 0}, {11, 1, 0, 10, 0}, {20, 10, 0, 10, 0}, {21, 10, 0, 11, 0},
      {30, 10, 0, 20, 0}, {31, 10, 1, 20, 0}, {39, 10, 9, 20, 0}, {40, 10, 10, 20, 0}, {41, 10, 10, 20, 1}};
    for (long[] d : due) {
      s.is("takes(0, 0, 0, " + d[0] + ", 1)", d[1]).is("takes(0, 0, 0, " + d[0] + ", 0)", d[2])
          .is("drops(0, 0, 0, " + d[0] + ", 1)", d[3]).is("drops(0, 0, 0, " + d[0] + ", 2)", d[4]);
    }
    s.go("harm(0, 0, 0, 5)", "grow(0, 5)", "grow(0, 1)").is("hole(0, 1)", 10).is("took(0, 1)", 1);
  }

  static void terms2_filledPastWhatIsUsedUp() {
    terms("To FILL a YEAR with an amount, for a HARM: LAYER by LAYER, from the lowest one")
        .go("place(0, 20, 10, 1)", "place(0, 0, 10, 1)", "harm(0, 0, 0, 10)").is("took(0, 1)", 10).is("took(0, 0)", 0)
        // The lowest one is used up: what is left goes on up, through the hole.
        .is("takes(0, 0, 0, 15, 1)", 0).is("takes(0, 0, 0, 10, 0)", 0).is("takes(0, 0, 0, 11, 0)", 1)
        .is("takes(0, 0, 0, 20, 0)", 10).is("drops(0, 0, 0, 21, 2)", 1).is("drops(0, 0, 0, 21, 1)", 10);
  }

  static void terms2_sharesCut() {
    Script s = terms("of each the amount times it, by all WEIGHTS together, cut; "
        + "what is left by that by ones to the first ones whose WEIGHT is above 0.");
    s.go("lack(1)");
    // Years 0, 2 and 3 have like weights; year 1 lacks, so that no one is left for it.
    long[][] due = {{1, 1, 0, 0}, {2, 1, 1, 0}, {3, 1, 1, 1}, {4, 2, 1, 1}, {5, 2, 2, 1}, {6, 2, 2, 2},
      {1000000000, 333333334, 333333333, 333333333}};
    for (long[] d : due) {
      s.is("share(0, 3, 3, " + d[0] + ", 0)", d[1]).is("share(0, 3, 3, " + d[0] + ", 1)", 0)
          .is("share(0, 3, 3, " + d[0] + ", 2)", d[2]).is("share(0, 3, 3, " + d[0] + ", 3)", d[3]);
    }
  }

  static void terms2_sharesOfNoWeight() {
    // Layer 0 pays just what is fair: nothing of the one that is left by cutting is for it.
    terms("SHARES of an amount by WEIGHTS (one at least above 0)")
        .go("place(0, 0, 4, 1)", "place(1, 0, 4, 1)", "place(1, 4, 4, 1)", "place(2, 0, 4, 1)", "rules(0, 2, 3)")
        // 12 in turn: 4, 4, 4, 0. Fair: 4, 4, 0, 4. Excess 4 of layer 2, debt 4 of layer 3.
        .is("uneven(0, 2, 2, 12, 0)", 0).is("uneven(0, 2, 2, 12, 1)", 0).is("uneven(0, 2, 2, 12, 2)", 4)
        .is("uneven(0, 2, 2, 12, 3)", -4).go("harm(0, 2, 2, 12)")
        .is("moved(0, 0)", 0).is("moved(0, 1)", 0).is("moved(0, 2)", -4).is("moved(0, 3)", 4);
  }

  static void terms2_growsLikewise() {
    terms("A LOSS (what it GROWS by likewise) is SPREAD, by RULES as they are then")
        .go("place(0, 0, 50, 1)", "place(1, 0, 50, 1)", "harm(0, 0, 1, 7)").is("took(0, 0)", 7)
        .go("rules(1, 0, 0)").is("took(0, 0)", 7).go("grow(0, 5)").is("took(0, 0)", 7).is("took(0, 1)", 5)
        .go("rules(2, 0, 0)", "grow(0, 3)").is("took(0, 0)", 9).is("took(0, 1)", 6);
  }

  static void terms2_spread0Years() {
    terms("SPREAD 0: over YEARS SET OFF that do not LACK, by SHARES of like WEIGHTS, in order of YEARS")
        .go("place(0, 0, 90, 1)", "place(1, 0, 10, 4)", "lack(2)", "place(4, 0, 90, 1)")
        // Years 0, 1 and 3 alike, whatever their sizes; of 8 the first two have one more.
        .is("takes(0, 3, 3, 8, 0)", 3).is("takes(0, 3, 3, 8, 1)", 3).is("drops(0, 3, 3, 8, 3)", 2).is("takes(0, 3, 3, 8, 2)", 0)
        .is("takes(0, 3, 3, 7, 0)", 3).is("takes(0, 3, 3, 7, 1)", 2).is("takes(0, 3, 3, 1, 0)", 1).is("takes(1, 3, 3, 1, 1)", 1)
        .is("takes(2, 4, 4, 3, 2)", 1).is("drops(2, 4, 4, 3, 3)", 2).is("takes(2, 4, 4, 1, 2)", 0);
  }

  static void terms2_spread0() {
    terms("each is FILLED with its own (all of a GAP: GAPS; OVER: ABOVE).")
        .go("place(0, 0, 5, 1)", "place(2, 3, 5, 1)", "lack(3)")
        // 26 over years 0, 1, 2: 9, 9, 8.
        .is("takes(0, 3, 3, 26, 0)", 5).is("takes(0, 3, 3, 26, 1)", 5).is("drops(0, 3, 3, 26, 1)", 3)
        .is("drops(0, 3, 3, 26, 2)", 4).is("drops(0, 3, 3, 26, 3)", 9).is("drops(0, 3, 3, 26, 4)", 10)
        .is("drops(0, 3, 3, 16, 2)", 1).is("drops(0, 3, 3, 15, 2)", 0);
  }

  static void terms2_spread0None() {
    terms("Are there none, all of it: GAPS.").go("lack(4)", "lack(5)", "place(6, 0, 10, 1)")
        .is("drops(4, 5, 5, 9, 3)", 9).is("drops(4, 4, 4, 1, 3)", 1).is("share(4, 5, 5, 9, 4)", 0).is("share(4, 5, 5, 9, 5)", 0)
        .is("drops(4, 6, 6, 9, 3)", 0).is("takes(4, 6, 6, 9, 0)", 9)
        .go("rules(0, 1, 0)").is("drops(4, 5, 5, 9, 3)", 9).is("takes(4, 6, 6, 9, 0)", 9)
        .go("harm(4, 5, 6, 1000000000)").is("falls(0, 3)", 1000000000).is("bears(0, 0)", 1000000000);
  }

  static void terms2_spread1() {
    terms("SPREAD 1: likewise, by WEIGHTS: SIZES of its LAYERS together").go("place(0, 7, 3, 4)", "place(0, 0, 4, 2)", "place(1, 50, 3, 1)")
        .is("weight(0, 1, 1, 0)", 7).is("weight(0, 1, 1, 1)", 3).go("rules(0, 1, 0)")
        // 11 by 7 and 3 of 10: 7 and 3 (cut), one more for year 0.
        .is("takes(0, 1, 1, 11, 1)", 4).is("drops(0, 1, 1, 11, 1)", 3 + 3).is("takes(0, 1, 1, 11, 0)", 1)
        .is("takes(0, 0, 0, 11, 0)", 3).is("drops(0, 0, 0, 11, 2)", 1);
  }

  static void terms2_spread1Gap() {
    terms("of a GAP these of all that are no GAPS together, by how many these are (cut)")
        .go("place(0, 0, 3, 1)", "place(2, 0, 4, 1)", "lack(3)", "place(5, 0, 900, 1)")
        .is("weight(0, 2, 2, 1)", 3).is("weight(0, 3, 3, 1)", 3).is("weight(0, 4, 4, 1)", 3).is("weight(0, 4, 4, 4)", 3)
        .is("weight(0, 4, 4, 3)", 0).is("weight(0, 1, 1, 1)", 3).is("weight(1, 2, 2, 1)", 4).is("weight(0, 5, 5, 1)", 302)
        .go("rules(0, 1, 0)").is("drops(0, 2, 2, 10, 3)", 3).is("drops(0, 2, 2, 11, 3)", 3).is("drops(0, 2, 2, 12, 3)", 4);
  }

  static void terms2_spread1GapsAtBothEnds() {
    terms("of a GAP these of all that are no GAPS together").go("place(1, 0, 3, 1)", "place(10, 0, 8, 1)")
        .is("weight(0, 1, 1, 0)", 3).is("weight(0, 11, 11, 0)", 5).is("weight(0, 11, 11, 11)", 5).is("weight(10, 11, 11, 11)", 8)
        .is("weight(0, 10, 10, 0)", 5).is("weight(0, 0, 0, 0)", 1).is("weight(11, 11, 11, 11)", 1)
        .go("rules(0, 1, 0)").is("drops(0, 1, 1, 4, 3)", 2).is("takes(0, 1, 1, 4, 0)", 2).is("drops(10, 11, 11, 4, 3)", 2);
  }

  static void terms2_spread1AllGaps() {
    terms("1 each, if all are GAPS").go("place(0, 0, 50, 1)", "lack(2)", "rules(0, 1, 0)")
        .is("weight(1, 4, 4, 1)", 1).is("weight(1, 4, 4, 2)", 0).is("weight(1, 4, 4, 3)", 1).is("weight(1, 4, 4, 4)", 1)
        .is("weight(0, 1, 1, 1)", 50).is("drops(1, 4, 4, 7, 3)", 7).is("drops(1, 1, 1, 7, 3)", 7);
  }

  static void terms2_spread2NoGaps() {
    terms("SPREAD 2: YEARS SET OFF that are no GAPS, ordered by PICK (of alike ones the lesser YEAR first)")
        .go("place(1, 0, 10, 1)", "place(3, 0, 10, 1)", "place(5, 0, 10, 1)", "lack(4)")
        .is("picks(0, 11, 11, 0)", 1).is("picks(0, 11, 11, 1)", 3).is("picks(0, 11, 11, 2)", 5).is("picks(0, 11, 11, 3)", -1)
        .go("rules(0, 0, 2)").is("picks(0, 11, 11, 0)", 1).is("picks(0, 11, 11, 1)", 3).is("picks(0, 11, 11, 2)", 5)
        .is("picks(2, 4, 4, 0)", 3).is("picks(2, 4, 4, 1)", -1).is("picks(2, 2, 2, 0)", -1).is("picks(4, 4, 4, 0)", -1);
  }

  static void terms2_spread2Picks() {
    terms("1 the latest first, 2 the one first whose lowest FROM is least, 3 the earliest first")
        .go("place(1, 7, 10, 1)", "place(3, 6, 10, 1)", "place(5, 8, 10, 1)", "place(5, 0, 1, 1)")
        .go("rules(0, 2, 1)").is("picks(0, 11, 11, 0)", 5).is("picks(0, 11, 11, 1)", 3).is("picks(0, 11, 11, 2)", 1)
        .go("rules(0, 2, 2)").is("picks(0, 11, 11, 0)", 5).is("picks(0, 11, 11, 1)", 3).is("picks(0, 11, 11, 2)", 1)
        .go("rules(0, 2, 3)").is("picks(0, 11, 11, 0)", 1).is("picks(0, 11, 11, 1)", 3).is("picks(0, 11, 11, 2)", 5);
  }

  static void terms2_spread2Over() {
    terms("the first one is FILLED with all of it, the next one with what is OVER, and so on; OVER of the last one: ABOVE")
        .go("place(0, 0, 10, 1)", "place(2, 0, 10, 1)", "rules(0, 2, 3)")
        .is("uneven(0, 2, 2, 10, 0)", 10 - 4).is("uneven(0, 2, 2, 10, 1)", -3)
        .is("uneven(0, 2, 2, 11, 1)", 1 - 3).is("drops(0, 2, 2, 20, 2)", 0).is("drops(0, 2, 2, 21, 2)", 1)
        .is("drops(0, 2, 2, 20, 3)", 0).is("drops(0, 2, 2, 1000000000, 2)", 999999980);
  }

  static void terms2_spread2OverOfOne() {
    terms("OVER of the last one: ABOVE").go("place(3, 0, 10, 1)", "rules(0, 2, 0)").is("drops(3, 3, 3, 10, 2)", 0)
        .is("drops(3, 3, 3, 11, 2)", 1).is("drops(3, 3, 3, 11, 3)", 0).is("drops(2, 4, 4, 11, 2)", 1).is("drops(2, 4, 4, 11, 3)", 0)
        .go("harm(3, 3, 3, 10)").is("drops(3, 3, 3, 1, 2)", 1).is("drops(3, 3, 3, 1, 3)", 0);
  }

  static void terms2_spread2None() {
    terms("(all of it: GAPS, if there are none). Then CONTRIBUTION").go("place(0, 0, 10, 1)", "lack(2)", "rules(0, 2, 0)")
        .is("drops(1, 3, 3, 9, 3)", 9).is("drops(1, 3, 3, 9, 2)", 0).is("drops(2, 2, 2, 9, 3)", 9)
        .go("harm(1, 3, 3, 9)").is("falls(0, 3)", 9).is("moved(0, 0)", 0).is("drops(0, 3, 3, 9, 3)", 0);
  }

  static void terms2_contributionDebtsLess() {
    terms("MOVED is EXCESSES together, or DEBTS together, if these are less.")
        .go("place(0, 0, 10, 1)", "place(0, 10, 11, 1)", "place(1, 2, 20, 1)", "rules(0, 2, 3)", "harm(0, 2, 2, 21)")
        // Paid 10 and 11; fair 7, 0, and 5 behind the hole; the gap has 7. Excess 3 and 11, debt 5: 5 by 3 of 14 is 1, by 11 3.
        .is("moved(0, 0)", -2).is("moved(0, 1)", -3).is("moved(0, 2)", 5)
        .is("took(0, 0)", 8).is("took(0, 1)", 8).is("took(0, 2)", 5).is("falls(0, 1)", 0).is("falls(0, 3)", 0);
  }

  static void terms2_contributionExcessLess() {
    terms("By SHARES of MOVED by EXCESSES each LAYER takes so much less (it GETS that), by SHARES of MOVED by DEBTS each "
        + "takes so much more (it GIVES that); by numbers of LAYERS.")
        .go("place(2, 0, 10, 1)", "place(1, 0, 10, 1)", "place(0, 6, 10, 1)", "rules(0, 2, 3)", "harm(0, 2, 2, 9)")
        // In turn 6 in the hole and 3; fair is 3 each: none behind the hole. Excess 3, debts 3 and 3: 1 and 1, one more for 0.
        .is("moved(0, 0)", 2).is("moved(0, 1)", 1).is("moved(0, 2)", -3)
        .is("took(0, 0)", 2).is("took(0, 1)", 1).is("took(0, 2)", 0).is("falls(0, 1)", 6).is("layer(2, 4)", 0);
  }

  static void terms2_contributionNone() {
    terms("EXCESS of a LAYER is PAID less FAIR, DEBT FAIR less PAID, where that is above 0.")
        .go("place(0, 0, 10, 1)", "rules(0, 2, 0)", "harm(0, 0, 0, 10)").is("moved(0, 0)", 0).is("took(0, 0)", 10)
        .is("uneven(0, 0, 0, 1, 0)", 0)
        // Years without layers have shares, too: an excess without any debt is not moved.
        .go("place(1, 0, 10, 1)", "harm(1, 4, 4, 8)").is("took(1, 1)", 8).is("moved(1, 1)", 0).is("uneven(1, 4, 4, 2, 1)", 2 - 1);
  }

  static void terms2_fairFromJustTheSame() {
    terms("FAIR what it would have taken by SPREAD 0 (from just the same on)")
        .go("place(0, 0, 10, 1)", "place(1, 0, 10, 1)", "rules(0, 2, 3)", "harm(0, 1, 1, 4)").is("took(0, 0)", 2).is("took(0, 1)", 2)
        // 16 more in turn: 8 and 8; alike 8 and 8 from what was taken by now: nothing moves.
        .go("grow(0, 16)").is("took(0, 0)", 10).is("took(0, 1)", 10).is("moved(0, 0)", -2).is("moved(0, 1)", 2)
        .is("uneven(0, 1, 1, 5, 0)", 0);
  }

  static void terms2_level() {
    Script s = terms("SPREAD 3: YEARS SET OFF that are no GAPS: LEVEL is the greatest number by which LEVEL of each, or its ROOM, if "
        + "that is less, are together no more than the amount");
    s.go("place(0, 0, 3, 1)", "place(1, 0, 5, 1)", "place(2, 0, 9, 1)", "rules(0, 3, 0)");
    // Of an amount: in layers 0, 1, 2, and above.
    long[][] due = {{1, 1, 0, 0, 0}, {2, 1, 1, 0, 0}, {3, 1, 1, 1, 0}, {8, 3, 3, 2, 0}, {9, 3, 3, 3, 0}, {10, 3, 4, 3, 0},
      {11, 3, 4, 4, 0}, {12, 3, 5, 4, 0}, {13, 3, 5, 5, 0}, {14, 3, 5, 6, 0}, {16, 3, 5, 8, 0}, {17, 3, 5, 9, 0}, {18, 3, 5, 9, 1}};
    for (long[] d : due) {
      for (int l = 0; l < 3; l++) s.is("takes(0, 2, 2, " + d[0] + ", " + l + ")", d[1 + l]);
      s.is("drops(0, 2, 2, " + d[0] + ", 2)", d[4]).is("drops(0, 2, 2, " + d[0] + ", 3)", 0);
    }
  }

  static void terms2_levelAtMost() {
    terms("(2,000,000,000 at most): each is FILLED with that")
        .go("place(0, 900000000, 100000000, 1)", "place(1, 900000000, 100000000, 4)", "rules(0, 3, 0)", "harm(0, 1, 1, 1000000000)")
        .is("falls(0, 1)", 1000000000).go("grow(0, 1000000000)").is("falls(0, 2)", 0).is("falls(0, 1)", 1800000000)
        .go("grow(0, 1000000000)", "grow(0, 1000000000)", "grow(0, 1000000000)").is("falls(0, 2)", 3000000000L)
        // All in one amount: 5,000,000,000 are more than any LEVEL of both.
        .is("reopen(0)", 0).is("falls(0, 2)", 3000000000L).is("took(0, 0)", 100000000).is("took(0, 1)", 100000000)
        .go("rules(1, 3, 0)", "reopen(0)").is("falls(0, 2)", 4000000000L).is("took(0, 0)", 0);
  }

  static void terms2_levelLeftByOnes() {
    terms("what is left of the amount by ones to the first ones that have more ROOM than LEVEL")
        .go("place(0, 0, 2, 1)", "place(1, 0, 9, 1)", "place(2, 0, 9, 1)", "place(3, 0, 9, 1)", "rules(0, 3, 0)")
        // 10: a level of 2 leaves 2 for years 1 and 2; year 0 has no more room.
        .is("takes(0, 3, 3, 10, 0)", 2).is("takes(0, 3, 3, 10, 1)", 3).is("takes(0, 3, 3, 10, 2)", 3).is("takes(0, 3, 3, 10, 3)", 2)
        .is("takes(0, 3, 3, 9, 1)", 3).is("takes(0, 3, 3, 9, 2)", 2).is("takes(0, 3, 3, 11, 3)", 3)
        .is("takes(0, 3, 3, 1, 0)", 1).is("takes(0, 3, 3, 1, 1)", 0)
        .go("harm(0, 0, 0, 2)").is("takes(0, 3, 3, 1, 0)", 0).is("takes(0, 3, 3, 1, 1)", 1);
  }

  static void terms2_levelAbove() {
    terms("is any left then: ABOVE").go("place(0, 5, 5, 1)", "place(1, 0, 5, 1)", "rules(0, 3, 0)")
        .is("drops(0, 2, 2, 15, 2)", 0).is("drops(0, 2, 2, 16, 2)", 1).is("drops(0, 2, 2, 16, 1)", 5).is("drops(0, 2, 2, 16, 3)", 0)
        .go("harm(0, 1, 1, 15)", "harm(0, 1, 1, 15)").is("falls(1, 1)", 5).is("falls(1, 2)", 10).is("took(1, 0)", 0)
        .go("rules(1, 3, 0)").is("drops(1, 1, 1, 3, 2)", 3).is("drops(1, 1, 1, 3, 3)", 0);
  }

  static void terms2_levelNone() {
    terms("(all of it: GAPS, if there are no such YEARS)").go("place(0, 0, 5, 1)", "lack(1)", "rules(0, 3, 0)")
        .is("drops(1, 2, 2, 9, 3)", 9).is("drops(1, 2, 2, 9, 2)", 0).is("drops(1, 1, 1, 1, 3)", 1).is("drops(0, 2, 2, 5, 3)", 0)
        .is("drops(0, 2, 2, 6, 2)", 1);
  }

  static void terms2_splitCut() {
    terms("who SIGNED it has their tenths of it, cut").go("place(0, 0, 100, 1)", "sign(0, 3, 3)", "sign(0, 7, 7)")
        .is("would(0, 0, 0, 10, 3)", 3).is("would(0, 0, 0, 10, 7)", 7).is("would(0, 0, 0, 13, 3)", 4).is("would(0, 0, 0, 13, 7)", 9)
        .is("would(0, 0, 0, 16, 3)", 5).is("would(0, 0, 0, 16, 7)", 11).is("drops(0, 0, 0, 13, 4)", 0);
  }

  static void terms2_splitLeft() {
    terms("what is left by that of the amount times all SIGNED tenths by 10 (cut), by ones to the first ones that SIGNED")
        .go("place(0, 0, 100, 1)", "sign(0, 9, 2)", "sign(0, 8, 2)", "sign(0, 7, 2)", "sign(0, 6, 3)")
        // 4 by 9 tenths is 3; all have 0 but the last one, who has 1: two more for the first two.
        .is("would(0, 0, 0, 4, 9)", 1).is("would(0, 0, 0, 4, 8)", 1).is("would(0, 0, 0, 4, 7)", 0).is("would(0, 0, 0, 4, 6)", 1)
        .is("drops(0, 0, 0, 4, 4)", 1)
        // 9 by 9 tenths is 8; 1, 1, 1, 2: three more.
        .is("would(0, 0, 0, 9, 9)", 2).is("would(0, 0, 0, 9, 8)", 2).is("would(0, 0, 0, 9, 7)", 2).is("would(0, 0, 0, 9, 6)", 2)
        .is("drops(0, 0, 0, 9, 4)", 1).is("would(0, 0, 0, 1, 9)", 0).is("drops(0, 0, 0, 1, 4)", 1)
        .is("would(0, 0, 0, 2, 9)", 1).is("would(0, 0, 0, 2, 8)", 0).is("drops(0, 0, 0, 2, 4)", 1);
  }

  static void terms2_splitUnsigned() {
    terms("all the rest is UNSIGNED").go("place(0, 0, 100, 1)", "place(1, 0, 100, 1)", "place(2, 0, 100, 1)", "sign(1, 1, 1)",
        "sign(2, 1, 10)").is("drops(0, 0, 0, 9, 4)", 9).is("drops(1, 1, 1, 9, 4)", 9).is("drops(1, 1, 1, 10, 4)", 9)
        .is("drops(2, 2, 2, 9, 4)", 0).is("would(2, 2, 2, 9, 1)", 9).is("drops(2, 2, 2, 101, 4)", 0).is("drops(2, 2, 2, 101, 2)", 1);
  }

  static void terms2_splitEachTime() {
    terms("What a LAYER takes by that in the end is split, LAYER by LAYER")
        .go("place(0, 0, 5, 1)", "place(0, 5, 5, 1)", "sign(0, 1, 5)", "sign(1, 1, 5)", "harm(0, 0, 0, 10)")
        // Twice 5 by 5 tenths, not once 10.
        .is("bears(0, 1)", 4).is("falls(0, 4)", 6).go("reopen(0)").is("bears(0, 1)", 4)
        .go("place(1, 0, 9, 1)", "sign(2, 2, 5)", "rules(1, 0, 0)", "harm(1, 1, 1, 1)", "grow(1, 1)", "grow(1, 1)")
        .is("took(1, 2)", 3).is("bears(1, 2)", 0).go("reopen(1)").is("bears(1, 2)", 1);
  }

  static void terms2_soundBears() {
    terms("if that is SOUND, it BEARS it; else the INSURED does: OWN (by 0), SETTLED, FALLEN.")
        .go("place(0, 0, 100, 4)", "sign(0, 0, 1)", "sign(0, 1, 2)", "sign(0, 2, 3)", "sign(0, 3, 4)", "harm(0, 0, 0, 10)")
        .is("bears(0, 0)", 1).is("bears(0, 1)", 2).is("bears(0, 2)", 3).is("bears(0, 3)", 4).is("falls(0, 0)", 1)
        .go("settle(2, 0)", "fall(3)", "harm(0, 0, 0, 10)")
        .is("bears(1, 0)", 8).is("bears(1, 1)", 2).is("bears(1, 2)", 0).is("bears(1, 3)", 0)
        .is("falls(1, 0)", 1).is("falls(1, 5)", 3).is("falls(1, 6)", 4).is("signed(0, 2, 2)", 6).is("signed(0, 3, 2)", 8);
  }

  static void terms2_reasons() {
    Script s = terms("0 OWN, 1 HOLES, 2 ABOVE, 3 GAPS, 4 UNSIGNED, 5 SETTLED, 6 FALLEN.");
    // 64 over two years: 32 are a gap's; 32 are 1 in the hole, 30 in the layer, 1 above; of 30 there are 3, 6, 9, and 12.
    s.go("place(0, 1, 30, 1)", "sign(0, 0, 1)", "sign(0, 1, 2)", "sign(0, 2, 3)", "settle(1, 0)", "fall(2)", "harm(0, 1, 1, 64)");
    long[] due = {3, 1, 1, 32, 12, 6, 9};
    for (int reason = 0; reason < 7; reason++) s.is("falls(0, " + reason + ")", due[reason]);
    s.is("bears(0, 0)", 64).bounds("falls(0, #)", 0, 6);
  }

  static void terms2_growIsSpread() {
    terms("A HARM is SPREAD as it is told; to GROW, a LOSS is more, and the more is SPREAD.")
        .go("place(0, 0, 10, 1)", "place(1, 0, 10, 1)", "harm(0, 1, 1, 1)").is("took(0, 0)", 1).is("took(0, 1)", 0)
        .go("grow(0, 1)").is("took(0, 0)", 2).is("took(0, 1)", 0).is("damage(0, 3)", 2)
        .go("grow(0, 2)").is("took(0, 0)", 3).is("took(0, 1)", 1).is("damage(0, 3)", 4);
  }

  static void terms2_whatTheyBoreStays() {
    terms("a SOUND INSURER pays CASH, and is SETTLED from then on; one that FALLS is FALLEN (what they BORE stays)")
        .go("place(0, 0, 100, 4)", "sign(0, 1, 5)", "sign(0, 2, 5)", "harm(0, 0, 0, 10)", "settle(1, 77)", "fall(2)")
        .is("bears(0, 1)", 5).is("bears(0, 2)", 5).is("bears(0, 0)", 0).is("insurer(1, 2)", 77).is("insurer(2, 2)", 0)
        .is("grow(0, 4)", 4).is("bears(0, 1)", 5).is("bears(0, 2)", 5).is("falls(0, 5)", 2).is("falls(0, 6)", 2);
  }

  static void terms2_reopened() {
    terms("is taken back, as if it had not been (HOLES it went through, MOVED, too)")
        .go("place(0, 3, 10, 1)", "place(1, 0, 10, 1)", "sign(0, 1, 10)", "sign(1, 2, 10)", "rules(0, 2, 3)", "harm(0, 1, 2, 10)")
        // In turn 3 in the hole, 7 of layer 0; fair is 2 behind the hole, and 5.
        .is("moved(0, 0)", -5).is("moved(0, 1)", 5).is("hole(0, 0)", 3).is("bears(0, 1)", 2).is("bears(0, 2)", 5)
        .go("rules(1, 0, 0)").is("reopen(0)", 7).is("moved(0, 0)", 0).is("moved(0, 1)", 0).is("hole(0, 0)", 0)
        .is("took(0, 0)", 0).is("took(0, 1)", 0).is("bears(0, 1)", 0).is("bears(0, 2)", 0).is("signed(0, 0, 2)", 0)
        .is("signed(1, 0, 2)", 0).is("layer(0, 4)", 0).is("layer(1, 4)", 0).is("falls(0, 1)", 0).is("falls(0, 3)", 10);
  }

  static void terms2_reopenedOne() {
    new Script("terms: reopened, of which a layer took but 1").go("place(0, 0, 10, 1)", "place(1, 0, 10, 1)", "sign(0, 1, 10)", "harm(0, 0, 1, 1)")
        .is("layer(0, 4)", 1).is("signed(0, 0, 2)", 1).go("rules(1, 0, 0)").is("reopen(0)", 1).is("layer(0, 4)", 0).is("layer(0, 5)", 10)
        .is("signed(0, 0, 2)", 0).is("layer(1, 4)", 1).is("bears(0, 1)", 0);
  }

  static void terms2_reopenedInOneAmount() {
    terms("then all of its LOSS, in one amount, is SPREAD, by RULES as they are then, and by who is SOUND then")
        .go("place(0, 0, 10, 1)", "place(1, 0, 10, 1)", "sign(0, 1, 10)", "harm(0, 1, 1, 1)", "grow(0, 1)").is("took(0, 0)", 2)
        .is("reopen(0)", 1).is("took(0, 0)", 1).is("took(0, 1)", 1).go("fall(1)").is("bears(0, 1)", 1)
        .is("reopen(0)", 1).is("bears(0, 1)", 0).is("falls(0, 6)", 1)
        .go("rules(1, 0, 0)").is("reopen(0)", 0).is("took(0, 1)", 2).is("falls(0, 6)", 0).is("falls(0, 4)", 2);
  }

  // ---- the part marked 3

  static void terms3_askedNothingStays() {
    Script s = terms("Asked, nothing stays changed.");
    s.go(Desks.RICH);
    String[] asked = {"told(2)", "event(3, 1)", "layer(1, 5)", "signed(1, 1, 2)", "signed(1, 9, 2)", "year(0, 6)", "at(0, 170)",
      "rung(0, 1)", "damage(1, 4)", "took(0, 1)", "hole(0, 1)", "moved(1, 2)", "bears(0, 3)", "falls(0, 4)", "insurer(0, 2)",
      "burden(3)", "rank(4)", "offs(1, 2, 3, 2)", "would(0, 3, 5, 999, 1)", "takes(0, 3, 5, 999, 3)", "drops(0, 3, 5, 999, 2)",
      "share(0, 3, 5, 999, 1)", "weight(0, 3, 5, 4)", "picks(0, 3, 5, 1)", "other(1, 3, 2, 0)", "best(1, 3)", "without(0, 1)",
      "undone(11)", "spared(2)", "shift(14, 0, 2)", "after(11, 0)", "usedUp(0)", "heaviest(0, 0)", "cover(0, 5, 160)", "reach(1)",
      "uneven(0, 3, 5, 999, 0)", "widest(0, 1)", "strongest(0)", "holds(1, 0, 5)", "spent()", "status(1)", "status(7)",
      "rules(2, 2, 0)"};
    for (String question : asked) s.asked(question);
    new Script("terms: asked on a new object, nothing stays changed").asked("would(0, 11, 11, 5, 0)").asked("best(0, 1)")
        .asked("heaviest(3, 0)").asked("back()").asked("other(3, 3, 3, 0)").asked("rules(0, 0, 0)").asked("strongest(1)");
  }

  static void terms3_goneOverLeftOut() {
    terms("GONE OVER: all EVENTS done again in order from nothing on; those that can't be done then are left out")
        .go("place(0, 0, 10, 1)", "sign(0, 1, 10)", "harm(0, 0, 0, 4)", "grow(0, 3)", "reopen(0)")
        .is("undone(0)", 1).is("without(0, 0)", 7).is("undone(2)", 2).is("without(2, 1)", 0).is("undone(4)", 0)
        .is("without(3, 1)", 4).is("shift(2, 5, 1)", 4).is("shift(2, 5, 0)", 0).is("shift(1, 3, 0)", 7);
  }

  static void terms3_numbersStay() {
    terms("LAYERS and HARMS keep their numbers.")
        .go("place(0, 0, 10, 1)", "place(0, 10, 20, 1)", "sign(1, 5, 10)", "harm(0, 0, 0, 1)", "harm(0, 0, 0, 25)", "grow(1, 2)")
        // Without layer 0 all below 10 is a hole; layer 1 is what was signed, and harm 1 what grew.
        .is("insurer(5, 0)", 18).is("undone(0)", 0).is("without(0, 5)", 17).is("undone(3)", 0).is("without(3, 5)", 17)
        .is("without(4, 5)", 0).is("undone(4)", 1).is("shift(0, 6, 5)", 17).is("shift(0, 2, 5)", 18);
  }

  static void terms3_fromNothingOn() {
    // What one going over came to is not there for the next one, in whatever order they are asked.
    terms("from nothing on").go("place(0, 0, 10, 1)", "sign(0, 1, 10)", "harm(0, 0, 0, 4)", "grow(0, 3)", "fall(2)", "settle(1, 2)")
        .is("other(0, 0, 0, 1)", 7).is("undone(0)", 1).is("undone(2)", 1).is("undone(0)", 1).is("without(0, 1)", 0).is("without(2, 1)", 0)
        .is("undone(2)", 1).is("without(3, 1)", 4).is("undone(4)", 0).is("shift(0, 6, 1)", 0).is("shift(2, 6, 1)", 0).is("after(0, 1)", 0)
        .is("after(2, 1)", 4).is("other(3, 3, 3, 1)", 7).is("after(1, 1)", 0).is("usedUp(0)", -1).is("without(4, 0)", 0).is("after(5, 1)", 7)
        .is("undone(1)", 0).is("undone(0)", 1).is("without(1, 0)", 7).is("without(0, 0)", 7).is("undone(0)", 1);
    new Script("terms: gone over again and again").go("lack(5)", "place(0, 0, 3, 1)", "harm(0, 0, 0, 3)", "place(1, 0, 3, 1)", "harm(1, 1, 1, 3)")
        .is("usedUp(0)", 2).is("usedUp(0)", 2).is("usedUp(1)", 4).is("usedUp(1)", 4).is("undone(0)", 0).is("usedUp(1)", 4).is("usedUp(0)", 2);
  }

  static void terms3_goneOverFull() {
    // 40 layers, the last one signed by four, and 24 harms: all of them are gone over, reopened, and asked.
    Script s = new Script("terms: a full desk gone over").go(Desks.layers(39)).go("place(11, 0, 20, 4)", "sign(39, 9, 1)", "sign(39, 8, 2)",
        "sign(39, 7, 3)", "sign(39, 0, 4)").go(Desks.times(24, "harm(11, 11, 11, 1)"));
    // One by ten tenths: all are cut to nothing, and the one is for the first one that signed.
    s.is("insurer(9, 0)", 24).is("layer(39, 4)", 24).is("told(10)", 1 + 128 + 256 + 512).is("insurer(9, 4)", 5).is("insurer(0, 4)", 22)
        .is("reopen(23)", 0).is("grow(23, 9)", 3).is("reopen(23)", 1).is("layer(39, 4)", 33).is("signed(39, 0, 2)", 24).is("signed(39, 3, 2)", 4)
        .is("bears(23, 9)", 1).is("bears(23, 8)", 2).is("bears(23, 7)", 3).is("bears(23, 0)", 4).is("insurer(0, 0)", 4)
        .is("other(0, 0, 0, 9)", 24).is("other(2, 2, 1, 0)", 4).is("other(1, 3, 0, 7)", 3).is("undone(39)", 4).is("without(39, 0)", 33)
        .is("undone(67)", 3).is("without(67, 9)", 23).is("heaviest(0, 0)", 23).is("heaviest(0, 1)", 0).is("best(9, 3)", 24);
  }

  static void terms3_fullReopened() {
    Script s = new Script("terms: a harm of a full desk reopened beside others").go(Desks.layers(40)).go("harm(0, 6, 6, 70)", "harm(0, 0, 0, 7)");
    s.is("took(0, 0)", 10).is("took(1, 0)", 0).is("took(1, 1)", 7).go("rules(1, 0, 0)").is("reopen(0)", 0).is("took(0, 36)", 10)
        .is("took(0, 0)", 0).is("layer(0, 4)", 0).is("reopen(1)", 0).is("took(1, 0)", 7).is("reopen(0)", 0).is("took(1, 0)", 7)
        .is("layer(0, 4)", 7).is("took(0, 39)", 10).is("falls(0, 2)", 30);
  }

  static void terms3_byToldRules() {
    terms("By told RULES: these hold from the first on, EVENTS of rules() change nothing.")
        .go("place(0, 0, 90, 1)", "place(1, 0, 90, 1)", "sign(0, 1, 10)", "sign(1, 2, 10)", "harm(0, 0, 1, 7)", "rules(1, 0, 0)",
            "harm(0, 0, 1, 20)")
        .is("insurer(1, 0)", 7).is("other(0, 0, 0, 1)", 27).is("other(1, 0, 0, 1)", 0).is("other(1, 0, 0, 2)", 27)
        .is("other(2, 0, 0, 1)", 4 + 10).is("told(3)", 1);
  }

  static void terms3_insuredWithAllReasons() {
    terms("What INSURER i BEARS: 0 is the INSURED, with all reasons (CASH aside).")
        .go("place(0, 1, 30, 1)", "sign(0, 0, 1)", "sign(0, 1, 2)", "sign(0, 2, 3)", "settle(1, 500)", "fall(2)", "harm(0, 1, 1, 64)")
        .is("insurer(0, 0)", 64).is("other(0, 0, 0, 0)", 64).is("without(4, 0)", 58).is("without(4, 1)", 6).is("after(6, 0)", 64)
        .is("after(5, 0)", 0).is("shift(4, 7, 0)", 58).is("insurer(0, 2)", 500);
  }
}
