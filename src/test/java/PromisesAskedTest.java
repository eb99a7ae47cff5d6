/** Promises 28 to 34 and 46: what a new harm would come to; by that all ways to spread a loss. */
public final class PromisesAskedTest {
  public static void main(String[] args) {
    offs();
    would();
    nothingStays();
    takesAlike();
    lackingYears();
    bySizes();
    inTurn();
    byLevel();
    drops();
    share();
    weight();
    picks();
    uneven();
    Script.end("PromisesAskedTest");
  }

  private static void offs() {
    new Script("promise 28")
        .is("offs(2, 4, 7, 0)", 28).is("offs(2, 4, 7, 1)", 128).is("offs(2, 4, 7, 2)", 252).is("offs(2, 4, 7, 3)", 156)
        .is("offs(0, 11, 11, 0)", 4095).is("offs(11, 11, 11, 3)", 2048).is("offs(0, 0, 0, 1)", 1)
        .wrong("offs(2, 4, 7, 4)").wrong("offs(2, 4, 7, -1)").wrong("offs(4, 2, 7, 0)").wrong("offs(2, 7, 4, 0)")
        .wrong("offs(-1, 2, 3, 0)").wrong("offs(0, 0, 12, 0)").is("status(1)", 6);
  }

  private static void would() {
    Script s = new Script("promise 29");
    s.go("place(0, 0, 100, 1)", "sign(0, 1, 6)", "sign(0, 2, 3)", "fall(2)")
        .is("would(0, 0, 0, 55, 1)", 33).is("would(0, 0, 0, 55, 2)", 0).is("would(0, 0, 0, 55, 0)", 22)
        .is("would(0, 0, 0, 1000000000, 1)", 60).is("would(0, 0, 0, 1000000000, 0)", 999999940)
        .wrong("would(0, 0, 0, 0, 1)").wrong("would(0, 0, 0, 1000000001, 1)").wrong("would(0, 0, 0, 5, 10)")
        .wrong("would(0, 0, 0, 5, -1)").wrong("would(1, 0, 0, 5, 1)").wrong("would(0, 1, 0, 5, 1)").wrong("would(0, 0, 12, 5, 1)");
    for (int h = 0; h < 24; h++) s.go("harm(0, 0, 0, 1)");
    s.unfit("harm(0, 0, 0, 100)").is("takes(0, 0, 0, 100, 0)", 76).is("would(0, 0, 0, 100, 1)", 46);
  }

  private static void nothingStays() {
    new Script("asked, nothing stays changed")
        .go("place(0, 10, 100, 2)", "sign(0, 1, 10)", "rules(0, 2, 0)", "harm(0, 0, 0, 50)")
        .is("would(0, 0, 0, 500, 1)", 100).is("would(0, 0, 0, 500, 1)", 100).is("takes(0, 0, 0, 500, 0)", 100)
        .is("uneven(0, 0, 0, 500, 0)", 0).is("other(1, 3, 1, 1)", 40).is("layer(0, 4)", 40).is("took(0, 0)", 40)
        .is("told(2)", 4).is("told(1)", 1).is("told(3)", 0).is("told(4)", 2);
  }

  private static void takesAlike() {
    new Script("promise 30: by SPREAD 0")
        .go("place(0, 0, 10, 1)", "place(0, 15, 10, 1)", "place(1, 0, 100, 1)")
        // 50 is 17, 17, 16.
        .is("takes(0, 2, 2, 50, 0)", 10).is("takes(0, 2, 2, 50, 1)", 2).is("takes(0, 2, 2, 50, 2)", 17)
        .is("drops(0, 2, 2, 50, 1)", 5).is("drops(0, 2, 2, 50, 3)", 16)
        .missing("takes(0, 2, 2, 50, 3)").missing("takes(2, 0, 2, 0, -1)").wrong("takes(2, 0, 2, 50, 0)")
        .wrong("takes(0, 2, 2, 0, 0)").wrong("takes(0, 2, 2, 1000000001, 0)").wrong("takes(0, 2, 1, 5, 0)");
  }

  private static void lackingYears() {
    Script s = new Script("years that lack have no part; are there none, all of it is gaps");
    s.go("place(0, 0, 100, 1)", "lack(1)", "lack(2)");
    for (int spread = 0; spread < 4; spread++) {
      s.go("rules(1, " + (spread + 1) % 4 + ", 0)", "rules(0, " + spread + ", 0)")
          .is("takes(0, 2, 2, 60, 0)", 60).is("drops(0, 2, 2, 60, 3)", 0).is("drops(1, 2, 2, 60, 3)", 60)
          .is("takes(0, 3, 3, 60, 0)", spread < 2 ? 30 : 60)
          .is("drops(0, 0, 0, 160, 2)", 60);
    }
  }

  private static void bySizes() {
    new Script("SPREAD 1")
        .go("place(0, 0, 30, 1)", "place(0, 100, 40, 1)", "place(1, 0, 31, 1)", "rules(0, 1, 0)")
        // Weights 70, 31, and 50 for the gap: 303 by 151 is 140 (cut), 62 (cut), 100 (cut), and one more for year 0.
        .is("weight(0, 2, 2, 0)", 70).is("weight(0, 2, 2, 1)", 31).is("weight(0, 2, 2, 2)", 50)
        .is("takes(0, 2, 2, 303, 0)", 30).is("drops(0, 2, 2, 303, 1)", 70).is("takes(0, 2, 2, 303, 1)", 40)
        .is("drops(0, 2, 2, 303, 2)", 1 + 31).is("takes(0, 2, 2, 303, 2)", 31).is("drops(0, 2, 2, 303, 3)", 100)
        .is("drops(2, 4, 4, 10, 3)", 10);
  }

  private static void inTurn() {
    new Script("SPREAD 2: over goes on")
        .go("place(1, 0, 10, 1)", "place(2, 5, 10, 1)", "place(4, 0, 10, 1)", "rules(0, 2, 3)")
        // In turn 10, 5 in the hole, 10, then 7 of year 4; shares are 7, 7, 6, 6, 6, so fair is 7, 1, 6: no debt.
        .is("takes(0, 4, 4, 32, 0)", 10).is("takes(0, 4, 4, 32, 1)", 10).is("takes(0, 4, 4, 32, 2)", 7)
        .is("drops(0, 4, 4, 32, 1)", 5).is("drops(0, 4, 4, 32, 2)", 0).is("drops(0, 4, 4, 32, 3)", 0)
        .is("drops(0, 4, 4, 100, 2)", 65).is("drops(5, 6, 6, 100, 3)", 100).is("drops(5, 6, 6, 100, 2)", 0)
        .go("rules(0, 2, 1)")
        // The latest first: 10 and 5 in the hole, 3 of layer 1; fair is 4, 4, 4, 3, 3: 4, 0, 3. Excess 3 and 7; debt 4.
        .is("takes(0, 4, 4, 18, 0)", 4).is("takes(0, 4, 4, 18, 1)", 1).is("takes(0, 4, 4, 18, 2)", 8)
        .is("drops(0, 4, 4, 18, 1)", 5);
  }

  private static void byLevel() {
    new Script("SPREAD 3")
        .go("place(0, 0, 10, 1)", "place(1, 5, 20, 1)", "place(3, 0, 40, 1)", "rules(0, 3, 0)")
        // Rooms 10, 25, 40. 52: 10 and a level of 21.
        .is("takes(0, 3, 3, 52, 0)", 10).is("takes(0, 3, 3, 52, 1)", 16).is("takes(0, 3, 3, 52, 2)", 21)
        // 53: the one that is left is for the first one that has more room.
        .is("takes(0, 3, 3, 53, 1)", 17).is("takes(0, 3, 3, 53, 2)", 21)
        .is("takes(0, 3, 3, 29, 0)", 10).is("takes(0, 3, 3, 29, 1)", 5).is("takes(0, 3, 3, 29, 2)", 9)
        .is("takes(0, 3, 3, 2, 0)", 1).is("drops(0, 3, 3, 2, 1)", 1).is("takes(0, 3, 3, 2, 2)", 0)
        .is("drops(0, 3, 3, 75, 2)", 0).is("drops(0, 3, 3, 76, 2)", 1).is("takes(0, 3, 3, 1000000000, 2)", 40)
        .is("drops(0, 3, 3, 76, 3)", 0).is("drops(4, 5, 5, 76, 3)", 76).is("drops(0, 0, 0, 11, 2)", 1)
        .go("harm(0, 3, 3, 52)")
        // Room is what is left for that harm: 0, 4, 19. 11 more: 4, 7.
        .is("grow(0, 11)", 11).is("took(0, 1)", 20).is("took(0, 2)", 28).is("took(0, 0)", 10);
  }

  private static void drops() {
    Script s = new Script("promise 31");
    s.go("place(0, 5, 40, 1)", "sign(0, 0, 2)", "sign(0, 1, 2)", "sign(0, 2, 2)", "sign(0, 3, 2)", "settle(2, 100)", "fall(3)");
    long[] due = {8, 5, 15, 60, 8, 8, 8};
    for (int reason = 0; reason < 7; reason++) s.is("drops(0, 1, 1, 120, " + reason + ")", due[reason]);
    s.wrong("drops(0, 1, 1, 120, 7)").wrong("drops(0, 1, 1, 120, -1)").wrong("drops(0, 1, 0, 120, 1)")
        .wrong("drops(0, 1, 1, 0, 1)").is("told(1)", 0);
  }

  private static void share() {
    new Script("promise 32: by SPREAD 0, whatever SPREAD is")
        .go("lack(1)", "place(0, 0, 5, 1)", "rules(3, 2, 1)")
        .is("share(0, 2, 5, 11, 0)", 4).is("share(0, 2, 5, 11, 1)", 0).is("share(0, 2, 5, 11, 2)", 4)
        .is("share(0, 2, 5, 11, 5)", 3).is("share(0, 2, 5, 11, 4)", 0).is("share(1, 1, 1, 11, 1)", 0)
        .is("share(0, 2, 5, 1, 0)", 1).is("share(0, 2, 5, 1, 2)", 0)
        .wrong("share(0, 2, 5, 11, 12)").wrong("share(0, 2, 5, 11, -1)").wrong("share(0, 2, 5, 0, 1)").wrong("share(3, 2, 5, 1, 1)");
  }

  private static void weight() {
    new Script("promise 33: by SPREAD 1, whatever SPREAD is")
        .go("lack(1)", "place(0, 0, 5, 1)", "place(0, 5, 6, 4)", "place(3, 7, 2, 1)")
        .is("weight(0, 3, 9, 0)", 11).is("weight(0, 3, 9, 1)", 0).is("weight(0, 3, 9, 2)", 6).is("weight(0, 3, 9, 3)", 2)
        .is("weight(0, 3, 9, 4)", 0).is("weight(0, 2, 9, 2)", 11).is("weight(1, 2, 9, 2)", 1).is("weight(2, 3, 9, 2)", 2)
        .go("rules(1, 0, 0)").is("weight(0, 3, 9, 2)", 0).is("weight(0, 3, 9, 9)", 1).is("weight(0, 3, 3, 3)", 2)
        .wrong("weight(0, 3, 9, 12)").wrong("weight(0, 3, 9, -1)").wrong("weight(3, 0, 9, 1)").wrong("weight(0, 3, 12, 1)");
  }

  private static void picks() {
    Script s = new Script("promise 34: by PICK, whatever SPREAD is");
    s.go("place(1, 30, 10, 1)", "place(2, 10, 20, 1)", "place(3, 10, 30, 2)", "place(5, 0, 40, 1)", "lack(4)");
    // Rooms: 40, 30, 40, 40.
    int[][] due = {{1, 3, 5, 2}, {5, 3, 2, 1}, {5, 2, 3, 1}, {1, 2, 3, 5}};
    for (int pick = 0; pick < 4; pick++) {
      s.go("rules(0, 0, " + pick + ")");
      for (int k = 0; k < 4; k++) s.is("picks(0, 11, 11, " + k + ")", due[pick][k]);
      s.is("picks(0, 11, 11, 4)", -1).is("picks(0, 11, 11, 2147483647)", -1);
    }
    s.go("rules(0, 0, 0)", "harm(5, 5, 5, 5)").is("picks(0, 11, 11, 0)", 1).is("picks(0, 11, 11, 2)", 5)
        .go("harm(3, 3, 3, 40)", "harm(3, 3, 3, 15)").is("picks(0, 11, 11, 1)", 3).is("picks(0, 11, 11, 2)", 5)
        .is("picks(4, 4, 4, 0)", -1).go("rules(1, 0, 0)").is("picks(0, 1, 2, 0)", 2).is("picks(0, 1, 2, 1)", -1)
        .wrong("picks(0, 11, 11, -1)").wrong("picks(0, 12, 12, 0)").wrong("picks(2, 1, 3, 0)").wrong("picks(1, 3, 2, 0)");
  }

  private static void uneven() {
    new Script("promise 46: by SPREAD 2, whatever SPREAD is")
        .go("place(1, 0, 10, 1)", "place(2, 5, 10, 1)", "place(4, 0, 10, 1)", "rules(0, 0, 1)")
        .is("uneven(0, 4, 4, 18, 0)", -4).is("uneven(0, 4, 4, 18, 1)", 3).is("uneven(0, 4, 4, 18, 2)", 7)
        .go("rules(0, 3, 3)")
        .is("uneven(0, 4, 4, 18, 0)", 6).is("uneven(0, 4, 4, 18, 1)", 3).is("uneven(0, 4, 4, 18, 2)", -3)
        .is("uneven(5, 6, 6, 18, 2)", 0)
        .missing("uneven(0, 4, 4, 18, 3)").missing("uneven(4, 0, 0, 0, -1)").wrong("uneven(4, 0, 0, 18, 0)")
        .wrong("uneven(0, 4, 4, 0, 0)").wrong("uneven(0, 4, 4, 1000000001, 0)");
  }
}
