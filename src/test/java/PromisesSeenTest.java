/** Promises 12 to 27: what is there, and what was borne. */
public final class PromisesSeenTest {
  public static void main(String[] args) {
    told();
    event();
    layer();
    signed();
    year();
    heights();
    damage();
    perLayer();
    movedInAll();
    bearsAndFalls();
    splitting();
    insurer();
    burden();
    rank();
    Script.end("PromisesSeenTest");
  }

  private static void told() {
    new Script("promise 12")
        .go("place(2, 0, 10, 1)", "place(2, 10, 10, 1)", "sign(1, 0, 1)", "sign(0, 9, 1)", "lack(11)", "lack(0)",
            "rules(1, 2, 3)", "harm(1, 2, 3, 4)", "settle(5, 1)", "settle(1, 1)", "fall(9)")
        .is("told(0)", 2).is("told(1)", 1).is("told(2)", 11).is("told(3)", 1).is("told(4)", 2).is("told(5)", 3)
        .is("told(6)", 2049).is("told(7)", 4091).is("told(8)", 34).is("told(9)", 512).is("told(10)", 513)
        .wrong("told(-1)").wrong("told(11)").wrong("told(2147483647)").is("status(1)", 3);
  }

  private static void event() {
    Script s = new Script("promise 13");
    s.go("lack(7)", "place(3, 0, 10, 1)", "place(4, 0, 10, 1)", "sign(1, 6, 2)", "rules(2, 1, 3)", "harm(5, 5, 5, 1)",
        "harm(4, 4, 4, 1)", "grow(1, 1)", "settle(8, 3)", "fall(2)", "reopen(1)");
    int[][] due = {{2, 7}, {0, 0}, {0, 1}, {1, 1}, {3, 2}, {4, 0}, {4, 1}, {5, 1}, {6, 8}, {7, 2}, {8, 1}};
    for (int k = 0; k < due.length; k++) s.is("event(" + k + ", 0)", due[k][0]).is("event(" + k + ", 1)", due[k][1]);
    s.missing("event(11, 0)").missing("event(-1, 5)").wrong("event(0, 2)").wrong("event(0, -1)");
  }

  private static void layer() {
    Script s = new Script("promise 14");
    s.go("place(1, 500, 50, 2)", "place(1, 100, 30, 1)", "place(2, 100, 30, 1)", "sign(0, 1, 3)", "sign(0, 2, 4)",
        "harm(1, 1, 1, 550)");
    long[] upper = {1, 500, 50, 2, 50, 50, 370, 2, 3, 1, 0};
    long[] lower = {1, 100, 30, 1, 30, 0, 100, 0, 10, 0, 1};
    long[] other = {2, 100, 30, 1, 0, 30, 100, 0, 10, 0, 0};
    for (int what = 0; what <= 10; what++) {
      s.is("layer(0, " + what + ")", upper[what]).is("layer(1, " + what + ")", lower[what])
          .is("layer(2, " + what + ")", other[what]);
    }
    s.missing("layer(3, 0)").missing("layer(-1, 0)").missing("layer(3, 11)").wrong("layer(0, 11)").wrong("layer(0, -1)")
        .go("place(1, 200, 300, 4)").is("layer(0, 6)", 0).is("layer(0, 9)", 2).is("layer(3, 6)", 70).is("layer(3, 5)", 1200);
  }

  private static void signed() {
    new Script("promise 15")
        .go("place(0, 0, 100, 2)", "sign(0, 3, 3)", "sign(0, 0, 3)", "sign(0, 5, 3)", "fall(5)", "harm(0, 0, 0, 11)")
        // 11 by 9 tenths is 9; three tenths of 11 are 3 each.
        .is("signed(0, 0, 0)", 3).is("signed(0, 1, 0)", 0).is("signed(0, 2, 0)", 5).is("signed(0, 2, 1)", 3)
        .is("signed(0, 0, 2)", 3).is("signed(0, 1, 2)", 3).is("signed(0, 2, 2)", 3)
        .go("grow(0, 2)").is("signed(0, 0, 2)", 4).is("signed(0, 1, 2)", 3).is("signed(0, 2, 2)", 3)
        .is("signed(0, 3, 0)", -1).is("signed(0, 3, 2)", -1).is("signed(0, 2147483647, 1)", -1)
        .wrong("signed(0, -1, 0)").wrong("signed(0, 0, 3)").wrong("signed(0, 0, -1)").wrong("signed(0, 9, 3)")
        .missing("signed(1, -1, 0)").missing("signed(-1, 0, 9)");
  }

  private static void year() {
    Script s = new Script("promise 16");
    s.go("place(1, 500, 50, 2)", "place(1, 100, 30, 1)", "harm(1, 1, 1, 550)", "lack(3)");
    long[] due = {2, 100, 550, 80, 470, 80, 50};
    long[] gap = {0, -1, -1, 0, 0, 0, 0};
    for (int what = 0; what <= 6; what++) {
      s.is("year(1, " + what + ")", due[what]).is("year(2, " + what + ")", gap[what]).is("year(3, " + what + ")", gap[what]);
    }
    s.wrong("year(12, 0)").wrong("year(-1, 0)").wrong("year(1, 7)").wrong("year(1, -1)");
  }

  private static void heights() {
    new Script("promises 17 and 18")
        .go("place(1, 500, 50, 2)", "place(1, 100, 30, 1)", "place(1, 550, 1, 1)", "place(2, 900000000, 100000000, 1)")
        .is("at(1, 0)", -1).is("at(1, 99)", -1).is("at(1, 100)", 1).is("at(1, 129)", 1).is("at(1, 130)", -1)
        .is("at(1, 499)", -1).is("at(1, 500)", 0).is("at(1, 549)", 0).is("at(1, 550)", 2).is("at(1, 551)", -2)
        .is("at(2, 999999999)", 3).is("at(2, 1000000000)", -2).is("at(3, 0)", -2).is("at(1, 1000000000)", -2)
        .wrong("at(1, -1)").wrong("at(1, 1000000001)").wrong("at(12, 0)").wrong("at(-1, 0)")
        .is("rung(1, 0)", 1).is("rung(1, 1)", 0).is("rung(1, 2)", 2).is("rung(1, 3)", -1).is("rung(0, 0)", -1)
        .is("rung(2, 0)", 3).is("rung(1, 2147483647)", -1)
        .wrong("rung(1, -1)").wrong("rung(12, 0)").wrong("rung(-1, 0)");
  }

  private static void damage() {
    new Script("promise 19")
        .go("harm(1, 2, 5, 30)", "grow(0, 4)", "grow(0, 6)", "reopen(0)")
        .is("damage(0, 0)", 1).is("damage(0, 1)", 2).is("damage(0, 2)", 5).is("damage(0, 3)", 40).is("damage(0, 4)", 40)
        .is("damage(0, 5)", 2).wrong("damage(0, 6)").wrong("damage(0, -1)").missing("damage(1, 6)").missing("damage(-1, 0)");
  }

  private static void perLayer() {
    new Script("promises 20 to 22: numbers")
        .go("place(0, 30, 50, 2)", "place(1, 0, 5, 2)", "harm(0, 0, 1, 40)", "harm(0, 0, 1, 20)")
        .is("took(0, 0)", 10).is("took(1, 0)", 0).is("took(0, 1)", 0).is("hole(0, 0)", 30).is("hole(1, 0)", 20)
        .is("moved(0, 0)", 0)
        .missing("took(2, 0)").missing("took(0, 2)").missing("took(-1, 0)").missing("took(0, -1)")
        .missing("hole(2, 0)").missing("hole(0, 2)").missing("hole(-1, 0)").missing("hole(0, -1)")
        .missing("moved(2, 0)").missing("moved(0, 2)").missing("moved(-1, 0)").missing("moved(0, -1)").is("status(0)", 12);
    new Script("promise 21: a layer that comes later cuts a hole")
        .go("place(0, 50, 10, 1)", "harm(0, 0, 0, 30)").is("hole(0, 0)", 30)
        // From 10 to 20 there is a layer now: 10 in its own hole, 10 in it, and the cut hole of 30 is gone through.
        .go("place(0, 10, 10, 1)").is("layer(0, 6)", 30).go("grow(0, 25)")
        .is("hole(0, 0)", 30).is("hole(0, 1)", 10).is("took(0, 1)", 10).is("took(0, 0)", 5).is("falls(0, 1)", 40)
        .go("place(0, 40, 10, 1)").is("layer(0, 6)", 0).is("layer(2, 6)", 20)
        .go("grow(0, 31)").is("hole(0, 0)", 30).is("hole(0, 2)", 20).is("took(0, 2)", 10).is("took(0, 0)", 6);
    new Script("promise 20: of one harm no more than its size, of all no more than size times times")
        .go("place(0, 0, 10, 2)", "harm(0, 0, 0, 15)", "harm(0, 0, 0, 7)", "harm(0, 0, 0, 9)", "harm(0, 0, 0, 9)")
        .is("took(0, 0)", 10).is("took(1, 0)", 7).is("took(2, 0)", 3).is("took(3, 0)", 0).is("falls(2, 2)", 6)
        .go("place(0, 20, 10, 1)", "grow(0, 20)").is("hole(0, 1)", 10).is("took(0, 1)", 10).is("took(0, 0)", 10);
  }

  private static void movedInAll() {
    new Script("promise 22: given less got")
        .go("place(0, 0, 60, 1)", "place(1, 0, 40, 1)", "place(2, 0, 40, 1)", "rules(0, 2, 3)", "harm(0, 2, 2, 61)")
        // Paid: 60, 1, 0. Fair: 21, 20, 20. In excess: 39; in debt: 19 and 20. All 39 move.
        .is("took(0, 0)", 21).is("took(0, 1)", 20).is("took(0, 2)", 20)
        .is("moved(0, 0)", -39).is("moved(0, 1)", 19).is("moved(0, 2)", 20)
        .go("grow(0, 9)")
        // Paid: 9 of layer 0. Fair: 3 each.
        .is("moved(0, 0)", -45).is("moved(0, 1)", 22).is("moved(0, 2)", 23)
        .go("rules(0, 3, 0)", "grow(0, 3)").is("moved(0, 0)", -45).is("took(0, 0)", 25)
        .go("reopen(0)").is("moved(0, 0)", 0).is("moved(0, 2)", 0);
    new Script("promise 22: less debt than excess, by shares and by ones")
        .go("place(0, 0, 50, 1)", "place(0, 50, 30, 1)", "place(1, 0, 10, 1)", "rules(2, 2, 3)", "harm(0, 1, 4, 77)")
        // Paid: 50, 27, 0. Fair (five years, shares 16, 16, 15, 15, 15): 16, 0, 10. In excess: 34 and 27; in debt: 10.
        // 10 by 34 of 61 is 5, by 27 of 61 is 4; the one left is for the first one.
        .is("moved(0, 0)", -6).is("moved(0, 1)", -4).is("moved(0, 2)", 10)
        .is("took(0, 0)", 44).is("took(0, 1)", 23).is("took(0, 2)", 10).is("damage(0, 4)", 77).is("falls(0, 4)", 77);
  }

  private static void bearsAndFalls() {
    Script s = new Script("promises 23 and 24");
    s.go("place(0, 5, 40, 1)", "sign(0, 0, 2)", "sign(0, 1, 2)", "sign(0, 2, 2)", "sign(0, 3, 2)", "settle(2, 100)",
        "fall(3)", "harm(0, 1, 1, 120)");
    // 60 a year: year 0 has 5 in its hole, 40 in its layer, 15 above; year 1 is a gap.
    long[] reasons = {8, 5, 15, 60, 8, 8, 8};
    for (int reason = 0; reason < 7; reason++) s.is("falls(0, " + reason + ")", reasons[reason]);
    long[] borne = {112, 8, 0, 0, 0, 0, 0, 0, 0, 0};
    for (int insurer = 0; insurer < 10; insurer++) s.is("bears(0, " + insurer + ")", borne[insurer]);
    s.missing("bears(1, 0)").missing("bears(-1, 10)").wrong("bears(0, 10)").wrong("bears(0, -1)")
        .missing("falls(1, 0)").missing("falls(-1, 7)").wrong("falls(0, 7)").wrong("falls(0, -1)");
  }

  private static void splitting() {
    new Script("what a layer takes is split: cut, then by ones to the first ones")
        .go("place(0, 0, 100, 1)", "sign(0, 4, 1)", "sign(0, 3, 2)", "sign(0, 2, 3)", "sign(0, 1, 3)", "harm(0, 0, 0, 19)")
        // 19 by 9 tenths is 17; 1, 3, 5, 5 are 14; the first three have one more.
        .is("bears(0, 4)", 2).is("bears(0, 3)", 4).is("bears(0, 2)", 6).is("bears(0, 1)", 5).is("falls(0, 4)", 2)
        .go("grow(0, 1)")
        // 1 by 9 tenths is 0: all of it is unsigned.
        .is("bears(0, 4)", 2).is("falls(0, 4)", 3).is("signed(0, 0, 2)", 2);
  }

  private static void insurer() {
    Script s = new Script("promise 25");
    s.go("place(0, 0, 33, 2)", "place(1, 0, 10, 1)", "place(2, 0, 15, 1)", "sign(0, 1, 5)", "sign(1, 1, 10)",
        "sign(2, 0, 7)", "sign(2, 1, 1)", "harm(0, 0, 0, 33)", "harm(1, 1, 1, 8)", "settle(1, 12)", "settle(3, 5)",
        "fall(4)", "harm(2, 2, 2, 10)");
    // Left: 33, 2, 5. Of these insurer 1 has 16 (cut), 2 and 0, the insured 3.
    // Insurer 1 bears 16 (cut) of 33, and 8; the insured 17 unsigned of harm 0, and all of harm 2 (7 own, 1 settled,
    // 2 unsigned).
    long[][] due = {{27, 0, 17, 1, 3}, {24, 1, 12, 3, 18}, {0, 0, 0, 0, 0}, {0, 1, 5, 0, 0}, {0, 2, 0, 0, 0}};
    for (int i = 0; i < due.length; i++) {
      for (int what = 0; what < 5; what++) s.is("insurer(" + i + ", " + what + ")", due[i][what]);
    }
    s.wrong("insurer(10, 0)").wrong("insurer(-1, 0)").wrong("insurer(0, 5)").wrong("insurer(0, -1)");
    new Script("promise 25: cash of all goes beyond an int")
        .go("settle(1, 1000000000)", "settle(2, 1000000000)", "settle(3, 1000000000)").is("insurer(0, 2)", 3000000000L);
  }

  private static void burden() {
    new Script("promise 26")
        .go("place(0, 5, 10, 1)", "harm(0, 0, 0, 8)", "harm(0, 0, 0, 13)", "harm(3, 3, 3, 50)", "harm(4, 4, 4, 1)")
        .is("burden(0)", 0).is("burden(1)", 10).is("burden(2)", 1).is("burden(3)", 51).is("burden(4)", 10)
        .is("burden(5)", 0).is("burden(6)", 0).wrong("burden(7)").wrong("burden(-1)");
  }

  private static void rank() {
    Script s = new Script("promise 27");
    s.go("place(0, 0, 100, 1)", "sign(0, 7, 3)", "sign(0, 4, 3)", "sign(0, 9, 4)", "harm(0, 0, 0, 100)");
    int[] due = {9, 4, 7, 0, 1, 2, 3, 5, 6, 8};
    for (int k = 0; k < 10; k++) s.is("rank(" + k + ")", due[k]);
    s.wrong("rank(10)").wrong("rank(-1)").go("harm(0, 0, 0, 35)").is("rank(0)", 9).is("rank(1)", 0).is("rank(2)", 4);
  }
}
