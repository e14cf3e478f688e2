/** The sentences of promises 10 to 14, and of the terms, about the small language and the PACKETS. */
public final class HouseEdgesTest extends Edges {
    private static final String FIGURES = "0123456789", ABOVE_NOUGHT = "123456789", LETTERS = "pchsly";
    /** What can stand at each place of an item. */
    private static final String[] NEEDS = {"n", ABOVE_NOUGHT, FIGURES, FIGURES};
    private static final String[] PACKET = {LETTERS, ABOVE_NOUGHT, FIGURES, FIGURES, ABOVE_NOUGHT};
    private static final String SIX_CLOSE = "n340p4409c5455h3302s9808l4359y2203";

    public static void main(String[] args) {
        everySignAtEveryPlace();
        everyEnd();
        blanks();
        numbersOfPackets();
        faultRefused();
        house();
        houseAnew();
        letters();
        packetTold();
        packetRefused();
        markOfCards();
        markOfOthers();
        markRefused();
        larder();
        end();
    }

    private static int faultOf(String words) {
        LargerPacket x = new LargerPacket();
        x.text(0, words.length());
        for (int i = 0; i < words.length(); i++) {
            x.put(0, i, words.charAt(i));
        }
        int fault = x.fault(0);
        expect("house of '" + words + "'", x.house(0) == STATE, fault != NONE);
        return fault;
    }

    private static void faultIs(String words, int want) {
        expect("fault of '" + words + "'", faultOf(words), want);
    }

    private static String allowed(int place) {
        return place < 4 ? NEEDS[place] : PACKET[(place - 4) % 5];
    }

    private static void everySignAtEveryPlace() {
        says(0, "A FAULT is the first place at which it can't go on so (a letter, a figure that is none such,");
        faultIs(SIX_CLOSE, NONE);
        for (int place = 0; place < SIX_CLOSE.length(); place++) {
            boolean begins = place == 0 || place >= 4 && (place - 4) % 5 == 0;
            for (int sign = 0; sign < 256; sign++) {
                String words = SIX_CLOSE.substring(0, place) + (char) sign + SIX_CLOSE.substring(place + 1);
                int want = place;
                if (allowed(place).indexOf(sign) >= 0) {
                    want = NONE;
                } else if (sign == ' ' && begins) {
                    // A blank can be there, but not the figure behind it.
                    want = place + 1;
                }
                faultIs(words, want);
            }
        }
        // The first of several faults.
        faultIs("n340p44x9q", 7);
        faultIs("x040q", 0);
    }

    private static void everyEnd() {
        says(0, "the TEXT's size, if its end comes too early, or there are blanks alone).");
        for (int size = 0; size <= SIX_CLOSE.length(); size++) {
            boolean whole = size > 4 && (size - 4) % 5 == 0;
            faultIs(SIX_CLOSE.substring(0, size), whole ? NONE : size);
        }
        for (int size = 0; size <= 60; size++) {
            faultIs(" ".repeat(size), size);
        }
        faultIs("n340 ", 5);
        faultIs(" ".repeat(56) + "n340", 60);
        faultIs(" ".repeat(51) + "n340p4409", NONE);
        faultIs(" ".repeat(52) + "n340p440", 60);
        faultIs(" ".repeat(59) + "n", 60);
        faultIs(" ".repeat(59) + "p", 59);
    }

    private static void blanks() {
        says(0, "blanks (32) ahead, between, behind as many as wanted, none within items.");
        faultIs("n340" + " ".repeat(51) + "p4409", NONE);
        faultIs("n340p4409" + " ".repeat(51), NONE);
        faultIs(" n340 p4409 c5455 h3302 s9808 l4359 y2203 ", NONE);
        faultIs("     n340     p4409     c5455     h3302     s9808      l4359", NONE);
        for (int place = 1; place < SIX_CLOSE.length(); place++) {
            String words = SIX_CLOSE.substring(0, place) + " " + SIX_CLOSE.substring(place);
            faultIs(words, (place - 4) % 5 == 0 && place >= 4 ? NONE : place);
        }
        // Other signs that look empty are no blanks.
        for (int sign : new int[] {0, 9, 10, 13, 31, 33, 160}) {
            faultIs((char) sign + SIX_CLOSE, 0);
            faultIs("n340" + (char) sign + "p4409", 4);
            faultIs("n340p4409" + (char) sign, 9);
        }
    }

    private static void numbersOfPackets() {
        says(0, "Then PACKETS (1 to 6; 0, 1, .. as they come):");
        faultIs("n340", 4);
        faultIs("n340   ", 7);
        faultIs("n340p4409", NONE);
        Run run = Run.of("n340  y1001 p9999");
        run.due("count(0)", 2).told("packet(0, 0)", 5).told("packet(1, 0)", 0).refused("packet(2, 0)", BAD);
        Run.of(SIX).due("count(0)", 6).told("packet(5, 0)", 5).refused("packet(6, 0)", BAD);
        says(0, "a seventh PACKET: its place;");
        faultIs(SIX_CLOSE + "p4409", 34);
        faultIs(SIX_CLOSE + "p", 34);
        faultIs(SIX_CLOSE + "   p4409", 37);
        faultIs(SIX_CLOSE + " ".repeat(21) + "p4409", 55);
        faultIs(SIX_CLOSE + " ".repeat(25) + "p", 59);
        faultIs(SIX_CLOSE + " ".repeat(26), NONE);
        says(0, "First n (110), the NEED (1 .. 9, one figure), the ROOM (two figures, 00 .. 99).");
        Run.of("n100p1001").due("count(14)", 1).due("count(15)", 0);
        Run.of("n999p1001").due("count(14)", 9).due("count(15)", 99);
        Run.of("n507p1001").due("count(14)", 5).due("count(15)", 7);
        Run.of("n570p1001").due("count(14)", 5).due("count(15)", 70);
        faultIs("n000p1001", 1);
        faultIs("n1100p1001", 4);
        faultIs("n11p1001", 3);
    }

    private static void faultRefused() {
        says(10, "A FAULT of a TEXT; NONE: there is none.");
        Run run = new Run().write(0, "n340").write(3, "n340p4409").does("text(1, 0)");
        run.due("fault(0)", 4).due("fault(3)", NONE).due("fault(1)", 0).due("asked()", 0).due("count(0)", 0);
        says(10, "BAD; NOTHING.");
        run.takes("fault(#)", 0, 3, BAD, BAD).refused("fault(2)", NOTHING).refused("fault(4)", BAD);
        for (int t = 0; t < 4; t++) {
            new Run().refused("fault(" + t + ")", NOTHING).does("text(" + t + ", 2)").due("fault(" + t + ")", 2);
        }
    }

    private static void house() {
        says(11, "A HOUSE by a TEXT");
        Run run = new Run();
        for (int t = 0; t < 4; t++) {
            run.write(t, "n" + (t + 1) + "5" + t + "p4409");
        }
        run.takes("house(#)", 0, 3);
        for (int t = 0; t < 4; t++) {
            run.due("house(" + t + ")", 1).due("count(14)", t + 1).due("count(15)", 50 + t);
        }
        // A HOUSE stays as it was read, whatever becomes of the TEXT.
        run.does("text(3, 0)", "put(0, 0, 0)").due("count(14)", 4).due("count(15)", 53).told("packet(0, 1)", 4);
        says(11, "BAD; NOTHING;");
        run = new Run().write(0, SIX);
        run.refused("house(-1)", BAD).refused("house(4)", BAD).refused("house(MIN)", BAD).refused("house(MAX)", BAD);
        run.refused("house(1)", NOTHING).refused("house(3)", NOTHING);
        run.does("house(0)", "buy(0, 2)", "card(1)", "keep(1)", "week()");
        run.refused("house(4)", BAD).refused("house(1)", NOTHING);
        says(11, "STATE: a FAULT. (STATE behind NOTHING.)");
        run.does("text(1, 0)").refused("house(1)", STATE).write(1, SIX + "p4409").refused("house(1)", STATE);
        run.does("text(1, 60)").refused("house(1)", STATE).write(1, "n34").refused("house(1)", STATE);
        run.countsAre(6, 1, 3, 80, 5, 3, 0, 0, 1, 2, 2, 0, 2, 1, 3, 40);
        run.does("text(1, 0)").refused("house(1)", STATE).refused("house(2)", NOTHING);
    }

    private static void houseAnew() {
        says(11, "(anew: WEEK 0, an empty LARDER, no card, no DEEDS; kept HOUSES go): how many PACKETS.");
        Run run = Run.of(SIX).does("keep(0)", "card(1)", "buy(2, 3)", "buy(5, 3)", "week()", "week()", "week()", "week()");
        run.does("shrink(0)", "price(0, 99)", "buy(0, 1)", "keep(1)", "keep(2)");
        run.countsAre(6, 4, 10, 199, 3, 9, 3, 6, 1, 2, 2, 0, 1, 3, 3, 40);
        run.due("house(3)", 6).countsAre(6, 0, 0, 0, 0, 0, 0, 0, 0, 2, 2, 0, 1, 0, 3, 40).larderIs();
        run.told("packet(0, 1)", 4).told("packet(0, 2)", 40).told("packet(1, 4)", 45);
        run.refused("undo(0)", BAD).refused("on(0)", NOTHING).refused("on(1)", NOTHING).refused("on(2)", NOTHING);
        // ROWS and TEXTS stay, and so do what was told and the FINDINGS.
        run = Run.of(SIX).lay(4, 8, 9).does("rate(4)", "at(4, 1)").refused("on(0)", NOTHING).does("house(3)");
        run.rowIs(4, 8, 9).due("asked()", 9).due("upper()", 17).due("lower()", 2).due("finding()", NOTHING);
        // From 40 DEEDS on, and from a large HOUSE to a small one.
        run = Run.of(SIX).deeds(40).write(0, "n101y1001").due("house(0)", 1).due("count(2)", 0).due("week()", 0);
        run.refused("packet(1, 0)", BAD).due("count(10)", 1).due("count(9)", 0);
        says(0, "A HOUSE (without PACKETS at first) is a TEXT:");
        new Run().due("count(0)", 0).does("text(0, 5)").refused("house(0)", STATE).due("count(0)", 0);
    }

    private static void letters() {
        says(0, "KINDS of PACKETS and letters: 0 PACKET (p, 112), 1 CARD (c, 99; a PACKET), 2 HEAP (h, 104; a PACKET),");
        Run run = Run.of(SIX).told("packet(0, 0)", 0).told("packet(1, 0)", 1).told("packet(2, 0)", 2);
        says(0, "3 SACK (s, 115; a PACKET), 4 PLAIN (l, 108; a CARD), 5 YOGHURT (y, 121; a HEAP).");
        run.told("packet(3, 0)", 3).told("packet(4, 0)", 4).told("packet(5, 0)", 5);
        run.due("mark(4, 1)", 9).due("mark(5, 2)", 20).refused("mark(1, 4)", UNLIKE).refused("mark(2, 5)", UNLIKE);
        says(0, "a letter, GRAMS (1 .. 9; hundreds of them, as all here), the PRICE (two figures, 00 .. 99),");
        run = Run.of("n199p1001p9999p5075p5705");
        run.told("packet(0, 1)", 1).told("packet(1, 1)", 9).told("packet(0, 2)", 0).told("packet(1, 2)", 99);
        run.told("packet(2, 2)", 7).told("packet(3, 2)", 70);
        says(0, "how many WEEKS it KEEPS (1 .. 9).");
        run.told("packet(0, 3)", 1).told("packet(1, 3)", 9);
    }

    private static void packetTold() {
        says(12, "Of a PACKET: 0 the KIND, 1 GRAMS, 2 the PRICE, 3 how long it KEEPS (a YOGHURT: half, cut), 4 what one COSTS now,");
        // Each KIND at the least and at the greatest numbers; the last two are without, with the card.
        int[][] least = {{0, 1, 0, 1, 0, 1}, {1, 1, 0, 1, 0, 1}, {2, 1, 0, 1, 0, 1},
            {3, 1, 0, 1, 0, 0}, {4, 1, 0, 1, 0, 1}, {5, 1, 0, 0, 0, 1}};
        int[][] greatest = {{0, 9, 99, 9, 99, 9}, {1, 9, 99, 9, 99, 9}, {2, 9, 99, 9, 99, 9},
            {3, 9, 99, 9, 49, 4}, {4, 9, 99, 9, 98, 9}, {5, 9, 99, 4, 99, 9}};
        packetsAre(Run.of("n100p1001c1001h1001s1001l1001y1001"), least);
        packetsAre(Run.of("n100p9999c9999h9999s9999l9999y9999"), greatest);
        greatest[1][4] = 74;
        greatest[4][4] = 73;
        packetsAre(Run.of("n100p9999c9999h9999s9999l9999y9999").does("card(1)"), greatest);
        says(12, "5 how many GRAMS one gets by one, told by asked(): 1.");
        Run run = Run.of("n100s1001s2001s3001s9001");
        run.told("packet(0, 5)", 0).told("packet(1, 5)", 1).told("packet(2, 5)", 1).told("packet(3, 5)", 4);
        run.does("shrink(1)").told("packet(1, 5)", 0).told("packet(1, 1)", 1);
        says(0, "of a YOGHURT as much as of a HEAP, but it KEEPS half as long (cut).");
        run = Run.of("n199y1991y1992y1993y1999h1999");
        run.told("packet(0, 3)", 0).told("packet(1, 3)", 1).told("packet(2, 3)", 1).told("packet(3, 3)", 4);
        run.does("buy(0, 1)", "buy(3, 1)", "buy(4, 1)").larderIs(1, 0, 0, 0, 1, 0, 0, 0, 0, 1);
        for (int n = 0; n <= 40; n++) {
            run.due("costs(0, " + n + ")", run.call("costs(4, " + n + ")"));
        }
    }

    private static void packetsAre(Run run, int[][] want) {
        for (int i = 0; i < want.length; i++) {
            for (int what = 0; what < 6; what++) {
                run.told("packet(" + i + ", " + what + ")", want[i][what]);
            }
        }
    }

    private static void packetRefused() {
        says(12, "BAD.");
        Run.of(SIX).does("packet(1, 2)").takes("packet(#, 0)", 0, 5).takes("packet(0, #)", 0, 5);
        Run.of("n340p4409").takes("packet(#, 5)", 0, 0).refused("packet(1, 6)", BAD).refused("packet(-1, -1)", BAD);
        new Run().refused("packet(0, 0)", BAD).refused("packet(-1, 0)", BAD).refused("packet(0, 6)", BAD);
    }

    private static void markOfCards() {
        says(13, "a CARD (PLAIN, too) what the card saves by one, whether one has it, or not,");
        int[] prices = {0, 1, 2, 3, 4, 5, 8, 98, 99};
        int[] saved = {0, 1, 1, 1, 1, 2, 2, 25, 25};
        Run run = Run.of("n199c1501l1501");
        for (int has = 0; has < 2; has++) {
            for (int k = 0; k < prices.length; k++) {
                run.does("price(0, " + prices[k] + ")", "price(1, " + prices[k] + ")").due("mark(0, 1)", saved[k]);
                // One PLAIN one at the PRICE 1 COSTS nothing, with the card or without.
                run.due("mark(1, 1)", prices[k] == 1 ? 0 : saved[k]);
            }
            run.does("undo(0)", "card(1)");
        }
        says(13, "a PLAIN one how much less one COSTS now than a CARD would,");
        run = Run.of("n199l1001l1011l1021l1991");
        run.due("mark(0, 4)", 0).due("mark(1, 4)", 1).due("mark(2, 4)", 1).due("mark(3, 4)", 1);
        run.does("card(1)").due("mark(0, 4)", 0).due("mark(1, 4)", 0).due("mark(2, 4)", 1).due("mark(3, 4)", 1);
    }

    private static void markOfOthers() {
        says(13, "What a PACKET that IS of a KIND tells:");
        int[][] want = {{-3, -3, -3, -3, -3}, {12, -3, -3, -3, -3}, {-3, 30, -3, -3, -3},
            {-3, -3, 5, -3, -3}, {9, -3, -3, 1, -3}, {-3, 20, -3, -3, 2}};
        Run run = Run.of(SIX);
        for (int i = 0; i < 6; i++) {
            for (int kind = 1; kind < 6; kind++) {
                run.due("mark(" + i + ", " + kind + ")", want[i][kind - 1]);
            }
        }
        run.due("findings(3)", 23).due("asked()", 0);
        says(13, "a HEAP (YOGHURT, too) how much less three COST than thrice one,");
        run = Run.of("n199h1001h1991y1001y1991");
        run.due("mark(0, 2)", 0).due("mark(1, 2)", 99).due("mark(2, 2)", 0).due("mark(3, 2)", 99);
        says(13, "a SACK how many GRAMS of one one does not get,");
        run = Run.of("n199s1501s2501s8501s9501");
        run.due("mark(0, 3)", 1).due("mark(1, 3)", 1).due("mark(2, 3)", 4).due("mark(3, 3)", 5);
        run.does("shrink(3)").due("mark(3, 3)", 4);
        says(13, "a YOGHURT how many WEEKS less it KEEPS than a HEAP would.");
        run = Run.of("n199y1501y1502y1508y1509");
        run.due("mark(0, 5)", 1).due("mark(1, 5)", 1).due("mark(2, 5)", 4).due("mark(3, 5)", 5);
    }

    private static void markRefused() {
        says(13, "BAD: also KIND 0;");
        Run.of("n199l1501").takes("mark(#, 1)", 0, 0);
        Run run = Run.of(SIX);
        for (int kind : new int[] {MIN, -1, 0, 6, MAX}) {
            run.refused("mark(1, " + kind + ")", BAD).refused("mark(0, " + kind + ")", BAD);
        }
        for (int i : new int[] {MIN, -1, 6, MAX}) {
            run.refused("mark(" + i + ", 1)", BAD).refused("mark(" + i + ", 0)", BAD);
        }
        new Run().refused("mark(0, 1)", BAD).refused("mark(0, 0)", BAD);
        says(13, "UNLIKE.");
        run.refused("mark(0, 1)", UNLIKE).refused("mark(0, 5)", UNLIKE).refused("mark(5, 1)", UNLIKE);
        run.refused("mark(4, 5)", UNLIKE).refused("mark(3, 4)", UNLIKE).refused("mark(3, 2)", UNLIKE);
        says(0, "3 UNLIKE (a PACKET of another KIND; a number that is none),");
        run.due("finding()", UNLIKE).due("findings(3)", 6).lay(0, 21, 0).refused("kinds(0, 0)", UNLIKE).due("findings(3)", 7);
    }

    private static void larder() {
        says(0, "In the LARDER are GRAMS that keep 0 .. 9 WEEKS more.");
        Run run = Run.of("n199p1009p2018p3027p4036p5045y1001");
        run.does("buy(0, 1)", "buy(1, 1)", "buy(2, 1)", "buy(3, 1)", "buy(4, 1)", "buy(5, 3)");
        run.larderIs(3, 0, 0, 0, 0, 5, 4, 3, 2, 1);
        says(14, "GRAMS in the LARDER that keep k (0 .. 9) WEEKS more.");
        run.does("buy(0, 3)").due("larder(9)", 4).due("larder(0)", 3);
        says(14, "BAD.");
        run.takes("larder(#)", 0, 9);
        new Run().takes("larder(#)", 0, 9).larderIs();
    }
}
