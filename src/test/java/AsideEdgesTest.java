/** The sentences of promises 30, 31 and 33 to 38, and of the terms, about what is reckoned aside. */
public final class AsideEdgesTest extends Edges {
    private static final String SIX_OF_NINE = "n100p9991c9991h9991p9991l9991y9991";

    public static void main(String[] args) {
        off();
        lasts();
        pairs();
        pairsRefused("kinds");
        pairsRefused("prices");
        kinds();
        prices();
        grams();
        shopTurns();
        shopRefused();
        odds();
        mid();
        end();
    }

    private static void off() {
        says(30, "How much goes off in n (0 .. 20) WEEKS, if nothing is BOUGHT.");
        Run run = Run.of("n199y9001p9009").due("off(0)", 0).due("off(20)", 0).does("buy(0, 3)", "buy(0, 3)", "buy(0, 3)", "buy(0, 2)");
        run.due("off(0)", 0).due("off(1)", 98).due("off(2)", 98).due("off(20)", 98).due("count(7)", 0).due("count(4)", 99);
        run = Run.of("n199y9001p9009").does("buy(1, 2)").due("off(9)", 0).due("off(10)", 8).due("off(11)", 8).due("off(20)", 8);
        run.due("count(1)", 0).due("larder(9)", 18).due("asked()", 0);
        run = Run.of("n399y5001p5001p5009").does("buy(0, 1)", "buy(1, 1)", "buy(2, 1)").due("off(1)", 2).due("off(2)", 4).due("off(20)", 4);
        run.does("week()").due("off(1)", 2).due("off(20)", 2).due("count(7)", 2);
        says(30, "BAD; STATE: no PACKETS.");
        run.takes("off(#)", 0, 20);
        new Run().refused("off(0)", STATE).refused("off(20)", STATE).refused("off(21)", BAD).refused("off(-1)", BAD);
    }

    private static void lasts() {
        says(31, "How many WEEKS it lasts without HUNGER so (0 .. 30).");
        Run run = Run.of("n399p2009p1009").due("lasts()", 0).does("buy(0, 1)").due("lasts()", 0).does("buy(1, 1)").due("lasts()", 1);
        run.does("buy(0, 1)").due("lasts()", 1).does("buy(1, 1)").due("lasts()", 2).due("count(4)", 6).due("count(1)", 0);
        run = Run.of("n199p9009p1009").does("buy(0, 1)").due("lasts()", 9).does("buy(1, 1)").due("lasts()", 10);
        run.does("buy(1, 1)").due("lasts()", 10).does("week()").due("lasts()", 9);
        // Nothing keeps longer: 99 GRAMS at a NEED of 9 would be 11 WEEKS.
        run = Run.of("n999p9009").does("buy(0, 3)", "buy(0, 3)", "buy(0, 3)", "buy(0, 2)").due("lasts()", 10).due("off(20)", 9);
        Run.of("n399y9001").does("buy(0, 3)").due("lasts()", 1);
        Run.of("n399p9001").does("buy(0, 3)").due("lasts()", 2).due("asked()", 0);
        says(31, "STATE: no PACKETS.");
        new Run().refused("lasts()", STATE);
    }

    private static void pairs() {
        says(0, "by what it cost (a ROW of pairs: how many 0 .. 20, what they COST, as one has the card now; 0 to 6 pairs:");
        Run run = Run.of("n199p4401").does("row(0, 0)").due("kinds(0, 0)", 63).due("prices(0, 0)", 100).does("row(0, 12)");
        run.due("kinds(0, 0)", 63).due("prices(0, 0)", 100).does("lay(0, 10, 20)", "lay(0, 11, 800)").due("kinds(0, 0)", 3);
        run.due("prices(0, 0)", 1).due("asked()", 40).does("card(1)").due("kinds(0, 0)", 1).does("lay(0, 11, 600)").due("kinds(0, 0)", 2);
        run.does("lay(0, 11, 580)").due("kinds(0, 0)", 16).does("lay(0, 11, 560)").due("kinds(0, 0)", 4 + 32);
        run.does("lay(0, 11, 400)").due("kinds(0, 0)", 8).does("lay(0, 11, 401)").due("kinds(0, 0)", 0);
        run.lay(0, 0, 1).due("kinds(0, 0)", 0).due("prices(0, 0)", 0).due("asked()", NONE);
        run.lay(0, 1, MAX).due("kinds(0, 0)", 0).due("prices(0, 0)", 0).lay(0, 20, MAX).due("kinds(0, 0)", 0).due("prices(0, 0)", 0);
        run.due("finding()", 0);
    }

    private static void pairsRefused(String call) {
        says(0, "NOTHING; SIZE; UNLIKE: not so many, below 0; behind BAD).");
        Run run = Run.of(SIX);
        String these = call + "(0, 0)";
        for (int r = 0; r < 6; r++) {
            run.refused(call + "(0, " + r + ")", NOTHING);
        }
        for (int size : new int[] {1, 3, 5, 7, 9, 11, 13, 14, 39, 40}) {
            run.does("row(0, " + size + ")").refused(these, SIZE);
        }
        // The SIZE is looked at ahead of what lies there.
        run.lay(0, -1, -1, 21).refused(these, SIZE).does("row(0, 14)", "lay(0, 0, 21)").refused(these, SIZE);
        for (int many : new int[] {MIN, -1, 21, MAX}) {
            run.lay(0, many, 0).refused(these, UNLIKE).does("row(0, 12)", "lay(0, 10, " + many + ")").refused(these, UNLIKE);
        }
        for (int cost : new int[] {MIN, -1}) {
            run.lay(0, 1, cost).refused(these, UNLIKE).does("row(0, 12)", "lay(0, 11, " + cost + ")").refused(these, UNLIKE);
        }
        // An UNLIKE pair behind one that no PACKET fits.
        run.lay(0, 1, 9999, 21, 0).refused(these, UNLIKE);
        String[] bad = {"(6, 0)", "(-1, 0)", "(0, 6)", "(0, -1)", "(6, 5)", "(MIN, 0)", "(MAX, 0)", "(0, MIN)", "(0, MAX)"};
        for (String args : bad) {
            run.refused(call + args, BAD);
        }
        run.does("packet(0, 2)", "row(0, 3)").refused(call + "(6, 0)", BAD).refused(these, SIZE).due("asked()", 40);
        Run.of(SIX).does("row(0, 0)").takes(call + "(#, 0)", 0, 5);
        Run all = Run.of(SIX);
        for (int r = 0; r < 6; r++) {
            all.does("row(" + r + ", 0)");
        }
        all.takes(call + "(0, #)", 0, 5);
        new Run().refused(call + "(0, 0)", BAD).does("row(0, 0)").refused(call + "(0, 0)", BAD).refused(call + "(-1, 0)", BAD);
    }

    private static void kinds() {
        says(33, "Of which KINDS (bits) a PACKET can be by these, its PRICE as it is.");
        Run run = Run.of("n199p4401s4401y4001l4991").lay(0, 1, 40).due("kinds(0, 0)", 1 + 2 + 4 + 32).due("kinds(1, 0)", 39);
        run.due("kinds(2, 0)", 0).lay(0, 3, 120).due("kinds(0, 0)", 1 + 2).lay(0, 3, 80).due("kinds(0, 0)", 4 + 32);
        run.lay(0, 1, 20).due("kinds(0, 0)", 8).lay(0, 1, 39).due("kinds(0, 0)", 16).lay(0, 1, 40, 1, 41).due("kinds(0, 0)", 0);
        run.lay(0, 1, 40, 3, 80, 0, 0).due("kinds(0, 0)", 4 + 32).lay(0, 20, 0).due("kinds(2, 0)", 63).due("kinds(0, 0)", 0);
        run.lay(0, 20, 1980).due("kinds(3, 0)", 1 + 2).does("price(3, 98)").due("kinds(3, 0)", 0).due("asked()", 0);
        says(33, "BAD; NOTHING; SIZE; UNLIKE.");
        run.refused("kinds(4, 1)", BAD).refused("kinds(0, 1)", NOTHING).does("row(1, 1)").refused("kinds(0, 1)", SIZE);
        run.lay(1, -1, 0).refused("kinds(0, 1)", UNLIKE);
    }

    private static void pricesAre(Run run, int i, int many, int least) {
        run.due("prices(" + i + ", 0)", many).due("asked()", least);
    }

    private static void prices() {
        says(34, "Which PRICES there can be by these: how many (of 0 .. 99);");
        Run run = Run.of("n199p4401c4401h4401s4401l4401y4401").lay(0);
        pricesAre(run, 0, 100, 0);
        run.lay(0, 1, 0);
        pricesAre(run, 0, 1, 0);
        pricesAre(run, 1, 1, 0);
        pricesAre(run, 3, 2, 0);
        pricesAre(run, 4, 2, 0);
        run.lay(0, 1, 99);
        pricesAre(run, 0, 1, 99);
        pricesAre(run, 5, 1, 99);
        pricesAre(run, 4, 0, NONE);
        run.lay(0, 20, 1980);
        pricesAre(run, 0, 1, 99);
        run.lay(0, 1, 49);
        pricesAre(run, 3, 2, 98);
        run.lay(0, 3, 198);
        pricesAre(run, 2, 1, 99);
        says(34, "the least by asked() (NONE: there is none).");
        run.lay(0, 1, 100);
        pricesAre(run, 0, 0, NONE);
        run.lay(0, 1, 50);
        pricesAre(run, 3, 0, NONE);
        run.lay(0, 20, 2000);
        pricesAre(run, 0, 0, NONE);
        run.lay(0, 1, 20, 3, 61);
        pricesAre(run, 3, 1, 41);
        run.does("card(1)").lay(0, 1, 0);
        pricesAre(run, 1, 2, 0);
        pricesAre(run, 4, 3, 0);
        run.lay(0, 1, 74);
        pricesAre(run, 1, 1, 99);
        run.lay(0, 1, 72);
        pricesAre(run, 1, 2, 96);
        says(34, "BAD; NOTHING; SIZE; UNLIKE.");
        run.refused("prices(6, 1)", BAD).refused("prices(0, 1)", NOTHING).does("row(1, 1)").refused("prices(0, 1)", SIZE);
        run.lay(1, 1, -1).does("prices(1, 0)").refused("prices(0, 1)", UNLIKE).due("asked()", 96);
    }

    private static void grams() {
        says(35, "Which GRAMS (bits 1 .. 9) a PACKET can have, if by n (1 .. 40) of it one gets v (0 .. 360),");
        Run run = Run.of(SIX);
        for (int i : new int[] {0, 1, 2, 4, 5}) {
            String one = "grams(" + i + ", ";
            run.due(one + "1, 1)", 2).due(one + "1, 9)", 512).due(one + "1, 0)", 0).due(one + "1, 10)", 0);
            run.due(one + "40, 360)", 512).due(one + "40, 359)", 0).due(one + "40, 40)", 2).due(one + "40, 0)", 0);
            run.due(one + "1, 360)", 0).due(one + "39, 351)", 512).due(one + "3, 10)", 0);
        }
        says(35, "each for itself.");
        run.due("grams(3, 1, 0)", 2).due("grams(3, 40, 0)", 2).due("grams(3, 1, 1)", 4 + 8).due("grams(3, 1, 4)", 256 + 512);
        run.due("grams(3, 1, 5)", 0).due("grams(3, 40, 160)", 256 + 512).due("grams(3, 2, 5)", 0).due("grams(3, 2, 9)", 0);
        run.due("grams(3, 3, 4)", 0).due("grams(3, 40, 360)", 0).does("shrink(3)").due("grams(3, 1, 4)", 256 + 512).due("asked()", 0);
        says(35, "BAD.");
        run.takes("grams(0, #, 0)", 1, 40).takes("grams(0, 1, #)", 0, 360).takes("grams(#, 1, 1)", 0, 5).refused("grams(6, 0, 361)", BAD);
        new Run().refused("grams(0, 1, 0)", BAD).refused("grams(-1, 1, 0)", BAD).refused("grams(0, 0, 0)", BAD);
    }

    private static void shopTurns() {
        says(36, "By turns the shop makes one PACKET 7 dearer (99 at most), or none,");
        Run.of("n100p1911").told("shop(1)", 93).told("shop(2)", 93 + 94);
        Run.of("n100p1921").told("shop(1)", 94).told("shop(2)", 188);
        Run.of("n100p1931").told("shop(1)", 94).told("shop(2)", 188);
        Run.of("n100p1991").told("shop(1)", 94).told("shop(2)", 188);
        Run.of("n100p1851").told("shop(2)", 87 + 94);
        says(36, "then one BUYS one of a PACKET (the ROOM of no matter), n (0 .. 2) times each:");
        Run run = Run.of("n100p1201").told("shop(0)", 0).told("shop(1)", 22).told("shop(2)", 22 + 29).told("packet(0, 2)", 20);
        run.countsAre(1, 0, 0, 0, 0, 0, 0, 0);
        run = Run.of("n100c1201").told("shop(1)", 22).does("card(1)").told("shop(1)", 15).told("shop(2)", 15 + 20);
        Run.of("n100h1201").told("shop(2)", 22 + 29);
        Run.of("n100l1201").told("shop(2)", 21 + 28);
        says(36, "PENNIES so spent, less 5 for each of the GRAMS so had, told by asked(),");
        Run.of("n100s1001").told("shop(1)", 3).told("shop(2)", 3 + 7);
        Run.of("n100s9001").told("shop(1)", 3 - 20).told("shop(2)", 3 + 7 - 40);
        Run.of("n100p9001").told("shop(1)", 7 - 45).told("shop(2)", 21 - 90);
        run = Run.of("n100p9001").does("shrink(0)").told("shop(1)", 7 - 40);
        says(36, "the shop wanting much, the other one little: 1.");
        Run.of("n100p1201p1221").told("shop(1)", 17).told("shop(2)", 17 + 22);
        Run.of("n100p1201p1201p1201p1201p1201p1201").told("shop(1)", 15).told("shop(2)", 30);
        // By RATE alone the buyer would take the other one.
        Run.of("n100p9451p1991").told("shop(1)", 52 - 45).told("shop(2)", 7 + 14);
    }

    private static void shopRefused() {
        says(36, "BAD; STATE: no PACKETS.");
        Run.of(SIX).does("packet(0, 2)").takes("shop(#)", 0, 2).refused("shop(3)", BAD).due("asked()", 40);
        new Run().refused("shop(0)", STATE).refused("shop(2)", STATE).refused("shop(3)", BAD).refused("shop(-1)", BAD);
    }

    private static void odds() {
        says(37, "Chances that by one of each PACKET that is there one gets v (0 .. 54) GRAMS or more,");
        Run run = Run.of(SIX_OF_NINE).ratio("odds(54, 0)", 1, 1).ratio("odds(54, 1)", 1771561, 2985984);
        run.ratio("odds(54, 11)", 1, 2985984).ratio("odds(46, 11)", 1, 2985984).ratio("odds(45, 11)", 67, 2985984);
        run.ratio("odds(45, 6)", 7, 64).ratio("odds(0, 6)", 1, 1).ratio("odds(1, 6)", 63, 64).ratio("odds(9, 6)", 63, 64);
        run.ratio("odds(10, 6)", 57, 64).ratio("odds(1, 12)", 0, 1).ratio("odds(0, 12)", 1, 1).ratio("odds(54, 12)", 0, 1);
        run.ratio("odds(1, 0)", 1, 1).does("shrink(5)").ratio("odds(54, 0)", 0, 1).ratio("odds(53, 0)", 1, 1);
        Run.of("n100s9001s1001").ratio("odds(4, 3)", 3, 4).ratio("odds(5, 3)", 0, 1).ratio("odds(0, 3)", 1, 1);
        says(37, "if each of them is gone by p (0 .. 12) of 12, each by itself: 1.");
        run = Run.of("n100p5001");
        long[][] there = {{1, 1}, {11, 12}, {5, 6}, {3, 4}, {2, 3}, {7, 12}, {1, 2}, {5, 12}, {1, 3}, {1, 4}, {1, 6}, {1, 12}, {0, 1}};
        for (int p = 0; p <= 12; p++) {
            run.ratio("odds(5, " + p + ")", there[p][0], there[p][1]).due("asked()", 0);
        }
        Run.of("n100p2001p3001").ratio("odds(2, 3)", 15, 16).ratio("odds(3, 3)", 3, 4).ratio("odds(4, 3)", 9, 16).ratio("odds(5, 3)", 9, 16);
        says(37, "BAD; STATE: no PACKETS.");
        Run.of(SIX).takes("odds(#, 0)", 0, 54).takes("odds(0, #)", 0, 12).ratio("odds(2, 6)", 63, 64).refused("odds(55, 13)", BAD);
        new Run().refused("odds(0, 0)", STATE).refused("odds(54, 12)", STATE);
        new Run().refused("odds(55, 0)", BAD).refused("odds(-1, 0)", BAD).refused("odds(0, 13)", BAD).refused("odds(0, -1)", BAD);
    }

    private static void mid() {
        says(38, "The mean of what all that are there so COST, one of each: 1.");
        Run run = Run.of("n100p9991p9991h9991c9991p9991y9991").ratio("mid(0)", 594, 1).ratio("mid(11)", 99, 2).ratio("mid(12)", 0, 1);
        run.ratio("mid(6)", 297, 1).ratio("mid(1)", 1089, 2).does("card(1)").ratio("mid(0)", 569, 1).ratio("mid(5)", 3983, 12);
        run = Run.of("n100p1001s1011").ratio("mid(0)", 0, 1).ratio("mid(5)", 0, 1).ratio("mid(12)", 0, 1).due("asked()", 0);
        Run.of("n100p1011").ratio("mid(11)", 1, 12).ratio("mid(1)", 11, 12).ratio("mid(8)", 1, 3);
        says(38, "BAD; STATE: no PACKETS.");
        Run.of(SIX).takes("mid(#)", 0, 12).ratio("mid(4)", 418, 3).refused("mid(13)", BAD).refused("mid(-1)", BAD);
        new Run().refused("mid(0)", STATE).refused("mid(12)", STATE).refused("mid(13)", BAD).refused("mid(-1)", BAD);
    }
}
