/** The sentences of promises 23 to 29 and 32, and of the terms, about what it costs and what is least. */
public final class CostEdgesTest extends Edges {
    public static void main(String[] args) {
        costsOfKinds();
        costsRefused();
        rate();
        cheapest();
        larger();
        leastPennies();
        leastRow();
        leastRefused();
        weeksPennies();
        weeksRow();
        weeksRefused();
        waste();
        looks();
        looksRefused();
        end();
    }

    /** What 0, 1, 2, .. of PACKET i COST. */
    private static void costsAre(Run run, int i, int... want) {
        for (int n = 0; n < want.length; n++) {
            run.due("costs(" + i + ", " + n + ")", want[n]);
        }
    }

    private static void costsOfKinds() {
        says(0, "What n of one COST: n times the PRICE;");
        Run run = Run.of("n199p1011p1991");
        costsAre(run, 0, 0, 1, 2, 3, 4, 5);
        run.due("costs(0, 40)", 40).due("costs(1, 40)", 3960).due("costs(1, 39)", 3861).does("card(1)").due("costs(1, 40)", 3960);
        says(0, "of a CARD three quarters of that (cut), if one has the card;");
        run = Run.of("n199c1011c1991c1001");
        costsAre(run, 0, 0, 1, 2, 3, 4, 5);
        run.due("costs(1, 40)", 3960).does("card(1)");
        costsAre(run, 0, 0, 0, 1, 2, 3, 3, 4, 5, 6);
        costsAre(run, 1, 0, 74, 148, 222, 297);
        run.due("costs(1, 40)", 2970).due("costs(2, 40)", 0).does("card(0)").due("costs(1, 1)", 99);
        says(0, "of a HEAP each third one is free;");
        run = Run.of("n199h1011h1991");
        costsAre(run, 0, 0, 1, 2, 2, 3, 4, 4, 5, 6, 6, 7);
        run.due("costs(1, 2)", 198).due("costs(1, 3)", 198).due("costs(1, 38)", 26 * 99);
        run.due("costs(1, 39)", 26 * 99).due("costs(1, 40)", 27 * 99).does("card(1)").due("costs(1, 40)", 27 * 99);
        says(0, "of a SACK half of it (cut), and one gets half of the GRAMS of each (cut), too;");
        run = Run.of("n199s1011s3991");
        costsAre(run, 0, 0, 0, 1, 1, 2, 2, 3);
        costsAre(run, 1, 0, 49, 99, 148, 198);
        run.due("costs(1, 40)", 1980).does("buy(1, 3)").due("count(4)", 3).does("buy(0, 3)").due("count(4)", 3);
        says(0, "of a PLAIN one as much as of a CARD, less n (0 at least);");
        run = Run.of("n199l1001l1011l1021l1991");
        costsAre(run, 0, 0, 0, 0, 0);
        costsAre(run, 1, 0, 0, 0, 0);
        costsAre(run, 2, 0, 1, 2, 3);
        run.due("costs(0, 40)", 0).due("costs(1, 40)", 0).due("costs(2, 40)", 40).due("costs(3, 40)", 3920).does("card(1)");
        costsAre(run, 1, 0, 0, 0, 0, 0);
        costsAre(run, 2, 0, 0, 1, 1, 2, 2, 3);
        run.due("costs(1, 40)", 0).due("costs(3, 1)", 73).due("costs(3, 40)", 2930);
    }

    private static void costsRefused() {
        says(23, "What n (0 .. 40) of a PACKET COST.");
        Run run = Run.of(SIX).due("costs(5, 0)", 0).due("costs(5, 40)", 540).due("asked()", 0).due("count(3)", 0);
        says(23, "BAD.");
        run.takes("costs(0, #)", 0, 40).takes("costs(#, 0)", 0, 5).refused("costs(6, 41)", BAD).refused("costs(-1, -1)", BAD);
        Run.of("n199p1011").takes("costs(#, 40)", 0, 0);
        new Run().refused("costs(0, 0)", BAD).refused("costs(0, 41)", BAD).refused("costs(-1, 0)", BAD);
    }

    private static void rate() {
        says(24, "The RATE of one, told by upper(), lower(): 1.");
        Run run = Run.of("n199p9991p9981p9961p8121p1001p7001").ratio("rate(0)", 11, 1).ratio("rate(1)", 98, 9);
        run.ratio("rate(2)", 32, 3).ratio("rate(3)", 3, 2);
        says(0, "in lowest terms, the lower number above 0 (0 by 1).");
        run.ratio("rate(4)", 0, 1).ratio("rate(3)", 3, 2).ratio("rate(5)", 0, 1);
        says(0, "One PACKET's RATE is what one of it COSTS now for as many GRAMS as one gets by one");
        run = Run.of("n199c8601s9801h3301l4351y1991c3011").ratio("rate(0)", 15, 2).ratio("rate(1)", 10, 1).ratio("rate(2)", 10, 1);
        run.ratio("rate(3)", 17, 2).ratio("rate(4)", 99, 1).ratio("rate(5)", 1, 3).does("card(1)").ratio("rate(0)", 45, 8);
        run.ratio("rate(3)", 25, 4).ratio("rate(5)", 0, 1).does("price(0, 4)").ratio("rate(0)", 3, 8);
        run.does("shrink(0)").ratio("rate(0)", 3, 7).due("asked()", 0);
        says(0, "(none, if one gets none).");
        run = Run.of("n199s1501s2501p1501").ratio("rate(1)", 25, 1).refused("rate(0)", STATE).does("shrink(1)").refused("rate(1)", STATE);
        says(24, "BAD; STATE: one gets no GRAMS by it.");
        run.refused("rate(0)", STATE).refused("rate(3)", BAD).refused("rate(-1)", BAD).due("upper()", 25).ratio("rate(2)", 50, 1);
        Run.of(SIX).takes("rate(#)", 0, 5);
        new Run().refused("rate(0)", BAD).refused("rate(-1)", BAD).due("upper()", 0).due("lower()", 1);
    }

    private static void cheapest() {
        says(25, "The PACKET of the least RATE (the first); all that have it by asked() (bits).");
        Run.of("n199p1101p2201p3301p4401p5501p6601").due("cheapest()", 0).due("asked()", 63);
        Run.of("n199p1111p2201p3301p4401p5501p6601").due("cheapest()", 1).due("asked()", 62);
        Run.of("n199p1101p2201p3301p4401p5501p6591").due("cheapest()", 5).due("asked()", 32);
        Run.of("n199p9991").due("cheapest()", 0).due("asked()", 1);
        Run.of("n199s1001p9991s1001").due("cheapest()", 1).due("asked()", 2);
        Run.of("n199p9001p1001p1011").due("cheapest()", 0).due("asked()", 3);
        // Rates that lie close together: 98 by 9, 87 by 8.
        Run.of("n199p9981p8871").due("cheapest()", 1).due("asked()", 2);
        Run run = Run.of("n199p4401c4401").due("cheapest()", 0).due("asked()", 3).does("card(1)").due("cheapest()", 1).due("asked()", 2);
        says(25, "NONE: none has any.");
        run = Run.of("n199s1001s1991").does("packet(1, 2)").due("cheapest()", NONE).due("asked()", 99).due("upper()", 0);
        says(25, "STATE: no PACKETS.");
        new Run().refused("cheapest()", STATE);
    }

    private static void larger() {
        says(26, "How many pairs of PACKETS (that have a RATE) there are of which the one by which one gets more GRAMS has the greater RATE;");
        Run.of("n199p1011p2041p3091p4161p5251p6361").due("larger()", 15).due("asked()", 1);
        Run.of("n199p6361p5251p4161p3091p2041p1011").due("larger()", 15).due("asked()", 1);
        Run.of("n199p1601p2501p3401p4301p5201p6101").due("larger()", 0).due("asked()", NONE);
        // Alike in GRAMS, alike in RATE, without RATE.
        Run.of("n199p2101p2201p2301").due("larger()", 0);
        Run.of("n199p1101p2201p9901").due("larger()", 0);
        Run.of("n199s1001p2201").due("larger()", 0).due("asked()", NONE);
        Run.of("n199p1011s1991p2991").due("larger()", 1).due("asked()", 2);
        // By the GRAMS that one gets: the SACK of 9 is the lesser one beside 5.
        Run.of("n199s9801p5501").due("larger()", 0);
        Run.of("n199s9801p5511").due("larger()", 1);
        Run.of("n199p1101p2211").due("larger()", 1);
        Run run = Run.of("n199p1101c2241").due("larger()", 1).does("card(1)").due("larger()", 0).does("card(0)", "price(1, 20)");
        run.due("larger()", 0);
        says(26, "the first by asked() (6 times the lesser number, and the other; NONE).");
        Run.of("n199p2201p2201p2201p2201p1101p2211").due("larger()", 1).due("asked()", 29);
        Run.of("n199p2211p2201p2201p2201p2201p1101").due("larger()", 1).due("asked()", 5);
        Run.of("n199p2201p2211p2201p1101p2221p2201").due("larger()", 2).due("asked()", 9);
        Run.of("n199p9991").due("larger()", 0).due("asked()", NONE);
        // It names no STATE: without PACKETS there are no pairs.
        new Run().due("larger()", 0).due("asked()", NONE);
    }

    private static void leastPennies() {
        says(27, "The least PENNIES for v (0 .. 30) GRAMS or more, of 0 to 3 of each PACKET;");
        Run run = Run.of("n199p1991").due("least(0, 0)", 0).due("least(1, 0)", 99).due("least(3, 0)", 297).due("least(4, 0)", NONE);
        run = Run.of("n199p9991p1991").due("least(30, 0)", 297 + 297).due("least(28, 0)", 297 + 99).due("least(27, 0)", 297);
        run.due("least(2, 0)", 99).rowIs(0, 1, 0);
        run = Run.of("n199p9991s4991").due("least(30, 0)", 297 + 99).rowIs(0, 3, 2).due("least(29, 0)", 297 + 49).rowIs(0, 3, 1);
        Run.of("n199p9991p1991p9011").due("least(30, 0)", 99 + 3).rowIs(0, 1, 0, 3);
        run = Run.of("n199h9991c9991").due("least(27, 0)", 198).does("card(1)").due("least(30, 0)", 198 + 74).due("least(9, 0)", 74);
        run.due("asked()", 0).due("upper()", 0);
        says(27, "(Neither ROOM nor LARDER counts.)");
        Run.of("n100p9011").due("least(27, 0)", 3).countsAre(1, 0, 0, 0, 0);
        Run.of("n999p9019").does("buy(0, 3)", "buy(0, 3)", "buy(0, 3)", "buy(0, 2)").due("least(1, 0)", 1).due("count(4)", 99);
    }

    private static void leastRow() {
        says(27, "the first such row of numbers (of PACKET 0, then 1, ..; lesser ones ahead) comes to a ROW");
        Run run = Run.of("n199p1101p1101").due("least(2, 0)", 20).rowIs(0, 0, 2).due("least(3, 0)", 30).rowIs(0, 0, 3);
        run.due("least(4, 0)", 40).rowIs(0, 1, 3).due("least(6, 0)", 60).rowIs(0, 3, 3).due("least(0, 0)", 0).rowIs(0, 0, 0);
        Run.of("n199p2201p1101").due("least(2, 0)", 20).rowIs(0, 0, 2).due("least(5, 0)", 50).rowIs(0, 1, 3);
        Run.of("n199p1101p2201").due("least(2, 0)", 20).rowIs(0, 0, 1).due("least(1, 0)", 10).rowIs(0, 1, 0);
        run = Run.of("n199p1001p1001p1001").due("least(1, 0)", 0).rowIs(0, 0, 0, 1).due("least(4, 0)", 0).rowIs(0, 0, 1, 3);
        run.due("least(9, 0)", 0).rowIs(0, 3, 3, 3);
        // Three of a HEAP COST as much as two: the lesser number, if it will do.
        Run.of("n199h1101").due("least(2, 0)", 20).rowIs(0, 2).due("least(3, 0)", 20).rowIs(0, 3);
        Run.of("n199s1001p1101l1011").due("least(1, 0)", 0).rowIs(0, 0, 0, 1).due("least(4, 0)", 10).rowIs(0, 0, 1, 3);
        says(27, "(anew; one place for each PACKET).");
        run = Run.of("n199p1011p1011p1011p1011p1011p1011").does("row(5, 40)", "lay(5, 6, 7)");
        run.due("least(18, 5)", 18).rowIs(5, 3, 3, 3, 3, 3, 3).due("least(1, 5)", 1).rowIs(5, 0, 0, 0, 0, 0, 1);
        run.due("least(4, 0)", 4).rowIs(0, 0, 0, 0, 0, 1, 3).due("count(11)", 2);
        Run.of("n199p1011").does("row(2, 0)").due("least(0, 2)", 0).rowIs(2, 0);
    }

    private static void leastRefused() {
        says(27, "NONE: by none.");
        Run run = Run.of("n199p9011").lay(0, 5, 6).due("least(28, 0)", NONE).due("least(30, 1)", NONE).rowIs(0, 5, 6);
        run.due("count(11)", 1).due("finding()", 0).due("least(27, 0)", 3).rowIs(0, 3);
        Run.of("n199s1011s1001").due("least(1, 0)", NONE).due("count(11)", 0).due("least(0, 0)", 0).rowIs(0, 0, 0);
        Run.of("n199p5011p5011").due("least(30, 0)", 6).does("shrink(0)").due("least(28, 0)", NONE).due("least(27, 0)", 6);
        says(27, "BAD; STATE: no PACKETS.");
        Run.of(SIX).takes("least(#, 0)", 0, 30).takes("least(0, #)", 0, 5).refused("least(31, 6)", BAD);
        new Run().refused("least(0, 0)", STATE).refused("least(30, 5)", STATE);
        new Run().refused("least(31, 0)", BAD).refused("least(-1, 0)", BAD).refused("least(0, 6)", BAD).refused("least(0, -1)", BAD);
    }

    private static void weeksPennies() {
        says(28, "The least PENNIES by which there is no HUNGER in n (0 .. 3) WEEKS from now on,");
        Run run = Run.of("n399p3991").due("weeks(0, 0)", 0).due("weeks(1, 0)", 99).due("weeks(2, 0)", 198).due("weeks(3, 0)", 297);
        run.countsAre(1, 0, 0, 0, 0, 0, 0, 0).due("asked()", 0);
        // HUNGER of earlier WEEKS is none of these.
        run.does("week()").due("weeks(1, 0)", 99);
        run = Run.of("n399p2109").due("weeks(0, 0)", 0).due("weeks(1, 0)", NONE).does("buy(0, 1)").due("weeks(1, 0)", 10);
        run.due("weeks(2, 0)", 20).due("weeks(3, 0)", NONE).does("buy(0, 1)").due("weeks(1, 0)", 0).due("weeks(3, 0)", 30);
        Run.of("n399p9102").due("weeks(3, 0)", 10);
        Run.of("n399p9101").due("weeks(2, 0)", 10).due("weeks(3, 0)", 20);
        Run.of("n399y9101").due("weeks(1, 0)", 10).due("weeks(2, 0)", 20).due("weeks(3, 0)", 30);
        Run.of("n399c3401").does("card(1)").due("weeks(3, 0)", 90);
        Run.of("n499s9809").due("weeks(1, 0)", 40).due("weeks(3, 0)", 120);
        Run.of("n599s9809").due("weeks(1, 0)", NONE);
        says(28, "one PACKET or none being BOUGHT (as far as there is ROOM) ahead of each;");
        // One at a time: the third of a HEAP is not free, and two at once are not to be had.
        Run.of("n399h3301").due("weeks(3, 0)", 90);
        Run.of("n999p5101p5101").due("weeks(1, 0)", NONE);
        Run.of("n303p3109").due("weeks(3, 0)", 30);
        Run.of("n302p3109").due("weeks(1, 0)", NONE).due("weeks(0, 0)", 0);
        // There is ROOM for the 3 only behind a WEEK, and for the 9 never.
        Run.of("n305p3109p9012").does("buy(0, 1)").due("weeks(2, 0)", 10).rowIs(0, NONE, 0);
        Run.of("n305p3109p5012").does("buy(0, 1)").due("weeks(2, 0)", 1).rowIs(0, NONE, 1);
        Run.of("n308p5109").does("buy(0, 1)").due("weeks(3, 0)", 10).rowIs(0, NONE, 0, NONE);
        Run.of("n307p5109").does("buy(0, 1)").due("weeks(3, 0)", 10).rowIs(0, NONE, 0, NONE);
        Run.of("n306p5109").does("buy(0, 1)").due("weeks(3, 0)", NONE);
    }

    private static void weeksRow() {
        says(28, "the first such row (NONE for nothing ahead of PACKET 0, 1, ..; WEEK by WEEK) comes to a ROW (anew).");
        Run run = Run.of("n399p3101p3101").due("weeks(3, 0)", 30).rowIs(0, 0, 0, 0).due("weeks(1, 0)", 10).rowIs(0, 0);
        Run.of("n399p9309p3101").due("weeks(3, 0)", 30).rowIs(0, 0, NONE, NONE);
        Run.of("n399p3101p9309").due("weeks(3, 0)", 30).rowIs(0, 0, 0, 0);
        Run.of("n399p3209p6209").due("weeks(1, 0)", 20).rowIs(0, 0).due("weeks(2, 0)", 20).rowIs(0, 1, NONE);
        Run.of("n199p2009p1009").due("weeks(3, 0)", 0).rowIs(0, 0, NONE, 0);
        Run.of("n199p1001p1001").due("weeks(3, 0)", 0).rowIs(0, 0, 0, 0);
        Run.of("n199p9009").does("buy(0, 1)").due("weeks(3, 0)", 0).rowIs(0, NONE, NONE, NONE);
        Run.of("n399p9101").due("weeks(3, 0)", 20).rowIs(0, 0, NONE, 0);
        Run.of("n399p1001p1001p1001p1001p1001p3991").due("weeks(3, 0)", 297).rowIs(0, 5, 5, 5);
        run = Run.of("n399p3101").does("row(5, 40)", "lay(5, 3, 9)").due("weeks(3, 5)", 30).rowIs(5, 0, 0, 0).due("weeks(0, 5)", 0).rowIs(5);
        run.due("weeks(2, 4)", 20).rowIs(4, 0, 0).due("count(11)", 2);
    }

    private static void weeksRefused() {
        says(28, "NONE: by none.");
        Run run = Run.of("n399p2109").lay(0, 8).due("weeks(1, 0)", NONE).due("weeks(3, 1)", NONE).rowIs(0, 8).due("count(11)", 1);
        run.due("finding()", 0);
        says(28, "BAD; STATE: no PACKETS.");
        Run.of(SIX).takes("weeks(#, 0)", 0, 3).takes("weeks(0, #)", 0, 5).refused("weeks(4, 6)", BAD).refused("weeks(-1, -1)", BAD);
        new Run().refused("weeks(0, 0)", STATE).refused("weeks(3, 5)", STATE);
        new Run().refused("weeks(4, 0)", BAD).refused("weeks(-1, 0)", BAD).refused("weeks(0, 6)", BAD).refused("weeks(0, -1)", BAD);
    }

    private static void waste() {
        says(29, "The least WASTE in such a row of n WEEKS without HUNGER");
        Run run = Run.of("n399y5101y4991").due("waste(0)", 0).due("waste(1)", 1).due("waste(2)", 2).due("waste(3)", 3);
        run.due("weeks(1, 0)", 10).rowIs(0, 0).countsAre(2, 0, 0, 0, 0, 0, 0, 0);
        run = Run.of("n399y9001").does("buy(0, 1)").due("waste(0)", 0).due("waste(1)", 6).due("waste(2)", 12);
        run = Run.of("n199y9001").does("buy(0, 3)", "buy(0, 3)", "buy(0, 3)", "buy(0, 2)").due("waste(1)", 98);
        run.due("waste(2)", 106).due("waste(3)", 114).due("count(7)", 0).does("week()").due("waste(1)", 8);
        // What does not fit into the ROOM, or one at a time, does not count.
        Run.of("n305y5001p3999").due("waste(1)", 0);
        Run.of("n305y5001y6001").due("waste(1)", 2);
        says(29, "(what is in the LARDER behind them is none).");
        Run.of("n399p9109").due("waste(1)", 0).due("waste(2)", 0).due("waste(3)", 0);
        Run.of("n399p9101").due("waste(1)", 0).due("waste(2)", 3).due("waste(3)", 3);
        says(29, "NONE: by none.");
        Run.of("n302p3109").due("waste(1)", NONE).due("waste(3)", NONE).due("waste(0)", 0);
        Run.of("n399p2109").does("buy(0, 1)").due("waste(2)", 0).due("waste(3)", NONE).due("finding()", 0);
        says(29, "BAD; STATE: no PACKETS.");
        Run.of(SIX).takes("waste(#)", 0, 3);
        new Run().refused("waste(0)", STATE).refused("waste(3)", STATE).refused("waste(4)", BAD).refused("waste(-1)", BAD);
    }

    private static void looks() {
        says(32, "At how many PACKETS (by their numbers, from 0 on) to look, each for c (0 .. 9) PENNIES,");
        Run run = Run.of("n199p9601p9501p9401p9301p9201p9101").due("looks(0, 9)", 6).due("asked()", 10);
        run.due("looks(9, 1)", 6).due("asked()", 64);
        Run.of("n199p8991p8991p8991p8991p8991p9991").due("looks(9, 9)", 6).due("asked()", 153);
        Run.of("n199p9001").due("looks(9, 9)", 1).due("asked()", 9).due("looks(0, 1)", 1).due("asked()", 0);
        says(32, "so that these and the least that one of those COSTS, by which one gets v (1 .. 9) GRAMS or more,");
        run = Run.of("n199p8011p9991").due("looks(9, 8)", 1).due("asked()", 10).due("looks(9, 9)", 2).due("asked()", 117);
        run = Run.of("n199s9801p5901").due("looks(1, 4)", 1).due("asked()", 41).due("looks(1, 5)", 2).due("asked()", 92);
        run = Run.of("n199p9501c9601").due("looks(4, 9)", 1).due("asked()", 54).does("card(1)").due("looks(4, 9)", 2).due("asked()", 53);
        run.does("shrink(1)").due("looks(4, 9)", 1).due("asked()", 54).due("looks(4, 8)", 2).due("asked()", 53);
        says(32, "are least together (the fewest such); how much by asked().");
        run = Run.of("n199p9601p9521").due("looks(8, 1)", 1).due("asked()", 68).due("looks(7, 1)", 2).due("asked()", 66);
        Run.of("n199p9501p9501p9501").due("looks(0, 1)", 1).due("asked()", 50);
        Run.of("n199p1001p9501p9501p9411").due("looks(4, 2)", 4).due("asked()", 57).due("looks(5, 2)", 2).due("asked()", 60);
    }

    private static void looksRefused() {
        says(32, "NONE: none has so many.");
        Run run = Run.of("n199p8501s9501").does("packet(0, 2)").due("looks(0, 9)", NONE).due("asked()", 50).due("finding()", 0);
        run.due("looks(0, 8)", 1);
        Run.of("n199s1001").due("looks(0, 1)", NONE).due("asked()", 0);
        says(32, "BAD; STATE: no PACKETS.");
        Run.of(SIX).takes("looks(#, 1)", 0, 9).takes("looks(0, #)", 1, 9).refused("looks(10, 10)", BAD);
        new Run().refused("looks(0, 1)", STATE).refused("looks(9, 9)", STATE);
        new Run().refused("looks(10, 1)", BAD).refused("looks(-1, 1)", BAD).refused("looks(0, 0)", BAD).refused("looks(0, 10)", BAD);
    }
}
