/** The sentences of promises 15 to 22 and 39, and of the terms, about what is done. */
public final class DeedEdgesTest extends Edges {
    public static void main(String[] args) {
        buyCosts();
        buyRoom();
        buyRefused();
        weekEaten();
        weekGoesOff();
        weekRefused();
        shrink();
        price();
        card();
        deeds();
        undo();
        undoRefused();
        keep();
        on();
        lotsDo();
        lotsElse();
        lotsRefused();
        end();
    }

    private static void buyCosts() {
        says(15, "BUYING: what they COST.");
        int[][] without = {{40, 80, 120}, {45, 90, 135}, {30, 60, 60}, {40, 80, 120}, {34, 68, 102}, {20, 40, 40}};
        int[][] with = {{40, 80, 120}, {33, 67, 101}, {30, 60, 60}, {40, 80, 120}, {25, 50, 75}, {20, 40, 40}};
        Run run = Run.of(SIX);
        Run holder = Run.of(SIX).does("card(1)");
        for (int i = 0; i < 6; i++) {
            for (int n = 1; n <= 3; n++) {
                run.twin().due("buy(" + i + ", " + n + ")", without[i][n - 1]).due("count(3)", without[i][n - 1]);
                holder.twin().due("buy(" + i + ", " + n + ")", with[i][n - 1]).due("count(3)", with[i][n - 1]);
            }
        }
        says(0, "BUYING n (1 .. 3) of a PACKET: PENNIES are more by what they COST, its GRAMS come to the LARDER");
        run.due("buy(0, 2)", 80).due("buy(3, 3)", 120).due("count(3)", 200).due("count(4)", 20);
        run.larderIs(0, 0, 0, 0, 0, 0, 0, 0, 12, 8).due("asked()", 0);
        run = Run.of("n199s1991c1011l1011");
        run.due("buy(0, 3)", 148).due("buy(0, 1)", 49).due("count(3)", 197).due("count(4)", 0).due("count(2)", 2);
        run.does("card(1)").due("buy(1, 1)", 0).due("buy(2, 3)", 0).due("count(3)", 197).due("count(4)", 4);
    }

    private static void buyRoom() {
        says(0, "(all there no more than the ROOM).");
        // Just filled, and one too many.
        Run.of("n112p4409").due("buy(0, 3)", 120).due("count(4)", 12).refused("buy(0, 1)", SPENT);
        Run.of("n111p4409").refused("buy(0, 3)", SPENT).due("buy(0, 2)", 80).refused("buy(0, 1)", SPENT);
        Run.of("n112s9809").due("buy(0, 3)", 120).refused("buy(0, 1)", SPENT);
        Run.of("n111s9809").refused("buy(0, 3)", SPENT).due("buy(0, 2)", 80);
        Run.of("n100p1009s1999").refused("buy(0, 1)", SPENT).due("buy(1, 3)", 148).due("count(4)", 0);
        Run run = Run.of("n199p9019").does("buy(0, 3)", "buy(0, 3)", "buy(0, 3)").refused("buy(0, 3)", SPENT);
        run.due("buy(0, 2)", 2).due("count(4)", 99).due("larder(9)", 99).refused("buy(0, 1)", SPENT);
        // What is eaten leaves ROOM.
        run = Run.of("n112p4409").does("buy(0, 3)", "week()", "week()", "week()").refused("buy(0, 1)", SPENT);
        run.does("week()").due("buy(0, 1)", 40).due("count(4)", 12);
        run = Run.of("n112p2019").does("buy(0, 3)", "buy(0, 3)").refused("buy(0, 1)", SPENT).does("shrink(0)");
        run.refused("buy(0, 1)", SPENT).does("week()").refused("buy(0, 2)", SPENT).due("buy(0, 1)", 1);
    }

    private static void buyRefused() {
        says(15, "BAD: also n not 1 .. 3;");
        Run.of(SIX).takes("buy(0, #)", 1, 3).takes("buy(#, 1)", 0, 5);
        Run.of("n199p1001").takes("buy(#, 3)", 0, 0);
        new Run().refused("buy(0, 1)", BAD).refused("buy(0, 0)", BAD).refused("buy(-1, 1)", BAD);
        says(15, "SPENT: more than the ROOM;");
        Run run = Run.of("n103p4409").refused("buy(0, 1)", SPENT).refused("buy(0, 3)", SPENT);
        run.refused("buy(0, 4)", BAD).refused("buy(0, 0)", BAD).refused("buy(1, 1)", BAD).refused("buy(0, MAX)", BAD);
        says(15, "FULL: 40 DEEDS. (FULL last.)");
        run.deeds(40).refused("buy(0, 1)", SPENT).refused("buy(0, 4)", BAD).refused("buy(1, 1)", BAD);
        run = Run.of("n106p4409").deeds(39).due("buy(0, 1)", 40).due("count(2)", 40).refused("buy(0, 1)", SPENT);
        Run.of("n108p4409").deeds(39).due("buy(0, 1)", 40).refused("buy(0, 1)", FULL).refused("buy(0, 2)", SPENT);
    }

    private static void weekEaten() {
        says(0, "A WEEK: the NEED is EATEN, of what keeps least first;");
        Run run = Run.of("n399p4009").does("buy(0, 1)").due("week()", 0).countsAre(1, 1, 2, 0, 1, 3, 0, 0);
        Run.of("n399p3009").does("buy(0, 1)").due("week()", 0).countsAre(1, 1, 2, 0, 0, 3, 0, 0);
        run = Run.of("n399y2001p2001p2009").does("buy(0, 1)", "buy(1, 1)", "buy(2, 1)").larderIs(2, 2, 0, 0, 0, 0, 0, 0, 0, 2);
        run.due("week()", 0).larderIs(1, 0, 0, 0, 0, 0, 0, 0, 2);
        run.due("week()", 0).larderIs().countsAre(3, 2, 5, 0, 0, 6, 0, 0);
        says(0, "as much as lacks is HUNGER;");
        Run.of("n399p2009").does("buy(0, 1)").due("week()", 0).countsAre(1, 1, 2, 0, 0, 2, 1, 0);
        Run.of("n999p2009").due("week()", 0).countsAre(1, 1, 1, 0, 0, 0, 9, 0).due("week()", 0).due("count(6)", 18);
        run = Run.of("n999p9009");
        for (int w = 0; w < 40; w++) {
            run.due("week()", 0);
        }
        run.countsAre(1, 40, 40, 0, 0, 0, 360, 0).refused("week()", FULL);
    }

    private static void weekGoesOff() {
        says(0, "then what keeps 0 WEEKS goes off (WASTE), all else keeps a WEEK less.");
        Run run = Run.of("n399y5001").does("buy(0, 1)").due("week()", 2).countsAre(1, 1, 2, 0, 0, 3, 0, 2);
        Run.of("n399y3001").does("buy(0, 1)").due("week()", 0).countsAre(1, 1, 2, 0, 0, 3, 0, 0);
        run = Run.of("n199p9009y1001p1001p1005p1008").does("buy(0, 1)", "buy(1, 3)", "buy(2, 2)", "buy(3, 1)", "buy(4, 3)");
        run.larderIs(3, 2, 0, 0, 0, 1, 0, 0, 3, 9);
        run.due("week()", 2).larderIs(2, 0, 0, 0, 1, 0, 0, 3, 9);
        run.due("week()", 1).larderIs(0, 0, 0, 1, 0, 0, 3, 9).due("count(7)", 3);
        // A PACKET that keeps 9 WEEKS can be eaten in 10, and goes off in the tenth.
        run = Run.of("n199p9009").does("buy(0, 2)");
        for (int w = 0; w < 9; w++) {
            run.due("week()", 0);
        }
        run.larderIs(9).due("week()", 8).larderIs().countsAre(1, 10, 11, 0, 0, 10, 0, 8).due("week()", 0).due("count(6)", 1);
        says(16, "A WEEK: how much went off.");
        run = Run.of("n199y9001").does("buy(0, 3)", "buy(0, 3)", "buy(0, 3)", "buy(0, 2)").due("week()", 98);
        run.countsAre(1, 1, 5, 0, 0, 1, 0, 98).due("week()", 0).due("count(7)", 98);
    }

    private static void weekRefused() {
        says(16, "STATE: no PACKETS;");
        new Run().refused("week()", STATE);
        says(16, "FULL. (FULL last.)");
        Run.of(SIX).deeds(39).due("week()", 0).refused("week()", FULL).due("undo(39)", 1).due("week()", 0).refused("week()", FULL);
    }

    private static void shrink() {
        says(0, "SHRUNK is a PACKET: GRAMS 1 less (1 at least), the PRICE as it was.");
        Run run = Run.of("n199p9771s2501").does("buy(0, 1)");
        for (int g = 8; g >= 1; g--) {
            run.due("shrink(0)", g).told("packet(0, 1)", g).told("packet(0, 2)", 77).told("packet(0, 4)", 77);
        }
        run.refused("shrink(0)", STATE).due("count(4)", 9).due("count(2)", 9).due("buy(0, 1)", 77).due("count(4)", 10);
        says(17, "SHRINKING: GRAMS then.");
        run.told("packet(1, 5)", 1).due("shrink(1)", 1).told("packet(1, 5)", 0).due("buy(1, 3)", 75).due("count(4)", 10);
        says(17, "BAD; STATE: it has 1;");
        Run.of(SIX).takes("shrink(#)", 0, 5);
        Run.of("n199p1001p2001").refused("shrink(0)", STATE).refused("shrink(2)", BAD).refused("shrink(-1)", BAD);
        new Run().refused("shrink(0)", BAD).refused("shrink(-1)", BAD);
        says(17, "FULL. (FULL last.)");
        run = Run.of("n199p1001p3001").deeds(39).due("shrink(1)", 2).refused("shrink(1)", FULL);
        run.refused("shrink(0)", STATE).refused("shrink(2)", BAD).refused("shrink(MIN)", BAD);
    }

    private static void price() {
        says(0, "Its PRICE can be another one (0 .. 99).");
        Run run = Run.of("n199p4501c4991").due("price(0, 0)", 50).due("price(0, 99)", 0).due("price(0, 98)", 99);
        run.told("packet(0, 2)", 98).told("packet(1, 2)", 99).due("buy(0, 1)", 98).due("price(0, 1)", 98).due("count(3)", 98);
        says(18, "A PRICE: the one that it was.");
        run.due("price(1, 0)", 99).due("price(1, 4)", 0).told("packet(1, 4)", 4).does("card(1)").told("packet(1, 4)", 3);
        says(18, "BAD; STATE: it is so;");
        Run.of(SIX).takes("price(0, #)", 0, 99).takes("price(#, 99)", 0, 5);
        run = Run.of("n199p4001c4991").refused("price(0, 0)", STATE).refused("price(1, 99)", STATE);
        run.refused("price(2, 0)", BAD).refused("price(-1, 0)", BAD).refused("price(1, 100)", BAD).refused("price(2, 100)", BAD);
        new Run().refused("price(0, 0)", BAD).refused("price(0, 50)", BAD);
        says(18, "FULL. (FULL last.)");
        run = Run.of("n199p4001c4991").deeds(39).due("price(0, 1)", 0).refused("price(0, 2)", FULL);
        run.refused("price(0, 1)", STATE).refused("price(0, 100)", BAD).refused("price(0, -1)", BAD).refused("price(2, 1)", BAD);
    }

    private static void card() {
        says(0, "A card is taken, or given back.");
        Run run = Run.of(SIX).due("count(8)", 0).due("card(1)", 1).due("count(8)", 1).due("card(0)", 0).due("count(8)", 0);
        says(19, "The card is taken (1), or given back (0): 1 if one has it then, 0.");
        run.due("card(1)", 1).due("costs(1, 1)", 33).due("card(0)", 0).due("costs(1, 1)", 45).due("count(2)", 4);
        says(19, "BAD; STATE: no PACKETS, it is so;");
        new Run().refused("card(0)", STATE).refused("card(1)", STATE).refused("card(2)", BAD).refused("card(-1)", BAD);
        run = Run.of(SIX).refused("card(0)", STATE).refused("card(-1)", BAD).refused("card(2)", BAD).refused("card(MAX)", BAD);
        run.does("card(1)").refused("card(1)", STATE).refused("card(MIN)", BAD).refused("card(2)", BAD);
        says(19, "FULL. (FULL last.)");
        run = Run.of(SIX).deeds(38).does("week()").due("card(1)", 1).refused("card(0)", FULL).refused("card(1)", STATE);
        run.refused("card(2)", BAD).refused("card(-1)", BAD);
    }

    private static void deeds() {
        says(0, "What is done: BUYING, a WEEK, SHRINKING, a PRICE, the card.");
        Run run = Run.of(SIX);
        String[] deeds = {"buy(2, 3)", "week()", "shrink(3)", "price(4, 99)", "card(1)"};
        for (int d = 0; d < deeds.length; d++) {
            run.does(deeds[d]).due("count(2)", d + 1);
        }
        // All else is no DEED.
        run.does("keep(0)", "on(0)", "costs(0, 1)", "rate(0)", "cheapest()", "larger()", "least(3, 0)", "weeks(3, 0)", "waste(3)");
        run.does("off(3)", "lasts()", "looks(0, 1)", "shop(2)", "odds(3, 3)", "mid(3)", "row(0, 0)", "kinds(0, 0)", "prices(0, 0)");
        run.does("grams(0, 1, 1)", "packet(0, 0)", "mark(1, 1)", "larder(0)", "digest()").due("count(2)", 5);
        says(0, "These are DEEDS 0, 1, .. (40 at most).");
        run.deeds(40).refused("buy(5, 1)", FULL).refused("week()", FULL).refused("shrink(3)", FULL);
        run.refused("price(4, 98)", FULL).refused("lots(1, 1)", FULL);
        run.refused("card(" + (1 - run.call("count(8)")) + ")", FULL);
        run.due("undo(39)", 1).due("buy(5, 1)", 20).due("count(2)", 40).refused("week()", FULL);
    }

    private static void undo() {
        says(20, "DEEDS from number n on are undone: how many.");
        // Some is eaten, some goes off, and there is HUNGER, on the way.
        String[] deeds = {"week()", "buy(5, 3)", "week()", "week()", "shrink(3)", "price(4, 99)", "card(1)", "buy(5, 3)", "buy(4, 2)",
            "week()", "week()", "week()", "card(0)", "price(4, 0)", "buy(5, 3)", "buy(5, 3)", "week()", "week()", "shrink(3)", "buy(3, 1)"};
        Run whole = Run.of(SIX).does(deeds);
        whole.due("count(5)", 3 + 3 + 3 + 3 + 3 + 3 + 3).due("count(6)", 3).due("count(7)", 6);
        for (int n = 0; n < deeds.length; n++) {
            Run few = Run.of(SIX);
            Run all = Run.of(SIX);
            for (int d = 0; d < deeds.length; d++) {
                all.does(deeds[d]);
                if (d < n) {
                    few.does(deeds[d]);
                }
            }
            all.due("undo(" + n + ")", deeds.length - n);
            expect("all that is told behind undo(" + n + ")", all.allThatIsTold(), few.allThatIsTold());
        }
        Run run = Run.of(SIX).deeds(40);
        for (int n : new int[] {0, 1, 20, 38, 39}) {
            run.twin().due("undo(" + n + ")", 40 - n).due("count(2)", n).due("count(8)", n % 2);
        }
        // DEEDS go on from there, and 40 is again the most.
        run.due("undo(38)", 2).does("buy(0, 1)", "week()").refused("week()", FULL).due("undo(0)", 40).due("count(3)", 0);
        // ROWS, TEXTS, kept HOUSES and what was told are not undone.
        run = Run.of(SIX).does("week()", "week()").lay(0, 5, 6).does("rate(4)", "keep(2)", "at(0, 1)").due("undo(0)", 2);
        run.rowIs(0, 5, 6).due("upper()", 17).due("asked()", 6).due("count(13)", 1).due("on(2)", 2).due("count(1)", 2);
        run.due("undo(1)", 1).due("count(1)", 1);
    }

    private static void undoRefused() {
        says(20, "BAD.");
        new Run().refused("undo(0)", BAD).refused("undo(-1)", BAD).refused("undo(1)", BAD);
        Run.of(SIX).refused("undo(0)", BAD).refused("undo(-1)", BAD);
        Run.of(SIX).does("week()", "buy(0, 1)", "card(1)").takes("undo(#)", 0, 2);
        Run.of(SIX).deeds(40).takes("undo(#)", 0, 39);
        Run run = Run.of(SIX).does("week()", "week()").due("undo(1)", 1).refused("undo(1)", BAD).due("undo(0)", 1);
        run.refused("undo(0)", BAD);
    }

    private static void keep() {
        says(21, "The HOUSE (as it is, DEEDS) is kept in a place (0 .. 2): how many DEEDS.");
        Run run = Run.of(SIX).due("keep(0)", 0).due("count(13)", 1).does("buy(0, 1)").due("keep(1)", 1).due("count(13)", 2);
        run.deeds(40).due("keep(2)", 40).due("count(13)", 3).due("on(0)", 0).due("on(1)", 1).due("on(2)", 40);
        run.refused("week()", FULL).due("undo(39)", 1).due("keep(2)", 39).due("count(13)", 3).due("on(2)", 39);
        says(21, "BAD; STATE: no PACKETS.");
        run.takes("keep(#)", 0, 2);
        new Run().refused("keep(0)", STATE).refused("keep(2)", STATE).refused("keep(3)", BAD).refused("keep(-1)", BAD);
        new Run().refused("keep(MIN)", BAD).refused("keep(MAX)", BAD);
    }

    private static void on() {
        says(22, "The HOUSE is as it was kept: how many DEEDS.");
        Run run = Run.of(SIX).does("week()", "buy(5, 3)", "buy(5, 3)", "card(1)", "price(4, 99)", "shrink(0)", "week()", "week()", "buy(2, 3)");
        Run kept = run.twin().does("keep(1)");
        Run gone = kept.twin().does("buy(5, 3)", "week()", "week()", "week()", "week()", "card(0)", "price(4, 0)", "shrink(0)", "shrink(0)");
        kept.twin().countsAre(6, 3, 9, 140, 9, 6, 3, 6, 1);
        gone.twin().countsAre(6, 7, 18, 180, 0, 15, 6, 12, 0).due("on(1)", 9).countsAre(6, 3, 9, 140, 9, 6, 3, 6, 1);
        gone.due("on(1)", 9);
        expect("all that is told behind on(1)", gone.allThatIsTold(), kept.allThatIsTold());
        // It can be gone on from again, and stays kept as it was.
        gone.does("undo(0)", "buy(0, 3)").due("on(1)", 9);
        expect("all that is told behind on(1)", gone.allThatIsTold(), kept.allThatIsTold());
        gone.due("undo(2)", 7).due("keep(0)", 2).due("on(1)", 9).due("on(0)", 2).due("undo(1)", 1).due("on(0)", 2);
        // ROWS, TEXTS, what was told are not kept.
        run = Run.of(SIX).does("keep(0)").lay(0, 7).does("at(0, 0)", "text(2, 4)").due("on(0)", 0).rowIs(0, 7);
        run.due("asked()", 7).due("fault(2)", 4);
        says(22, "BAD; NOTHING.");
        Run.of(SIX).does("keep(0)", "keep(1)", "keep(2)", "week()").takes("on(#)", 0, 2);
        run = Run.of(SIX).does("keep(1)", "week()").refused("on(0)", NOTHING).refused("on(2)", NOTHING);
        run.refused("on(3)", BAD).refused("on(-1)", BAD).refused("on(MIN)", BAD).refused("on(MAX)", BAD);
        new Run().refused("on(0)", NOTHING).refused("on(2)", NOTHING).refused("on(3)", BAD).refused("on(-1)", BAD);
    }

    /** The seed of which the first number is this one. */
    private static String seedOf(long number) {
        java.math.BigInteger modulus = java.math.BigInteger.valueOf(2147483647L);
        return java.math.BigInteger.valueOf(48271).modInverse(modulus)
            .multiply(java.math.BigInteger.valueOf(number)).mod(modulus).toString();
    }

    private static void lotsDo() {
        says(39, "n (1 .. 20) DEEDS truly by LOTS of a seed: for each a number: it by 8, cut, modulo 4:");
        Run run = Run.of("n199p4409p3309").does("buy(0, 2)");
        long[] bought = {1, 7, 8, 15, 32, 39, 40, 47};
        for (long number : bought) {
            int i = (int) (number % 2);
            run.twin().due("lots(1, " + seedOf(number) + ")", 8 + 4 - i).due("count(3)", 80 + 40 - 10 * i).due("count(1)", 0);
        }
        says(39, "0, 1 one of PACKET it modulo how many there are is BOUGHT");
        for (int number = 1; number < 16; number++) {
            int i = number % 6;
            int[] got = {4, 5, 3, 4, 4, 2};
            int[] cost = {40, 45, 30, 40, 34, 20};
            Run.of(SIX).due("lots(1, " + seedOf(number) + ")", got[i]).due("count(3)", cost[i]).due("count(2)", 1);
        }
        says(39, "2 a WEEK,");
        for (long number : new long[] {16, 17, 23, 48, 55}) {
            run.twin().due("lots(1, " + seedOf(number) + ")", 7).due("count(1)", 1).due("count(2)", 2).due("count(5)", 1);
        }
        says(39, "3 that PACKET is SHRUNK");
        for (long number : new long[] {24, 31, 56, 63, 2147483646L}) {
            int i = (int) (number % 2);
            run.twin().due("lots(1, " + seedOf(number) + ")", 8).due("count(1)", 0).due("count(2)", 2)
                .told("packet(" + i + ", 1)", 3 - i).told("packet(" + (1 - i) + ", 1)", 4 - (1 - i));
        }
        says(0, "LOTS: a number comes from the one ahead by 48271 times it modulo 2147483647,");
        // 1, 48271, 182605794, 1291394886, 1914720637, 2078669041: bought 1, 1, 0, 0, shrunk 1, a WEEK.
        int[] then = {3, 6, 10, 14, 14, 13};
        for (int n = 1; n <= 6; n++) {
            Run.of("n199p4409p3309").due("lots(" + n + ", " + seedOf(1) + ")", then[n - 1]).due("count(2)", n);
        }
        says(0, "the first from a seed (1 .. 2147483646).");
        Run.of("n199p4409p3309").due("lots(1, 1)", 3).due("lots(1, 2147483646)", 2).due("count(1)", 1).due("count(3)", 30);
    }

    private static void lotsElse() {
        says(39, "(if there is ROOM, else a WEEK),");
        Run run = Run.of("n102p2409").due("lots(1, " + seedOf(1) + ")", 2).due("count(1)", 0);
        run.due("lots(1, " + seedOf(1) + ")", 1).due("count(1)", 1).due("count(2)", 2).due("count(3)", 40);
        Run.of("n101p2409").due("lots(1, " + seedOf(8) + ")", 0).due("count(1)", 1).due("count(6)", 1).due("count(3)", 0);
        says(39, "(if it can be, else a WEEK):");
        run = Run.of("n102p2409").due("lots(1, " + seedOf(24) + ")", 0).told("packet(0, 1)", 1).due("count(1)", 0);
        run.due("lots(1, " + seedOf(24) + ")", 0).told("packet(0, 1)", 1).due("count(1)", 1).due("count(2)", 2);
        says(39, "GRAMS in the LARDER then.");
        // Truly: they are there, and are undone one by one.
        run = Run.of(SIX).does("lots(20, 77)").due("count(2)", 20);
        for (int n = 1; n < 20; n++) {
            Run few = Run.of(SIX).does("lots(" + n + ", 77)");
            Run many = run.twin().due("undo(" + n + ")", 20 - n);
            expect("all that is told behind " + n + " DEEDS", many.allThatIsTold(), few.allThatIsTold());
            few.due("lots(1, " + seedOf(16) + ")", few.twin().does("week()").call("count(4)"));
        }
    }

    private static void lotsRefused() {
        says(39, "BAD; STATE: no PACKETS;");
        Run.of(SIX).takes("lots(#, 5)", 1, 20).takes("lots(1, #)", 1, 2147483646);
        new Run().refused("lots(1, 1)", STATE).refused("lots(20, 2147483646)", STATE);
        new Run().refused("lots(0, 1)", BAD).refused("lots(21, 1)", BAD).refused("lots(1, 0)", BAD).refused("lots(1, MAX)", BAD);
        says(39, "FULL: with n more there would be more than 40 DEEDS. (FULL last.)");
        Run run = Run.of(SIX).deeds(20);
        run.twin().does("lots(20, 5)").due("count(2)", 40);
        run.deeds(21).refused("lots(20, 5)", FULL).does("lots(19, 5)").due("count(2)", 40).refused("lots(1, 5)", FULL);
        run.refused("lots(0, 5)", BAD).refused("lots(21, 5)", BAD).refused("lots(20, 0)", BAD).refused("lots(20, MIN)", BAD);
        Run.of(SIX).deeds(39).refused("lots(2, 5)", FULL).does("lots(1, 5)").due("count(2)", 40);
    }
}
