/** The sentences of promises 40 to 46, and of the terms, about what is told and what is refused. */
public final class ToldEdgesTest extends Edges {
    public static void main(String[] args) {
        answers();
        firstRefusalThatFits();
        refusedChangesNothing();
        withoutPackets();
        reckonedAside();
        calls();
        asked();
        askedOnlyByThese();
        ratios();
        count();
        finding();
        findings();
        digest();
        end();
    }

    /** A run with something of everything, so that a change would be seen. */
    private static Run rich() {
        Run run = Run.of(SIX).lay(0, 1, 40).lay(1, 5, -6, 7).does("row(2, 40)", "row(4, 0)").write(0, "n34").does("text(1, 0)");
        run.does("buy(2, 3)", "keep(0)", "card(1)", "week()", "keep(2)", "price(4, 99)", "shrink(0)", "rate(4)", "at(1, 2)");
        return run.refused("tear(5)", NOTHING).refused("mean(4)", NOUGHT);
    }

    private static void answers() {
        says(0, "BAD -1 (a number that is none, or not as told), FULL -2, STATE -4 (not now), SPENT -6 (more than told),");
        expect("BAD", LargerPacket.BAD, -1);
        expect("FULL", LargerPacket.FULL, -2);
        expect("STATE", LargerPacket.STATE, -4);
        expect("SPENT", LargerPacket.SPENT, -6);
        Run run = Run.of("n104p4409").refused("buy(0, 4)", -1).refused("card(0)", -4).refused("buy(0, 2)", -6);
        run.does("buy(0, 1)").deeds(40).refused("week()", -2);
        says(0, "FINDING -3 (finding() tells which),");
        expect("FINDING", LargerPacket.FINDING, -3);
        run.due("at(0, 0)", -3).due("finding()", 1).does("row(0, 0)").due("at(0, 0)", -3).due("finding()", 2);
        run.due("mark(0, 1)", -3).due("finding()", 3).due("mean(0)", -3).due("finding()", 4).due("row(0, -1)", -3).due("finding()", 5);
        says(0, "NONE -9.");
        expect("NONE", LargerPacket.NONE, -9);
        run.due("fault(3)", -9).due("looks(0, 9)", -9).due("least(30, 0)", -9);
        says(0, "FINDINGS:");
        run.countsAre(1).due("findings(1)", 1).due("findings(2)", 1).due("findings(3)", 1).due("findings(4)", 1).due("findings(5)", 1);
    }

    private static void firstRefusalThatFits() {
        says(0, "Refused is, the first of these that fits, in this order:");
        // BAD ahead of STATE, of SPENT, of each FINDING.
        Run run = Run.of("n103p4409").refused("card(2)", BAD).refused("price(0, 100)", BAD).refused("buy(0, 4)", BAD);
        run.refused("at(6, 0)", BAD).refused("put(4, 99, 0)", BAD).refused("mean(6)", BAD).refused("mark(0, 0)", BAD);
        run.refused("row(6, -1)", BAD).refused("kinds(1, 5)", BAD).refused("on(3)", BAD).refused("house(4)", BAD);
        says(0, "unless a call says so otherwise.");
        // FULL behind BAD, STATE, SPENT, though it stands ahead of these two in the order.
        run.deeds(40).refused("buy(0, 1)", SPENT).refused("buy(0, 4)", BAD).refused("card(0)", STATE).refused("card(1)", FULL);
        run.refused("price(0, 40)", STATE).refused("price(0, 41)", FULL).refused("price(0, 100)", BAD);
        run.refused("shrink(1)", BAD).refused("shrink(0)", FULL).refused("week()", FULL);
        run.refused("lots(1, 0)", BAD).refused("lots(1, 1)", FULL);
        // NOTHING ahead of the STATE of a FAULT; SIZE ahead of NOTHING in copy().
        run.refused("house(2)", NOTHING).does("text(2, 3)").refused("house(2)", STATE).refused("copy(0, 0, 1, 0, -1)", SIZE);
    }

    private static void refusedChangesNothing() {
        says(0, "What is refused changes nothing but finding(), findings().");
        String[] bad = {"row(6, 1)", "row(0, 41)", "lay(6, 0, 1)", "at(-1, 0)", "tear(6)", "copy(0, 0, 6, 0, 1)", "mean(6)", "text(4, 1)",
            "text(0, 61)", "put(4, 0, 1)", "fault(4)", "house(4)", "packet(6, 0)", "packet(0, 6)", "mark(6, 1)", "mark(0, 0)",
            "larder(10)", "buy(0, 4)", "buy(6, 1)", "shrink(6)", "price(0, 100)", "card(2)", "undo(5)", "undo(-1)", "keep(3)",
            "on(3)", "costs(0, 41)", "rate(6)", "least(31, 1)", "least(1, 6)", "weeks(4, 1)", "weeks(1, 6)", "waste(4)", "off(21)",
            "looks(10, 1)", "looks(0, 0)", "kinds(6, 0)", "prices(6, 0)", "grams(0, 0, 0)", "shop(3)", "odds(55, 0)", "mid(13)",
            "lots(0, 1)", "lots(1, 0)", "count(16)", "findings(6)"};
        Run run = rich();
        for (String call : bad) {
            run.twin().refused(call, BAD);
        }
        String[] state = {"house(0)", "house(1)", "card(1)", "price(4, 99)"};
        for (String call : state) {
            run.twin().refused(call, STATE);
        }
        run.twin().does("buy(3, 3)", "buy(3, 3)", "buy(5, 3)").refused("buy(0, 2)", SPENT).refused("buy(3, 3)", SPENT);
        run.twin().refused("row(1, -1)", SIZE).refused("text(0, -1)", SIZE).refused("copy(1, 0, 2, 0, -1)", SIZE);
        run.twin().refused("kinds(0, 1)", SIZE).refused("prices(0, 2)", SIZE);
        run.twin().refused("lay(1, 3, 1)", BEYOND).refused("at(1, -1)", BEYOND).refused("copy(1, 0, 2, 38, 3)", BEYOND);
        run.twin().refused("put(0, 3, 1)", BEYOND).refused("lay(4, 0, 1)", BEYOND).refused("put(1, 0, 1)", BEYOND);
        run.twin().refused("lay(3, 0, 1)", NOTHING).refused("copy(1, 0, 3, 0, 1)", NOTHING).refused("put(2, 0, 1)", NOTHING);
        run.twin().refused("house(2)", NOTHING).refused("on(1)", NOTHING).refused("mean(5)", NOTHING).refused("prices(0, 5)", NOTHING);
        run.twin().refused("mark(0, 1)", UNLIKE).refused("mean(4)", NOUGHT);
        Run full = rich().deeds(40);
        String[] deeds = {"buy(5, 1)", "week()", "shrink(3)", "price(4, 98)", "lots(1, 1)"};
        for (String call : deeds) {
            full.twin().refused(call, FULL);
        }
        rich().deeds(30).refused("lots(11, 1)", FULL).refused("lots(20, 1)", FULL);
    }

    private static void withoutPackets() {
        says(0, "A HOUSE (without PACKETS at first)");
        Run run = new Run().lay(0, 7).does("at(0, 0)").write(0, "n340");
        String[] state = {"week()", "card(0)", "card(1)", "keep(0)", "cheapest()", "least(0, 0)", "weeks(0, 0)", "waste(0)", "off(0)",
            "lasts()", "looks(0, 1)", "shop(0)", "odds(0, 0)", "mid(0)", "lots(1, 1)", "house(0)"};
        for (String call : state) {
            run.refused(call, STATE);
        }
        String[] bad = {"packet(0, 0)", "mark(0, 1)", "buy(0, 1)", "shrink(0)", "price(0, 1)", "undo(0)", "costs(0, 0)", "rate(0)",
            "kinds(0, 0)", "prices(0, 0)", "grams(0, 1, 0)"};
        for (String call : bad) {
            run.refused(call, BAD);
        }
        String[] badAheadOfState = {"card(2)", "keep(3)", "least(31, 0)", "least(0, 6)", "weeks(4, 0)", "weeks(0, 6)", "waste(4)", "off(21)",
            "looks(10, 1)", "looks(0, 10)", "shop(3)", "odds(55, 0)", "odds(0, 13)", "mid(13)", "lots(21, 1)", "lots(1, MAX)"};
        for (String call : badAheadOfState) {
            run.refused(call, BAD);
        }
        run.refused("on(0)", NOTHING).larderIs().countsAre(0, 0, 0, 0, 0, 0, 0, 0, 0, 0, 0, 1, 1, 0, 0, 0).due("larger()", 0);
    }

    private static void reckonedAside() {
        says(0, "which is cheapest (aside, now).");
        Run run = rich();
        long before = run.twin().call("digest()");
        String[] asides = {"costs(0, 40)", "rate(0)", "cheapest()", "larger()", "waste(3)", "off(20)", "lasts()", "looks(9, 1)", "kinds(0, 0)",
            "prices(0, 0)", "grams(0, 1, 4)", "shop(2)", "odds(5, 5)", "mid(5)", "fault(3)", "mark(1, 1)", "larder(0)", "count(0)"};
        for (String call : asides) {
            run.does(call).due("digest()", before);
        }
        run.due("undo(0)", 5).due("on(0)", 1).due("on(2)", 3);
        // Now: by the card, the PRICE and the GRAMS as they are.
        run = Run.of("n199c4401p4401").due("cheapest()", 0).due("asked()", 3).does("card(1)").due("costs(0, 1)", 30).ratio("rate(0)", 15, 2);
        run.due("cheapest()", 0).due("asked()", 1).does("price(0, 80)").due("cheapest()", 1).does("shrink(1)").due("larger()", 1);
    }

    private static void calls() {
        says(0, "An object is used for at most 512 calls after it has been made; what later calls answer is free.");
        Run run = new Run();
        for (int call = 1; call < MOST_CALLS; call++) {
            run.due(call % 2 == 0 ? "tear(5)" : "row(5, -1)", FINDING);
        }
        run.due("findings(5)", 256);
        run = Run.of(SIX);
        while (run.twin().call("count(2)") < 40) {
            run.does("week()");
        }
        for (int round = 0; round < 9; round++) {
            run.due("undo(0)", 40).does("lots(20, 3)", "lots(20, 4)");
            for (int k = 0; k < 3; k++) {
                run.due("keep(" + k + ")", 40).does("least(30, 0)", "weeks(3, 1)", "waste(3)", "shop(2)", "odds(9, 5)", "digest()");
                run.due("on(" + k + ")", 40);
            }
        }
        run.due("count(13)", 3).due("count(2)", 40);
    }

    private static void asked() {
        says(40, "What the latest lay(), at(), mean(), packet(), cheapest(), larger(), looks(), prices(), shop()");
        Run run = Run.of(SIX).due("asked()", 0).lay(0, 5, 7).told("lay(0, 1, 8)", 7).told("at(0, 0)", 5).told("mean(0)", 6);
        run.told("packet(3, 2)", 80).due("cheapest()", 4).due("asked()", 16).due("larger()", 1).due("asked()", 10);
        run.due("looks(0, 1)", 6).due("asked()", 20).does("row(0, 0)").due("prices(0, 0)", 100).due("asked()", 0);
        run.told("shop(1)", 14).due("larger()", 1).due("asked()", 10);
        says(40, "that was not refused (nor NONE) told;");
        run.refused("lay(0, 0, 1)", BEYOND).refused("at(0, 0)", BEYOND).refused("mean(0)", NOUGHT).refused("packet(6, 0)", BAD);
        run.due("looks(0, 9)", NONE).refused("looks(0, 0)", BAD).refused("prices(0, 1)", NOTHING).refused("shop(3)", BAD).due("asked()", 10);
        Run.of("n199s1501").does("packet(0, 2)").due("cheapest()", NONE).due("looks(0, 1)", NONE).due("asked()", 50);
        new Run().lay(0, 7).does("at(0, 0)").refused("cheapest()", STATE).refused("looks(0, 1)", STATE).refused("shop(0)", STATE).due("asked()", 7);
        says(40, "0 before.");
        new Run().due("asked()", 0).refused("at(0, 0)", NOTHING).due("asked()", 0).does("row(0, 3)", "text(0, 4)").due("asked()", 0);
    }

    private static void askedOnlyByThese() {
        says(40, "What the latest");
        Run run = Run.of(SIX).lay(0, 77, 1).does("at(0, 0)");
        String[] others = {"row(1, 3)", "tear(1)", "row(1, 2)", "copy(0, 0, 1, 0, 1)", "text(0, 3)", "put(0, 0, 1)", "fault(3)", "mark(1, 1)",
            "larder(0)", "buy(0, 1)", "week()", "shrink(0)", "price(0, 1)", "card(1)", "undo(3)", "keep(0)", "on(0)", "costs(0, 3)",
            "rate(0)", "least(9, 2)", "weeks(1, 2)", "waste(1)", "off(1)", "lasts()", "row(3, 0)", "kinds(0, 3)", "grams(0, 1, 1)",
            "odds(4, 4)", "mid(4)", "lots(3, 3)", "upper()", "lower()", "count(0)", "finding()", "findings(1)", "digest()", "house(3)"};
        for (String call : others) {
            run.does(call).due("asked()", 77);
        }
    }

    private static void ratios() {
        says(41, "The upper number that was told last; 0 before.");
        new Run().due("upper()", 0).refused("rate(0)", BAD).refused("odds(0, 0)", STATE).due("upper()", 0);
        Run run = Run.of(SIX).due("upper()", 0).does("rate(4)").due("upper()", 17).does("mid(4)").due("upper()", 418);
        run.does("odds(2, 6)").due("upper()", 63);
        says(42, "Its lower number; 1 before.");
        new Run().due("lower()", 1).refused("rate(0)", BAD).refused("mid(0)", STATE).due("lower()", 1);
        run = Run.of(SIX).due("lower()", 1).does("rate(4)").due("lower()", 2).does("mid(4)").due("lower()", 3).does("odds(2, 6)");
        run.due("lower()", 64).refused("rate(6)", BAD).refused("odds(55, 0)", BAD).refused("mid(13)", BAD).due("lower()", 64);
        says(0, "Chances, means, what one costs by the gram are told by upper(), lower(),");
        String[] others = {"cheapest()", "larger()", "costs(0, 1)", "row(0, 2)", "mean(0)", "least(9, 1)", "looks(0, 1)", "shop(2)", "week()",
            "packet(0, 4)", "tear(0)", "house(3)", "lots(2, 2)", "undo(0)", "keep(0)", "on(0)", "digest()", "asked()"};
        for (String call : others) {
            run.does(call).due("upper()", 63).due("lower()", 64);
        }
        says(0, "Sets (of PACKETS, of KINDS, of GRAMS) are told by bits.");
        run = Run.of("n199p1101p2201s2501").due("cheapest()", 0).due("asked()", 1 + 2).lay(0, 3, 20).due("kinds(0, 0)", 4 + 32);
        run.due("grams(2, 1, 1)", 4 + 8);
    }

    private static void count() {
        says(43, "0 PACKETS, 1 the WEEK, 2 DEEDS, 3 PENNIES, 4 GRAMS in the LARDER, 5 EATEN, 6 HUNGER, 7 WASTE,");
        Run run = Run.of("n299y5201p1301").does("buy(0, 1)", "buy(1, 3)", "week()", "week()", "week()", "buy(0, 1)");
        run.countsAre(2, 3, 6, 20 + 90 + 20, 5, 4, 2, 3 + 1);
        says(43, "8 whether one has the card (1, 0), 9 CARDS (PLAIN ones, too), 10 HEAPS (YOGHURTS, too),");
        run.due("count(8)", 0).does("card(1)").due("count(8)", 1).due("count(9)", 0).due("count(10)", 1);
        Run.of("n199c1011l1011c1011l1011c1011l1011").due("count(9)", 6).due("count(10)", 0);
        Run.of("n199h1011y1011h1011y1011h1011y1011").due("count(9)", 0).due("count(10)", 6);
        Run.of("n199p1011s1011").due("count(9)", 0).due("count(10)", 0);
        says(43, "11 ROWS, 12 TEXTS that are there, 13 kept HOUSES, 14 the NEED, 15 the ROOM.");
        run = Run.of("n907p1011");
        for (int r = 0; r < 6; r++) {
            run.does("row(" + r + ", 0)").due("count(11)", r + 1);
        }
        for (int t = 0; t < 3; t++) {
            run.does("text(" + t + ", 0)").due("count(12)", t + 2);
            run.does("keep(" + t + ")").due("count(13)", t + 1);
        }
        run.does("row(0, 3)", "text(3, 3)", "keep(0)").due("count(11)", 6).due("count(12)", 4).due("count(13)", 3);
        run.due("count(14)", 9).due("count(15)", 7).does("tear(5)").due("count(11)", 5);
        says(43, "BAD.");
        run.takes("count(#)", 0, 15);
        new Run().takes("count(#)", 0, 15);
    }

    private static void finding() {
        says(44, "The latest FINDING (0 before any).");
        Run run = new Run().due("finding()", 0).refused("row(0, 41)", BAD).refused("week()", STATE).due("finding()", 0);
        run.refused("tear(0)", NOTHING).due("finding()", 1).refused("row(0, -1)", SIZE).due("finding()", 5).does("row(0, 0)");
        run.refused("mean(0)", NOUGHT).due("finding()", 4).refused("at(0, 0)", BEYOND).due("finding()", 2);
        // What is not a FINDING, and what is answered well, leaves it.
        run.does("row(0, 1)", "at(0, 0)", "mean(0)").refused("row(6, 0)", BAD).refused("week()", STATE).due("finding()", 2);
        run.write(0, SIX).does("house(0)").due("finding()", 2).refused("mark(0, 1)", UNLIKE).due("finding()", 3).does("house(0)");
        run.due("finding()", 3).refused("on(0)", NOTHING).due("finding()", 1).does("week()", "undo(0)", "keep(0)", "on(0)").due("finding()", 1);
    }

    private static void findings() {
        says(45, "How often a FINDING (1 .. 5) was answered.");
        Run run = new Run().due("findings(1)", 0).due("findings(2)", 0).due("findings(3)", 0).due("findings(4)", 0).due("findings(5)", 0);
        run.write(0, "n199p1011").does("house(0)", "row(0, 0)");
        String[] found = {"tear(1)", "at(0, 0)", "mark(0, 1)", "mean(0)", "row(0, -1)"};
        for (int f = 1; f <= 5; f++) {
            for (int often = 1; often <= f; often++) {
                run.refused(found[f - 1], f).due("findings(" + f + ")", often);
            }
        }
        run.does("house(0)", "keep(0)", "on(0)", "tear(0)");
        for (int f = 1; f <= 5; f++) {
            run.due("findings(" + f + ")", f);
        }
        says(45, "BAD.");
        run.takes("findings(#)", 1, 5);
        new Run().takes("findings(#)", 1, 5);
    }

    /** The digest as the document reckons it, from what the other calls tell. */
    private static long reckoned(Run run) {
        Run twin = run.twin();
        long h = 17;
        for (int what = 0; what < 16; what++) {
            h = 31 * h + twin.call("count(" + what + ")");
        }
        for (int k = 0; k < 10; k++) {
            h = 31 * h + twin.call("larder(" + k + ")");
        }
        for (int i = 0; i < run.twin().call("count(0)"); i++) {
            for (int what = 0; what < 6; what++) {
                twin.does("packet(" + i + ", " + what + ")");
                h = 31 * h + twin.call("asked()");
            }
        }
        for (int k = 0; k < 3; k++) {
            h = 31 * h + Math.max(-1, run.twin().call("on(" + k + ")"));
        }
        for (int r = 0; r < 6; r++) {
            h = mixed(h, run, "at(" + r + ", #)", 40);
        }
        for (int t = 0; t < 4; t++) {
            h = mixed(h, run, "put(" + t + ", #, 0)", 60);
        }
        return h;
    }

    private static long mixed(long before, Run run, String pattern, int most) {
        Run twin = run.twin();
        long[] places = new long[most];
        for (int i = 0; i <= most; i++) {
            long got = twin.call(pattern.replace("#", Integer.toString(i)));
            if (got == FINDING) {
                long h = 31 * before + (twin.call("finding()") == NOTHING ? -1 : i);
                for (int k = 0; k < i; k++) {
                    h = 31 * h + places[k];
                }
                return h;
            }
            places[i] = got == 1 ? twin.call("asked()") : got - 1000;
        }
        fail("the ROW or TEXT has no end");
        return 0;
    }

    private static void digestIs(Run run) {
        expect("digest()", run.twin().call("digest()"), reckoned(run));
    }

    private static void digest() {
        says(46, "h = 17; then h = 31 h + v for each v: count() 0 to 15; larder() 0 to 9; of each PACKET packet() 0 to 5;");
        digestIs(new Run());
        digestIs(Run.of(SIX));
        digestIs(Run.of("n199p1001"));
        digestIs(rich());
        digestIs(rich().deeds(40));
        digestIs(Run.of(SIX).does("card(1)", "lots(20, 9)"));
        says(46, "of each kept HOUSE how many DEEDS (-1: missing);");
        Run run = Run.of(SIX).does("keep(0)");
        digestIs(run);
        digestIs(run.does("week()", "keep(2)"));
        digestIs(run.deeds(40).does("keep(1)"));
        says(46, "of each ROW its size (-1: missing) and places, of each TEXT likewise.");
        run = new Run();
        for (int r = 0; r < 6; r++) {
            run.does("row(" + r + ", 40)");
            for (int i = 0; i < 40; i++) {
                run.does("lay(" + r + ", " + i + ", " + (i % 2 == 0 ? "MIN" : "MAX") + ")");
            }
            digestIs(run);
        }
        run = new Run();
        for (int t = 0; t < 4; t++) {
            run.does("text(" + t + ", 60)");
            for (int i = 0; i < 60; i++) {
                run.does("put(" + t + ", " + i + ", " + (i % 2 == 0 ? 128 : 255) + ")");
            }
            digestIs(run);
        }
        // Empty is not missing.
        run = new Run().does("row(0, 0)", "text(0, 0)");
        digestIs(run);
        expect("an empty ROW told apart", run.call("digest()") != new Run().call("digest()"), true);
        digestIs(run.does("row(5, 1)", "tear(0)", "text(3, 1)"));
        // It is told, and changes nothing.
        run = rich();
        long once = run.call("digest()");
        run.due("digest()", once).due("asked()", 7).due("upper()", run.twin().call("upper()"));
    }
}
