import java.util.Arrays;

/** The sentences of promises 1 to 9, and of the terms, about ROWS and TEXTS. */
public final class RowEdgesTest extends Edges {
    public static void main(String[] args) {
        aNewObject();
        row();
        lay();
        at();
        tear();
        copyPlaces();
        copyRefused();
        mean();
        text();
        put();
        end();
    }

    private static int[] filled(int size, int value) {
        int[] values = new int[size];
        Arrays.fill(values, value);
        return values;
    }

    private static int[] counted(int size, int first) {
        int[] values = new int[size];
        for (int i = 0; i < size; i++) {
            values[i] = first + i;
        }
        return values;
    }

    private static Run sixRows() {
        Run run = new Run();
        for (int r = 0; r < 6; r++) {
            run.does("row(" + r + ", 1)");
        }
        return run;
    }

    private static Run fourTexts() {
        Run run = new Run();
        for (int t = 0; t < 4; t++) {
            run.does("text(" + t + ", 1)");
        }
        return run;
    }

    private static void aNewObject() {
        says(1, "No ROWS, TEXTS, PACKETS.");
        Run run = new Run();
        run.due("count(0)", 0).due("count(11)", 0).due("count(12)", 0);
        run.refused("packet(0, 0)", BAD);
        says(0, "or missing (at first).");
        for (int r = 0; r < 6; r++) {
            run.refused("at(" + r + ", 0)", NOTHING);
        }
        for (int t = 0; t < 4; t++) {
            run.refused("put(" + t + ", 0, 32)", NOTHING);
        }
        says(0, "WEEK 0 is at first, no PENNIES are spent, the LARDER is empty, one has no card.");
        new Run().countsAre(0, 0, 0, 0, 0, 0, 0, 0, 0, 0, 0, 0, 0, 0, 0, 0).larderIs();
    }

    private static void row() {
        says(2, "A ROW is there with n ints 0: n.");
        for (int n : new int[] {0, 1, 39, 40}) {
            new Run().due("row(5, " + n + ")", n).rowIs(5, new int[n]).due("count(11)", 1);
        }
        // Anew: nothing stays of what lay there, be the new ROW shorter, as long, or longer.
        Run run = new Run().lay(0, filled(40, 7)).due("row(0, 2)", 2).rowIs(0, 0, 0);
        run.due("row(0, 40)", 40).rowIs(0, new int[40]);
        run.does("lay(0, 39, 5)").due("row(0, 40)", 40).rowIs(0, new int[40]);
        says(0, "ROWS 0 .. 5 are rows of 0 to 40 ints,");
        new Run().takes("row(#, 1)", 0, 5).takes("row(0, #)", 0, 40, SIZE, BAD);
        says(2, "BAD: also n above 40;");
        run = new Run().lay(2, 8, 9);
        run.refused("row(2, 41)", BAD).refused("row(2, MAX)", BAD).refused("row(6, 2)", BAD).refused("row(-1, 2)", BAD);
        run.refused("row(6, 41)", BAD).rowIs(2, 8, 9);
        says(2, "SIZE: below 0.");
        run.refused("row(2, -1)", SIZE).refused("row(2, MIN)", SIZE).refused("row(1, -1)", SIZE).rowIs(2, 8, 9);
        run.refused("row(6, -1)", BAD).refused("row(-1, MIN)", BAD).due("count(11)", 1);
    }

    private static void lay() {
        says(3, "Place i of a ROW is v: what it was, told by asked(): 1.");
        Run run = new Run().does("row(0, 40)");
        run.told("lay(0, 0, MIN)", 0).told("lay(0, 39, MAX)", 0).told("lay(0, 0, MAX)", MIN).told("lay(0, 39, -1)", MAX);
        int[] values = new int[40];
        values[0] = MAX;
        values[39] = -1;
        run.rowIs(0, values);
        says(3, "BAD; NOTHING; BEYOND.");
        sixRows().takes("lay(#, 0, 1)", 0, 5);
        run.takes("lay(0, #, 1)", 0, 39, BEYOND, BEYOND);
        run.refused("lay(1, 0, 1)", NOTHING).refused("lay(1, -1, 1)", NOTHING).refused("lay(1, 40, 1)", NOTHING);
        run.refused("lay(6, 0, 1)", BAD).refused("lay(6, 40, 1)", BAD).refused("lay(-1, -1, 1)", BAD);
        run.does("row(1, 0)").refused("lay(1, 0, 1)", BEYOND).refused("lay(1, -1, 1)", BEYOND);
        run.does("row(1, 1)").refused("lay(1, 1, 1)", BEYOND).told("lay(1, 0, 1)", 0);
    }

    private static void at() {
        says(4, "Place i of a ROW, told by asked(): 1.");
        Run run = new Run().lay(5, counted(40, -20));
        run.told("at(5, 0)", -20).told("at(5, 39)", 19).told("at(5, 20)", 0);
        run.does("lay(5, 0, MIN)", "lay(5, 39, MAX)").told("at(5, 0)", MIN).told("at(5, 39)", MAX);
        says(4, "BAD; NOTHING; BEYOND.");
        sixRows().takes("at(#, 0)", 0, 5);
        run.takes("at(5, #)", 0, 39, BEYOND, BEYOND);
        run.refused("at(4, 0)", NOTHING).refused("at(4, -1)", NOTHING).refused("at(4, 40)", NOTHING);
        run.refused("at(6, 0)", BAD).refused("at(6, 40)", BAD).refused("at(-1, -1)", BAD);
        run.does("row(4, 0)").refused("at(4, 0)", BEYOND).refused("at(4, -1)", BEYOND);
        says(0, "2 BEYOND (a place of a ROW, a TEXT that there is not),");
        run.does("row(3, 39)").refused("at(3, 39)", BEYOND).told("at(3, 38)", 0);
    }

    private static void tear() {
        says(5, "A ROW is missing: 1.");
        Run run = new Run().lay(0, 4).lay(5, filled(40, 3)).does("row(1, 0)");
        run.due("tear(5)", 1).due("count(11)", 2).refused("at(5, 0)", NOTHING).rowIs(0, 4);
        run.due("tear(1)", 1).refused("mean(1)", NOTHING).due("tear(0)", 1).due("count(11)", 0);
        run.does("row(5, 40)").rowIs(5, new int[40]);
        says(5, "BAD; NOTHING.");
        sixRows().takes("tear(#)", 0, 5);
        run.refused("tear(0)", NOTHING).refused("tear(6)", BAD).refused("tear(-1)", BAD);
        says(0, "1 NOTHING (a ROW, a TEXT, a kept HOUSE that is missing),");
        run.refused("tear(4)", NOTHING).refused("fault(0)", NOTHING).refused("on(2)", NOTHING);
    }

    private static void copyPlaces() {
        says(6, "n places of a ROW, from one on, come to those of another one");
        Run run = new Run().lay(0, counted(40, 100)).lay(1, counted(3, 0));
        run.due("copy(0, 37, 1, 0, 3)", 1).rowIs(1, 137, 138, 139).rowIs(0, counted(40, 100));
        run.due("copy(0, 0, 1, 2, 1)", 1).rowIs(1, 137, 138, 100);
        run.due("copy(1, 0, 0, 37, 3)", 1).told("at(0, 37)", 137).told("at(0, 39)", 100).told("at(0, 36)", 136);
        run.due("copy(0, 40, 1, 3, 0)", 1).due("copy(1, 0, 0, 0, 0)", 1).rowIs(1, 137, 138, 100);
        run.does("row(2, 0)").due("copy(2, 0, 0, 40, 0)", 1).due("copy(0, 0, 2, 0, 0)", 1).rowIs(2);
        new Run().lay(0, counted(40, 5)).does("row(5, 40)").due("copy(0, 0, 5, 0, 40)", 1).rowIs(5, counted(40, 5));
        says(6, "(perhaps itself) from one on, as if taken ahead: 1.");
        int[] up = counted(40, 9);
        up[0] = 10;
        new Run().lay(3, counted(40, 10)).due("copy(3, 0, 3, 1, 39)", 1).rowIs(3, up);
        int[] down = counted(40, 11);
        down[39] = 49;
        new Run().lay(3, counted(40, 10)).due("copy(3, 1, 3, 0, 39)", 1).rowIs(3, down);
        new Run().lay(3, counted(40, 10)).due("copy(3, 0, 3, 0, 40)", 1).rowIs(3, counted(40, 10));
    }

    private static void copyRefused() {
        says(6, "BAD;");
        sixRows().takes("copy(#, 0, 0, 0, 1)", 0, 5).takes("copy(0, 0, #, 0, 1)", 0, 5);
        Run run = new Run().lay(0, 1, 2, 3).lay(1, 4, 5);
        run.refused("copy(6, 0, 1, 0, -1)", BAD).refused("copy(0, 0, 6, 0, -1)", BAD).refused("copy(-1, 9, 2, 9, 9)", BAD);
        says(6, "SIZE: n below 0;");
        run.refused("copy(0, 0, 1, 0, -1)", SIZE).refused("copy(0, 0, 1, 0, MIN)", SIZE);
        run.refused("copy(2, 0, 1, 0, -1)", SIZE).refused("copy(0, 9, 1, 9, -1)", SIZE).refused("copy(2, -1, 3, -1, -1)", SIZE);
        says(6, "NOTHING: either;");
        run.refused("copy(2, 0, 1, 0, 1)", NOTHING).refused("copy(0, 0, 2, 0, 1)", NOTHING);
        run.refused("copy(2, 0, 2, 0, 0)", NOTHING).refused("copy(0, 9, 2, 0, 1)", NOTHING).refused("copy(2, 0, 1, 9, 1)", NOTHING);
        says(6, "BEYOND: not so many there.");
        run.takes("copy(0, #, 1, 0, 1)", 0, 2, BEYOND, BEYOND).takes("copy(0, 0, 1, #, 1)", 0, 1, BEYOND, BEYOND);
        run.takes("copy(0, 1, 1, 0, #)", 0, 2, SIZE, BEYOND);
        // Each side alone has one too few.
        run.refused("copy(0, 2, 1, 0, 2)", BEYOND).refused("copy(0, 0, 1, 1, 2)", BEYOND).refused("copy(1, 0, 0, 0, 3)", BEYOND);
        run.refused("copy(0, 1, 1, 0, MAX)", BEYOND).refused("copy(0, MAX, 1, 0, 1)", BEYOND);
        run.refused("copy(0, 0, 1, MAX, 1)", BEYOND).refused("copy(0, MAX, 1, MAX, MAX)", BEYOND);
        run.refused("copy(0, MIN, 1, 0, MAX)", BEYOND).refused("copy(0, 4, 1, 0, 0)", BEYOND).refused("copy(0, 0, 1, 3, 0)", BEYOND);
        run.refused("copy(0, -1, 1, 0, 0)", BEYOND).refused("copy(0, 0, 1, -1, 0)", BEYOND).rowIs(0, 1, 2, 3).rowIs(1, 4, 5);
    }

    private static void mean() {
        says(7, "The mean of a ROW's ints, cut, told by asked(): 1.");
        new Run().lay(0, 7).told("mean(0)", 7).lay(0, 1, 0).told("mean(0)", 0).lay(0, -1, 0).told("mean(0)", 0);
        new Run().lay(0, 3, 2, 3).told("mean(0)", 2).lay(0, -3, -2, -3).told("mean(0)", -2);
        new Run().lay(5, MAX).told("mean(5)", MAX).lay(5, MIN).told("mean(5)", MIN);
        // Sums beyond int: just beyond, and as far as can be.
        new Run().lay(0, MAX, 1).told("mean(0)", 1073741824).lay(0, MIN, -1).told("mean(0)", -1073741824);
        new Run().lay(0, MAX, MIN).told("mean(0)", 0).lay(0, filled(40, MAX)).told("mean(0)", MAX);
        new Run().lay(0, filled(40, MIN)).told("mean(0)", MIN).does("lay(0, 39, MAX)").told("mean(0)", -2040109465);
        says(7, "BAD; NOTHING; NOUGHT.");
        sixRows().takes("mean(#)", 0, 5);
        Run run = new Run().lay(0, 9).told("mean(0)", 9).does("row(1, 0)");
        run.refused("mean(6)", BAD).refused("mean(-1)", BAD).refused("mean(2)", NOTHING).refused("mean(1)", NOUGHT);
        says(0, "4 NOUGHT (shared among none),");
        run.due("finding()", NOUGHT).due("findings(4)", 1).due("asked()", 9);
    }

    private static void text() {
        says(8, "A TEXT is there with n blanks: n.");
        for (int n : new int[] {0, 1, 59, 60}) {
            Run run = new Run().due("text(3, " + n + ")", n).due("count(12)", 1);
            for (int i = 0; i < n; i++) {
                run.due("put(3, " + i + ", -1)", 1032);
            }
            run.refused("put(3, " + n + ", 0)", BEYOND);
            run.due("text(3, " + n + ")", n).due("fault(3)", n).does("text(3, 60)").due("fault(3)", 60);
        }
        says(0, "TEXTS 0 .. 3 rows of 0 to 60 bytes,");
        new Run().takes("text(#, 1)", 0, 3).takes("text(0, #)", 0, 60, SIZE, BAD);
        says(8, "BAD: also n above 60;");
        Run run = new Run().write(1, "xy");
        run.refused("text(1, 61)", BAD).refused("text(1, MAX)", BAD).refused("text(4, 2)", BAD).refused("text(-1, 2)", BAD);
        run.refused("text(4, 61)", BAD);
        says(8, "SIZE: below 0.");
        run.refused("text(1, -1)", SIZE).refused("text(1, MIN)", SIZE).refused("text(0, -1)", SIZE);
        run.refused("text(4, -1)", BAD).refused("text(-1, MIN)", BAD);
        run.due("count(12)", 1).due("put(1, 0, 0)", 1120).due("put(1, 1, 0)", 1121).refused("put(1, 2, 0)", BEYOND);
        says(0, "5 SIZE (fewer than none; too many, not as many as due).");
        run.due("findings(5)", 3).lay(0, 1).refused("text(1, -1)", SIZE).refused("row(0, -1)", SIZE).due("findings(5)", 5);
    }

    private static void put() {
        says(9, "Byte i of a TEXT is v, cut to a byte: what it was, and 1000 more.");
        int[] laid = {0, 1, 127, 128, 129, 255, 256, 257, -1, -128, -129, -256, -257, MAX, MIN, MIN + 1, 65536 + 200};
        int[] bytes = {0, 1, 127, -128, -127, -1, 0, 1, -1, -128, 127, 0, -1, -1, 0, 1, -56};
        Run run = new Run().does("text(0, 60)");
        long was = 1032;
        for (int k = 0; k < laid.length; k++) {
            run.due("put(0, 59, " + laid[k] + ")", was);
            was = 1000 + bytes[k];
        }
        run.due("put(0, 59, 32)", was).due("put(0, 0, 5)", 1032).due("put(0, 58, 5)", 1032).due("put(0, 1, 5)", 1032);
        says(9, "BAD; NOTHING; BEYOND.");
        fourTexts().takes("put(#, 0, 1)", 0, 3);
        run.takes("put(0, #, 1)", 0, 59, BEYOND, BEYOND);
        run.refused("put(1, 0, 1)", NOTHING).refused("put(1, -1, 1)", NOTHING).refused("put(1, 60, 1)", NOTHING);
        run.refused("put(4, 0, 1)", BAD).refused("put(4, 60, 1)", BAD).refused("put(-1, -1, 1)", BAD);
        run.does("text(2, 0)").refused("put(2, 0, 1)", BEYOND).refused("put(2, -1, 1)", BEYOND);
        run.does("text(2, 1)").refused("put(2, 1, 1)", BEYOND).due("put(2, 0, 1)", 1032);
    }
}
