/** Two findings, or more, that are due at once: the one that the promise names first is answered, and it alone. */
public final class FirstFindingRuns {
    private static final int MIN = Integer.MIN_VALUE;
    private static final int MAX = Integer.MAX_VALUE;
    private static final Due DUE = new Due();
    private static final Findings FOUND = new Findings(DUE);

    public static void main(String[] args) {
        falls();
        sales();
        swaps();
        texts();
        dealsAsked();
        ownersAsked();
        rounds();
        tape();
        sheets();
        spots();
        DUE.end();
    }

    private static void first(String name, Findings.Setup setup, long want, Findings.Call call) {
        FOUND.check(name, setup, want, call);
    }

    private static void falls() {
        first("fall: BEYOND, NONE", Findings::allFallen, Due.BEYOND, x -> x.fall(6));
        first("fall: BEYOND, NONE", Findings::allFallen, Due.BEYOND, x -> x.fall(-1));
        first("hope: BEYOND, NONE", Findings::allFallen, Due.BEYOND, x -> x.hope(3));
        first("hope: BEYOND, NONE", Findings::allFallen, Due.BEYOND, x -> x.hope(-1));
    }

    /** In allFallen() and full() PICK 0 has gone from CLUB 0 to 1: another DEAL from 0 would CLASH. */
    private static void sales() {
        first("sale: KIND, NONE, STATE", Findings::allFallen, Due.BEYOND, x -> x.sale(2, 0, 2, 0, 0));
        first("sale: n, NONE, STATE", Findings::allFallen, Due.BEYOND, x -> x.sale(1, 0, 2, 0, 0));
        first("sale: the same, NONE", Findings::allFallen, Due.BEYOND, x -> x.sale(0, 0, 0, 0, 0));
        first("sale: TO, NONE, STATE", Findings::allFallen, Due.BEYOND, x -> x.sale(0, 0, 3, 0, 0));
        first("sale: PICK, n", Findings::allFallen, Due.BEYOND, x -> x.sale(4, 0, 2, -1, 3));
        first("sale: NONE, STATE", Findings::allFallen, Due.NONE, x -> x.sale(0, 0, 2, 0, 0));
        first("sale: NONE, STATE", Findings::allFallen, Due.NONE, x -> x.sale(4, 2, 0, 0, 2));
        first("sale: KIND, FULL, STATE", Findings::full, Due.BEYOND, x -> x.sale(5, 0, 2, 0, 1));
        first("sale: the same, FULL", Findings::full, Due.BEYOND, x -> x.sale(0, 1, 1, 0, 0));
        first("sale: FROM, FULL", Findings::full, Due.BEYOND, x -> x.sale(0, -1, 1, 0, 0));
        first("sale: PICK, FULL", Findings::full, Due.BEYOND, x -> x.sale(0, 1, 2, 12, 0));
        first("sale: n, FULL", Findings::full, Due.BEYOND, x -> x.sale(3, 1, 2, 0, 3));
        first("sale: FULL, STATE", Findings::full, Due.FULL, x -> x.sale(0, 0, 2, 0, 0));
        first("sale: BEYOND, NONE, FULL, STATE", Findings::fullAndFallen, Due.BEYOND, x -> x.sale(1, 0, 2, 0, MIN));
        first("sale: NONE, FULL, STATE", Findings::fullAndFallen, Due.NONE, x -> x.sale(0, 0, 2, 0, MAX));
        first("sale: FULL, STATE, in the next YEAR", Findings::fullAndFallen, Due.FULL, x -> x.sale(0, 0, 2, 3, 0));
        first("sale: n, STATE", Findings::rich, Due.BEYOND, x -> x.sale(1, 2, 1, 5, 0));
    }

    private static void swaps() {
        first("swap: one PICK, NONE", Findings::allFallen, Due.BEYOND, x -> x.swap(0, 2, 0, 0, 0));
        first("swap: YEARS, NONE", Findings::allFallen, Due.BEYOND, x -> x.swap(0, 2, 0, 3, 0));
        first("swap: n, NONE, STATE", Findings::allFallen, Due.BEYOND, x -> x.swap(0, 2, 0, 1, 3));
        first("swap: NONE, STATE", Findings::allFallen, Due.NONE, x -> x.swap(0, 2, 0, 1, 0));
        first("swap: one PICK, FULL", Findings::full, Due.BEYOND, x -> x.swap(1, 2, 4, 4, 0));
        first("swap: YEARS, FULL", Findings::full, Due.BEYOND, x -> x.swap(1, 2, 4, 2, 0));
        first("swap: n, FULL", Findings::full, Due.BEYOND, x -> x.swap(1, 2, 4, 3, -1));
        first("swap: the same, FULL", Findings::full, Due.BEYOND, x -> x.swap(1, 1, 4, 3, 0));
        first("swap: FULL, STATE", Findings::full, Due.FULL, x -> x.swap(0, 2, 0, 1, 0));
        first("swap: BEYOND, NONE, FULL, STATE", Findings::fullAndFallen, Due.BEYOND, x -> x.swap(0, 2, 0, 12, 0));
        first("swap: NONE, FULL, STATE", Findings::fullAndFallen, Due.NONE, x -> x.swap(0, 2, 0, 1, 2));
        first("swap: FULL, STATE, in the next YEAR", Findings::fullAndFallen, Due.FULL, x -> x.swap(0, 2, 3, 4, 2));
        first("swap: n, STATE", Findings::rich, Due.BEYOND, x -> x.swap(1, 2, 7, 8, 3));
    }

    /** A FAULT is no finding: it is told ahead of STATE. A TEXT has no FULL and no NONE: these are FAULTS. */
    private static void texts() {
        String[] ends = {";", "; from 9", " 1", "; from 0 to 1 pick 6 if lapsed 8"};
        for (String end : ends) {
            RolledPicks x = new RolledPicks();
            x.sale(0, 0, 1, 0, 0);
            DUE.holds("text: FAULT, STATE", Due.text(x, "from 0 to 2 pick 0" + end) < -1);
            DUE.is("status(-1)", x.status(-1), 0);
            DUE.is("clash(0)", x.clash(0), -1);
        }
        RolledPicks x = new RolledPicks();
        Findings.fullAndFallen(x);
        x.wipe();
        DUE.is("text: a 13th DEAL of a FALLEN YEAR that would CLASH", Due.text(x, "from 0 to 2 pick 0"), -1);
        x.drop();
        DUE.is("text: a 12th DEAL of a FALLEN YEAR that would CLASH", Due.text(x, "from 0 to 2 pick 0"), -18);
        DUE.is("status(-1)", x.status(-1), 0);
        DUE.is("text: a 12th DEAL that CLASHES", Due.text(x, "from 0 to 2 pick 3"), Due.STATE);
        DUE.is("status(-1)", x.status(-1), 1);
    }

    private static void dealsAsked() {
        first("of: BEYOND twice", Findings::bare, Due.BEYOND, x -> x.of(0, 8));
        first("holds: BEYOND twice", Findings::bare, Due.BEYOND, x -> x.holds(0, 1296));
        first("conveys: STANDING, NONE", Findings::rich, Due.BEYOND, x -> x.conveys(0, 1296, 1));
        first("conveys: what, NONE", Findings::rich, Due.BEYOND, x -> x.conveys(1, 0, 2));
        first("conveys: no such DEAL, what", Findings::rich, Due.BEYOND, x -> x.conveys(6, -1, 2));
    }

    private static void ownersAsked() {
        first("chain: STANDING, NONE", Findings::rich, Due.BEYOND, x -> x.chain(0, 5, 9));
        first("chain: PICK, NONE", Findings::rich, Due.BEYOND, x -> x.chain(700, 12, -2));
        first("sure: BEYOND", Findings::rich, Due.BEYOND, x -> x.sure(12));
        first("least: PICK, NONE", Findings::rich, Due.BEYOND, x -> x.least(12, 1));
        first("least: CLUB, NONE", Findings::rich, Due.BEYOND, x -> x.least(4, 3));
        first("worth: STANDING, CLUB", Findings::rich, Due.BEYOND, x -> x.worth(0, 3));
    }

    /** In rich() SHEET 3 is MISSING, SHEET 2 too short and of no DEALS, SHEET 0 long enough. */
    private static void rounds() {
        first("rounds: SHEET, STANDING", Findings::rich, Due.BEYOND, x -> x.rounds(4, 0));
        first("rounds: STANDING, MISSING", Findings::rich, Due.BEYOND, x -> x.rounds(3, 0));
        first("rounds: STANDING, SIZE", Findings::rich, Due.BEYOND, x -> x.rounds(2, 864));
        first("rounds: STANDING, STATE", Findings::rich, Due.BEYOND, x -> x.rounds(0, 647));
        first("rounds: MISSING, SIZE", Findings::rich, Due.MISSING, x -> x.rounds(3, 700));
        first("rounds: SIZE, STATE", Findings::rich, Due.SIZE, x -> x.rounds(2, 700));
        first("rounds: SIZE, STATE", Findings::rich, Due.SIZE, x -> x.rounds(1, 700));
        first("rounds: MISSING, with no DEAL", Findings::bare, Due.MISSING, x -> x.rounds(0, 0));
        first("lays: STANDING, MISSING", Findings::rich, Due.BEYOND, x -> x.lays(3, 647));
        first("judge: STANDING, MISSING", Findings::rich, Due.BEYOND, x -> x.judge(3, 864));
        first("lays: SHEET, STANDING", Findings::rich, Due.BEYOND, x -> x.lays(-1, 0));
        first("judge: SHEET, STANDING", Findings::rich, Due.BEYOND, x -> x.judge(-1, 0));
    }

    private static void tape() {
        for (int n : new int[] {MIN, -1, 0, 5, MAX}) {
            first("feed: BEYOND, FULL", Findings::full, Due.BEYOND, x -> x.feed(0, n));
        }
    }

    private static void sheets() {
        first("sheet: SHEET, SIZE", Findings::rich, Due.BEYOND, x -> x.sheet(4, 0, -1));
        first("sheet: sort, SIZE", Findings::rich, Due.BEYOND, x -> x.sheet(0, 3, -1));
        first("sheet: SHEET, sort, SIZE", Findings::rich, Due.BEYOND, x -> x.sheet(-1, -2, MIN));
        first("sheet: SHEET, above 40", Findings::rich, Due.BEYOND, x -> x.sheet(4, 0, 41));
        first("write: SHEET, number", Findings::rich, Due.BEYOND, x -> x.write(4, -1, 0));
        first("write: MISSING, number", Findings::rich, Due.MISSING, x -> x.write(3, -1, 0));
        first("write: MISSING, number", Findings::rich, Due.MISSING, x -> x.write(3, 40, 0));
        first("item: SHEET, number", Findings::rich, Due.LONG_BEYOND, x -> x.item(-1, -1));
        first("item: MISSING, number", Findings::rich, Due.LONG_MISSING, x -> x.item(3, MAX));
        first("copy: SHEET, MISSING", Findings::rich, Due.BEYOND, x -> x.copy(3, 0, 4, 0, 1));
        first("copy: SHEET, MISSING", Findings::rich, Due.BEYOND, x -> x.copy(-1, 0, 3, 0, 1));
        first("copy: MISSING, KIND", Findings::rich, Due.MISSING, x -> x.copy(3, 0, 0, 0, 0));
        first("copy: MISSING, KIND, does not fit", Findings::rich, Due.MISSING, x -> x.copy(0, 9, 3, 0, 9));
        first("copy: KIND, does not fit", Findings::rich, Due.KIND, x -> x.copy(0, 0, 1, 0, 7));
        first("copy: KIND, below 0", Findings::rich, Due.KIND, x -> x.copy(1, -1, 2, -1, -1));
    }

    /** In rich() SPOT 0 holds a GUARD, SPOT 1 nothing. */
    private static void spots() {
        first("hold: SPOT, DEAL", Findings::rich, Due.BEYOND, x -> x.hold(4, 6));
        first("taken: SPOT, as", Findings::rich, Due.BEYOND, x -> x.taken(-1, 6));
        first("taken: as, MISSING", Findings::rich, Due.BEYOND, x -> x.taken(1, 6));
        first("taken: as, KIND", Findings::rich, Due.BEYOND, x -> x.taken(0, -1));
        first("taken: KIND, no more", FirstFindingRuns::dropped, Due.KIND, x -> x.taken(0, 2));
    }

    private static void dropped(RolledPicks x) {
        x.sale(1, 0, 1, 0, 1);
        x.hold(0, 0);
        x.drop();
    }
}
