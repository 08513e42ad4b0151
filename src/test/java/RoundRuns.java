/** Promises 28 to 30: rounds, owners laid on a sheet, sheets judged. */
public final class RoundRuns {
    private static final Due DUE = new Due();

    public static void main(String[] args) {
        rounds();
        roundsOfSwaps();
        onFromSwaps();
        manyRounds();
        wrongSheets();
        lays();
        judges();
        DUE.end();
    }

    private static void tell(RolledPicks x, int s, int sort, long... numbers) {
        x.sheet(s, sort, numbers.length);
        for (int i = 0; i < numbers.length; i++) {
            x.write(s, i, numbers[i]);
        }
    }

    private static void rounds() {
        RolledPicks x = new RolledPicks();
        x.sheet(0, 0, 0);
        DUE.is("no DEALS", x.rounds(0, 0), 1);
        x.sale(0, 2, 0, 5, 0);
        x.sale(0, 0, 1, 5, 0);
        x.sale(1, 0, 1, 0, 2);
        tell(x, 1, 0, 0, 1, 2);
        DUE.is("along the CHAIN", x.rounds(1, 0), 2);
        tell(x, 1, 1, 2, 1, 0);
        DUE.is("against the CHAIN", x.rounds(1, 0), 3);
        tell(x, 1, 2, 1, 2, 0);
        DUE.is("against the CHAIN", x.rounds(1, 1295), 3);
        DUE.is("owners stay", x.sure(5), 1);
        RolledPicks y = new RolledPicks();
        y.sale(1, 0, 1, 0, 2);
        tell(y, 3, 2, 0);
        DUE.is("a DEAL that lapses", y.rounds(3, 0), 1);
        DUE.is("a DEAL that doesn't", y.rounds(3, 1295), 2);
    }

    private static void roundsOfSwaps() {
        RolledPicks x = new RolledPicks();
        x.sale(0, 0, 2, 3, 0);
        x.sale(0, 1, 0, 4, 0);
        // where 4 is ahead of 3, 3 goes on from 2 to 0 and 4 would come back from 0 to 2
        DUE.is("swap", x.swap(2, 0, 3, 4, 0), Due.STATE);
        DUE.is("text", Due.text(x, "from 2 to 1 pick 3 swap 5"), Due.STATE);
        x.drop();
        DUE.is("swap", x.swap(2, 1, 3, 4, 1), 1);
        tell(x, 0, 0, 1, 0);
        int behind = 2 * 36;
        DUE.is("one PICK of a SWAP at once, the other a round later", x.rounds(0, behind), 3);
        tell(x, 0, 0, 0, 1);
        DUE.is("both at once", x.rounds(0, behind), 2);
        DUE.is("where it lapses", x.rounds(0, 0), 2);
    }

    /** The other PICK of a SWAP goes on only once it has come. */
    private static void onFromSwaps() {
        RolledPicks x = new RolledPicks();
        x.swap(0, 1, 3, 4, 0);
        x.swap(0, 1, 6, 7, 0);
        x.sale(0, 1, 2, 9 + 1, 0);
        DUE.is("text", Due.text(x, "from 0 to 2 pick 4 if not lapsed 0; from 0 to 2 pick 7 if not lapsed 1"), 2);
        int both = 2 * 36 + 2 * 6;
        tell(x, 0, 0, 3, 4, 2, 1, 0);
        DUE.is("others go on a round later", x.rounds(0, both), 3);
        tell(x, 0, 0, 0, 1, 2, 3, 4);
        DUE.is("others go on at once", x.rounds(0, both), 2);
        tell(x, 0, 0, 3, 1, 4, 0, 2);
        DUE.is("one goes on a round later", x.rounds(0, both), 3);
        DUE.is("where the swaps lapse", x.rounds(0, 0), 2);
        RolledPicks y = new RolledPicks();
        y.sale(0, 1, 2, 1, 0);
        y.sale(0, 2, 0, 0 + 2, 0);
        DUE.is("swap", y.swap(0, 2, 0, 1, 1), 2);
        tell(y, 0, 0, 2, 1, 0);
        DUE.is("the other comes a round later", y.rounds(0, 2 * 216), 3);
        tell(y, 0, 0, 0, 2, 1);
        DUE.is("the other comes at once", y.rounds(0, 2 * 216), 2);
        RolledPicks z = new RolledPicks();
        z.sale(0, 0, 1, 0, 0);
        DUE.is("swap", z.swap(2, 1, 1 + 1, 0, 0), 1);
        tell(z, 0, 0, 1, 0);
        DUE.is("the other is the first PICK", z.rounds(0, 0), 3);
        tell(z, 0, 0, 0, 1);
        DUE.is("the other is the first PICK", z.rounds(0, 0), 2);
    }

    private static void manyRounds() {
        RolledPicks x = new RolledPicks();
        for (int pick = 0; pick < 6; pick++) {
            x.sale(0, pick % 3, (pick + 1) % 3, pick, 0);
            x.sale(0, (pick + 1) % 3, (pick + 2) % 3, pick, 0);
        }
        tell(x, 0, 0, 11, 10, 9, 8, 7, 6, 5, 4, 3, 2, 1, 0);
        DUE.is("twelve DEALS backward", x.rounds(0, 700), 3);
        tell(x, 0, 2, 0, 1, 2, 3, 4, 5, 6, 7, 8, 9, 10, 11);
        DUE.is("twelve DEALS forward", x.rounds(0, 700), 2);
        tell(x, 0, 2, 0, 1, 2, 3, 4, 5, 6, 7, 8, 9, 10, 10);
        DUE.is("one twice", x.rounds(0, 700), Due.STATE);
    }

    private static void wrongSheets() {
        RolledPicks x = new RolledPicks();
        x.sale(0, 0, 1, 0, 0);
        x.sale(0, 1, 2, 1, 0);
        DUE.is("MISSING", x.rounds(0, 0), Due.MISSING);
        tell(x, 0, 2, 0);
        DUE.is("too few", x.rounds(0, 0), Due.SIZE);
        tell(x, 0, 2, 0, 1, 2);
        DUE.is("too many", x.rounds(0, 0), Due.SIZE);
        tell(x, 0, 2, 0, 0);
        DUE.is("twice", x.rounds(0, 0), Due.STATE);
        tell(x, 0, 2, 0, 2);
        DUE.is("none such", x.rounds(0, 0), Due.STATE);
        tell(x, 0, 2, -1, 0);
        DUE.is("none such", x.rounds(0, 0), Due.STATE);
        tell(x, 0, 2, 1, 1L << 32);
        DUE.is("none such", x.rounds(0, 0), Due.STATE);
        tell(x, 0, 2, 1, Long.MIN_VALUE);
        DUE.is("none such", x.rounds(0, 0), Due.STATE);
        tell(x, 0, 2, 1, 0);
        DUE.is("right", x.rounds(0, 0), 2);
        x.fall(1);
        DUE.is("not OPEN", x.rounds(0, 0), Due.BEYOND);
        DUE.is("OPEN", x.rounds(0, 216), 2);
        DUE.is("no such SHEET", x.rounds(4, 216), Due.BEYOND);
        DUE.is("status(5)", x.status(5), 1);
        DUE.is("status(6)", x.status(6), 2);
        DUE.is("status(4)", x.status(4), 5);
    }

    private static void lays() {
        RolledPicks x = new RolledPicks();
        x.sale(0, 2, 0, 5, 0);
        x.sale(4, 1, 2, 10, 2);
        x.sale(0, 0, 1, 0, 0);
        int[] due = {1, 1, 2, 0, 1, 0, 0, 1, 2, 0, 2, 2};
        for (int sort = 0; sort < 3; sort++) {
            x.sheet(1, sort, 14);
            x.write(1, 12, 55);
            DUE.is("lays(1, 0)", x.lays(1, 0), 12);
            for (int i = 0; i < 12; i++) {
                DUE.is("item(1, " + i + ")", x.item(1, i), due[i]);
            }
            DUE.is("item(1, 12)", x.item(1, 12), 55);
        }
        x.sheet(2, 0, 3);
        DUE.is("lays(2, 0)", x.lays(2, 0), 3);
        DUE.is("item(2, 2)", x.item(2, 2), 2);
        x.sheet(2, 0, 0);
        DUE.is("lays(2, 0)", x.lays(2, 0), 0);
        DUE.is("lays(3, 0)", x.lays(3, 0), Due.MISSING);
        DUE.is("lays(3, 1296)", x.lays(3, 1296), Due.BEYOND);
        x.sheet(1, 2, 12);
        x.lays(1, 1);
        DUE.is("item(1, 10) under another", x.item(1, 10), 1);
    }

    private static void judges() {
        RolledPicks x = new RolledPicks();
        x.sale(0, 2, 0, 5, 0);
        x.sheet(1, 2, 12);
        DUE.is("all 0", x.judge(1, 0), 2);
        x.lays(1, 0);
        DUE.is("as laid", x.judge(1, 0), 0);
        x.write(1, 5, 1L << 32);
        DUE.is("its lowest bits alone are right", x.judge(1, 0), 6);
        x.lays(1, 0);
        x.write(1, 11, 0);
        DUE.is("the last is wrong", x.judge(1, 0), 12);
        x.write(1, 0, 3);
        DUE.is("the first is wrong", x.judge(1, 0), 1);
        x.sheet(1, 0, 13);
        x.lays(1, 0);
        DUE.is("one too many", x.judge(1, 0), 13);
        x.sheet(1, 0, 40);
        x.lays(1, 0);
        DUE.is("many too many", x.judge(1, 0), 13);
        x.write(1, 3, 1);
        DUE.is("a wrong one ahead of them", x.judge(1, 0), 4);
        x.sheet(1, 1, 11);
        x.lays(1, 0);
        DUE.is("one lacks", x.judge(1, 0), 12);
        x.sheet(1, 1, 0);
        DUE.is("all lack", x.judge(1, 0), 1);
        x.sheet(1, 1, 4);
        DUE.is("wrong and short", x.judge(1, 0), 2);
        DUE.is("judge(0, 0)", x.judge(0, 0), Due.MISSING);
        DUE.is("judge(-1, 0)", x.judge(-1, 0), Due.BEYOND);
        DUE.is("judge(0, -1)", x.judge(0, -1), Due.BEYOND);
    }
}
