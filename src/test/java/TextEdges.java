/** Promise 9 at its edges: no byte, all 120, each NUMBER's ends, twelve DEALS, refused ones. */
public final class TextEdges {
    private static final Due DUE = new Due();
    private static final String EIGHT = "from0to1pick0;from1to2pick1;from2to0pick2;from0to1pick3;"
        + "from1to2pick4;from2to0pick5;from0to1pick6;from1to2pick7";

    public static void main(String[] args) {
        noTokens();
        fullTapes();
        endsOfNumbers();
        greatNumbers();
        picksOfFallenYears();
        dealsThereByThen();
        nestedAtTheEdge();
        firstFault();
        wordsAsLongAsCanBe();
        twelveDeals();
        refusedAtEachPlace();
        refusedAmongOwn();
        refusedTellsTheFirst();
        faultAheadOfClash();
        tapeIsEmptyThen();
        lapsedOfWhatIsNoMore();
        conditionsUnderEachOrder();
        oneConditionAfterAnother();
        DUE.end();
    }

    private static void isText(RolledPicks x, String text, int due) {
        DUE.is("text() of \"" + text + "\"", Due.text(x, text), due);
    }

    /** The mark | stands where the FAULT is; without one the TEXT is right. */
    private static void reads(RolledPicks x, String marked, int deals) {
        int at = marked.indexOf('|');
        String text = marked.replace("|", "");
        int before = x.count(0);
        int found = x.status(-1);
        int clash = x.clash(0);
        isText(x, text, at < 0 ? deals : -1 - at);
        String of = "after \"" + marked + "\": ";
        DUE.is(of + "count(0)", x.count(0), before + (at < 0 ? deals : 0));
        DUE.is(of + "count(5)", x.count(5), 0);
        DUE.is(of + "status(-1)", x.status(-1), found);
        DUE.is(of + "clash(0)", x.clash(0), clash);
    }

    private static void reads(String marked, int deals) {
        reads(new RolledPicks(), marked, deals);
    }

    /** It ends too early: the FAULT is how many bytes there are. */
    private static void noTokens() {
        reads("|", 0);
        for (int n = 1; n <= 120; n += n < 4 ? 1 : 29) {
            reads(" ".repeat(n) + "|", 0);
        }
        reads("|;", 0);
        reads("|(", 0);
        reads("|)", 0);
        reads("|0", 0);
    }

    private static void fullTapes() {
        RolledPicks x = new RolledPicks();
        reads(x, Texts.filled("from 0 to 1 pick 0"), 1);
        reads(x, " ".repeat(102) + "from 1 to 2 pick 0", 1);
        DUE.is("chain(0, 0, -1)", x.chain(0, 0, -1), 3);
        reads(" ".repeat(101) + "from 0 to 1 pick 0;|", 0);
        reads(" ".repeat(101) + "from 0 to 1 pick 0|(", 0);
        reads(" ".repeat(119) + "|f", 0);
        reads(" ".repeat(116) + "from|", 0);
        reads("from0to1pick0if " + "at0 0 0or ".repeat(10) + "at0|", 0);
        reads("from0to1pick0if " + "at0 0 0or ".repeat(9) + "at0 0 0   ", 1);
        RolledPicks y = new RolledPicks();
        String whole = Texts.filled(EIGHT.substring(0, 111));
        DUE.is("bytes", whole.length(), 120);
        Due.feed(y, whole);
        DUE.is("count(5)", y.count(5), 120);
        DUE.is("one more byte", y.feed('0', 1), Due.FULL);
        DUE.is("text()", y.text(), 8);
    }

    /** Each NUMBER of a TEXT: the least and the greatest that stand there, and one beyond. */
    private static void endsOfNumbers() {
        for (String right : new String[] {
            "from 0 to 2 pick 0", "from 2 to 0 pick 11 if at 0 0 0", "from 0 to 1 pick 0 guard 1", "from 0 to 1 pick 0 guard 2",
            "from 0 to 1 pick 0 tail 1", "from 0 to 1 pick 0 tail 2", "from 0 to 1 pick 0 roll 1", "from 0 to 1 pick 0 roll 2",
            "from 1 to 0 pick 1 swap 0", "from 1 to 2 pick 1 swap 2", "from 2 to 0 pick 11 swap 9", "from 2 to 1 pick 11 swap 10",
            "from 0 to 2 pick 9 swap 11", "from 1 to 0 pick 1 choice 0 1", "from 1 to 2 pick 1 choice 2 2",
            "from 0 to 1 pick 0 if ahead 0 0 1", "from 0 to 1 pick 0 if ahead 3 2 0", "from 0 to 1 pick 0 if ahead 3 0 2",
            "from 0 to 1 pick 0 if at 0 0 0", "from 0 to 1 pick 0 if at 3 2 2"}) {
            reads(right, 1);
        }
        for (String wrong : new String[] {
            "from |3 to 2 pick 0", "from 0 to |3 pick 0", "from 2 to |2 pick 2", "from 0 to 1 pick |12", "from 0 to 1 pick 0 guard |0",
            "from 0 to 1 pick 0 guard |3", "from 0 to 1 pick 0 tail |0", "from 0 to 1 pick 0 tail |3", "from 0 to 1 pick 0 roll |0",
            "from 0 to 1 pick 0 roll |3", "from 0 to 1 pick 3 swap |2", "from 0 to 1 pick 3 swap |3", "from 0 to 1 pick 3 swap |6",
            "from 0 to 1 pick 5 swap |2", "from 0 to 1 pick 5 swap |6", "from 0 to 1 pick 11 swap |12", "from 0 to 1 pick 11 swap |8",
            "from 0 to 1 pick 3 choice |2 1", "from 0 to 1 pick 3 choice |3 1", "from 0 to 1 pick 3 choice |6 1",
            "from 0 to 1 pick 3 choice 4 |0", "from 0 to 1 pick 3 choice 4 |3", "from 0 to 1 pick 0 if ahead |4 0 1",
            "from 0 to 1 pick 0 if ahead 0 |3 1", "from 0 to 1 pick 0 if ahead 0 0 |3", "from 0 to 1 pick 0 if ahead 0 2 |2",
            "from 0 to 1 pick 0 if at |4 0 0", "from 0 to 1 pick 0 if at 0 |3 0", "from 0 to 1 pick 0 if at 0 0 |3"}) {
            reads(wrong, 0);
        }
    }

    /** 99 at most: what is more is a NUMBER that isn't as told, however many digits it has. */
    private static void greatNumbers() {
        for (String v : new String[] {"99", "100", "256", "65536", "4294967296", "18446744073709551616", "9".repeat(60)}) {
            reads("from |" + v + " to 1 pick 0", 0);
            reads("from 0 to |" + v + " pick 0", 0);
            reads("from 0 to 1 pick |" + v, 0);
            reads("from 0 to 1 pick 0 guard |" + v, 0);
            reads("from 0 to 1 pick 0 swap |" + v, 0);
            reads("from 0 to 1 pick 0 if at |" + v, 0);
        }
        reads("from 0 to 1 pick 0; from 1 to 2 pick 1 if lapsed |4294967296", 0);
    }

    /** A PICK, not of a FALLEN YEAR. CONDITIONS may tell of YEARS that have FALLEN. */
    private static void picksOfFallenYears() {
        for (int falls = 0; falls <= 4; falls++) {
            RolledPicks x = new RolledPicks();
            for (int year = 0; year < falls; year++) {
                x.fall(0);
            }
            for (int pick = 0; pick < 3 * falls; pick++) {
                reads(x, "from 0 to 1 pick |" + pick, 0);
            }
            reads(x, "from 0 to 1 pick |12", 0);
            if (falls < 4) {
                reads(x, "from 0 to 1 pick " + 3 * falls + " if at 0 0 0", 1);
                reads(x, "from 2 to 1 pick 11 swap 10 if ahead 0 0 1", 1);
            }
        }
    }

    /** lapsed and a DEAL that there is by then: of the ledger, or ahead of it in the TEXT. */
    private static void dealsThereByThen() {
        RolledPicks x = new RolledPicks();
        reads(x, "from 0 to 1 pick 0 if lapsed |0", 0);
        reads(x, "from 0 to 1 pick 0; from 1 to 2 pick 1 if lapsed |1", 0);
        reads(x, "from 0 to 1 pick 0; from 1 to 2 pick 1 if lapsed 0", 2);
        reads(x, "from 2 to 0 pick 2 if lapsed |2", 0);
        reads(x, "from 2 to 0 pick 2 if lapsed 1 and lapsed 0", 1);
        reads(x, "from 0 to 1 pick 3; from 1 to 2 pick 4 if lapsed 3; from 2 to 0 pick 5 if lapsed |5", 0);
        reads(x, "from 0 to 1 pick 3; from 1 to 2 pick 4 if lapsed |4; from 2 to 0 pick 5", 0);
        reads(x, "from 0 to 1 pick 3; from 1 to 2 pick 4 if lapsed 3; from 2 to 0 pick 5 if lapsed 4", 3);
        int[] conveying = {1296, 0, 0, 1296, 0, 1296};
        for (int k = 0; k < 6; k++) {
            DUE.is("of(" + k + ", 7)", x.of(k, 7), conveying[k]);
        }
        x.drop();
        reads(x, "from 2 to 0 pick 5 if lapsed |5", 0);
        reads(x, "from 2 to 0 pick 5 if not lapsed 4", 1);
        DUE.is("of(5, 7)", x.of(5, 7), 0);
    }

    /** A ( or a not within 6 others can't stand; those that have ended are no longer around it. */
    private static void nestedAtTheEdge() {
        String start = "from 0 to 1 pick 0 if ";
        for (int mix = 0; mix < 64; mix++) {
            StringBuilder open = new StringBuilder();
            StringBuilder close = new StringBuilder();
            for (int i = 0; i < 6; i++) {
                boolean not = (mix >> i & 1) != 0;
                open.append(not ? "not " : "(");
                close.append(not ? "" : ")");
            }
            reads(start + open + "at 0 0 0" + close, 1);
            reads(start + open + "|(at 0 0 0)" + close, 0);
            reads(start + open + "|not at 0 0 0" + close, 0);
            RolledPicks x = new RolledPicks();
            reads(x, start + open + "at 0 0 0" + close, 1);
            DUE.is("of(0, 7)", x.of(0, 7), Integer.bitCount(mix) % 2 == 0 ? 432 : 864);
        }
        reads(start + "((((((at 0 0 0)))))) and ((((((at 1 0 0))))))", 1);
        reads(start + "((((((at 0 0 0)))))) or (((((( |(at 1 0 0)))))))", 0);
        reads(start + "(((((at 0 0 0 and (at 0 1 1) and not at 1 0 0)))))", 1);
        reads(start + "((((((at 0 0 0 and |(at 0 1 1)))))))", 0);
        reads(start + "((((((at 0 0 0 or |not at 0 1 1))))))", 0);
        reads(start + "not not not not not not at 0 0 0 or not not at 1 0 0", 1);
        reads(start + "((((((|)", 0);
        reads(start + "((((((|", 0);
        reads(start + "not not not not not not |", 0);
    }

    /** Of several TOKENS that can't stand the first one. */
    private static void firstFault() {
        reads("|frm 3 tu 1 pick 99", 0);
        reads("from |3 tu 3 pick 99", 0);
        reads("from 0 |tu 3 pick 99", 0);
        reads("from 0 to |0 pik 99", 0);
        reads("from 0 to 1 |pik 99", 0);
        reads("from 0 to 1 pick |99 gurd 3", 0);
        reads("from 0 to 1 pick 0 |gurd 3", 0);
        reads("from 0 to 1 pick 0 guard |3 iff", 0);
        reads("from 0 to 1 pick 0 guard 1 |iff (", 0);
        reads("from 0 to 1 pick 0 if |) ?", 0);
        reads("from 0 to 1 pick 0 if (at 0 0 0 |? )", 0);
        reads("from 0 to 1 pick 0 if at 0 0 0 |, from 3", 0);
        reads("from 0 to 1 pick 0; from |3 to 3 pick 99; frm", 0);
        reads("from 0 to 1 pick |\u0000", 0);
        reads("from 0 to 1 pick |\u00ff", 0);
        reads("from 0 to 1 pick 0 |\u00a0", 0);
        reads("from 0 to 1 pick 0 |\t", 0);
        reads("from 0 to 1 pick 0 |/ 1", 0);
        reads("from 0 to 1 pick 0 |: 1", 0);
        reads("from 0 to 1 pick 0 |` 1", 0);
        reads("from 0 to 1 pick 0 |{ 1", 0);
        reads("from 0 to 1 pick 0 |Guard 1", 0);
    }

    private static void wordsAsLongAsCanBe() {
        reads("|fro", 0);
        reads("|froma", 0);
        reads("from0|t", 0);
        reads("from0|too1pick0", 0);
        reads("from0to1|pic", 0);
        reads("from0to1|picks0", 0);
        reads("from0to1pick10swap9 |9", 0);
        reads("from0to1pick0|a", 0);
        reads("from0to1pick0|guards1", 0);
        reads("from0to1pick0|ifat0 0 0", 0);
        reads("from0to1pick0|ifnot at0 0 0", 0);
        reads("from0to1pick0if |notat0 0 0", 0);
        reads("from0to1pick0if |notnot at0 0 0", 0);
        reads("from0to1pick0if at0 0|", 0);
        reads("from0to1pick0if at00 |", 0);
        reads("from0to1pick0if at0 0 0|andat0 0 0", 0);
        reads("from0to1pick0if(((at0 0 0)))", 1);
        reads("from0to1pick0if not(at0 0 0);from0to1pick3", 2);
    }

    /** DEALS, at most 12: the FAULT is the WORD from of a 13th, whatever comes behind it. */
    private static void twelveDeals() {
        for (int there = 0; there <= 12; there++) {
            RolledPicks x = new RolledPicks();
            for (int k = 0; k < there; k++) {
                // a DEAL that LAPSES under all STANDINGS: it takes up a number alone
                Due.text(x, "from 0 to 1 pick 6 if at 0 0 0 and at 0 0 1");
            }
            DUE.is("count(0)", x.count(0), there);
            int more = Math.min(8, 12 - there);
            int fault = 14 * more;
            isText(x, EIGHT, there <= 4 ? 8 : -1 - fault);
            DUE.is("count(0)", x.count(0), there <= 4 ? there + 8 : there);
            DUE.is("status(-1)", x.status(-1), 0);
        }
        RolledPicks x = new RolledPicks();
        for (int pick = 0; pick < 12; pick++) {
            x.sale(0, pick % 3, (pick + 1) % 3, pick, 0);
        }
        reads(x, "|", 0);
        reads(x, "  |", 0);
        reads(x, "|from", 0);
        reads(x, " |to", 0);
        reads(x, "|from 9", 0);
        x.drop();
        reads(x, "from 2 to 0 pick 11; |from 9", 0);
        reads(x, "from 2 to 0 pick 11; |", 0);
        reads(x, "from 2 to 0 pick |12; from 9", 0);
        reads(x, "from 2 to 0 pick 11 if lapsed |11", 0);
        reads(x, "from 2 to 0 pick 11 if lapsed 10", 1);
        DUE.is("of(11, 7)", x.of(11, 7), 0);
    }

    private static String without(String text, int item, String put) {
        String[] items = text.split(";");
        items[item] = put;
        return String.join(";", items);
    }

    /** STATE: one DEAL of eight is refused, the first, one between, the last; none comes. */
    private static void refusedAtEachPlace() {
        for (int item = 0; item < 8; item++) {
            RolledPicks x = new RolledPicks();
            x.sale(0, 2, 0, 11, 0);
            x.sale(0, 1, 0, 10, 0);
            x.hold(0, 1);
            String text = without(EIGHT, item, "from2to1pick11");
            isText(x, text, Due.STATE);
            DUE.is("clash(0)", x.clash(0), 0);
            DUE.is("clash(1)", x.clash(1), 11);
            DUE.is("clash(2)", x.clash(2), 0);
            DUE.is("count(0)", x.count(0), 2);
            DUE.is("count(5)", x.count(5), 0);
            DUE.is("status(4)", x.status(4), 1);
            DUE.is("status(-1)", x.status(-1), 1);
            DUE.is("of(2, 0)", x.of(2, 0), Due.BEYOND);
            DUE.is("taken(0, 0)", x.taken(0, 0), 1);
            for (int pick = 0; pick < 10; pick++) {
                DUE.is("sure(" + pick + ")", x.sure(pick), pick % 3);
            }
            DUE.is("sure(11)", x.sure(11), 0);
            DUE.is("drop()", x.drop(), 1);
            DUE.is("text() without it", Due.text(x, EIGHT), 8);
            DUE.is("sure(0)", x.sure(0), 1);
        }
    }

    /** A DEAL that CLASHES with one ahead of it in the same TEXT, and with none of the ledger. */
    private static void refusedAmongOwn() {
        RolledPicks x = new RolledPicks();
        isText(x, "from 0 to 1 pick 3; from 0 to 2 pick 3", Due.STATE);
        isClash(x, 0, 3, 0);
        isText(x, "from 0 to 1 pick 3; from 1 to 0 pick 3", Due.STATE);
        isClash(x, 0, 3, 1);
        isText(x, "from 0 to 1 pick 3; from 2 to 0 pick 3", Due.STATE);
        isClash(x, 0, 3, 2);
        isText(x, "from 1 to 2 pick 3; from 0 to 1 pick 3", Due.STATE);
        isClash(x, 0, 3, 2);
        DUE.is("sure(3)", x.sure(3), 0);
        isText(x, "from 0 to 1 pick 3; from 1 to 2 pick 3", 2);
        isClash(x, 0, 3, 2);
        isText(x, Texts.deal(2, 1, 11, 1295), 1);
        isText(x, "from 2 to 0 pick 11", Due.STATE);
        isClash(x, 1295, 11, 0);
        isText(x, "from 0 to 1 pick 6 if lapsed 2; from 0 to 2 pick 6 if not lapsed 2; from 1 to 2 pick 6 guard 2", Due.STATE);
        isClash(x, 1295, 6, 2);
        DUE.is("count(0)", x.count(0), 3);
        DUE.is("status(4)", x.status(4), 6);
    }

    private static void isClash(RolledPicks x, int standing, int pick, int sort) {
        DUE.is("clash(0)", x.clash(0), standing);
        DUE.is("clash(1)", x.clash(1), pick);
        DUE.is("clash(2)", x.clash(2), sort);
    }

    /** DEALS come one by one: of two that CLASH the first is told, though the second is of a lesser STANDING. */
    private static void refusedTellsTheFirst() {
        RolledPicks x = new RolledPicks();
        x.sale(0, 0, 1, 0, 0);
        x.sale(0, 0, 1, 9, 0);
        isText(x, "from 0 to 2 pick 9 guard 2; from 0 to 2 pick 0", Due.STATE);
        isClash(x, 3, 9, 0);
        isText(x, "from 0 to 2 pick 0; from 0 to 2 pick 9 guard 2", Due.STATE);
        isClash(x, 0, 0, 0);
        x.fall(3);
        isText(x, "from 1 to 2 pick 3; from 1 to 2 pick 4", Due.STATE);
        isClash(x, 648, 3, 2);
        isText(x, "from 1 to 2 pick 4; from 0 to 2 pick 9 tail 1 if at 3 1 2", Due.STATE);
        isClash(x, 649, 9, 0);
    }

    /** A FAULT is told ahead of a CLASH, and is no finding. */
    private static void faultAheadOfClash() {
        RolledPicks x = new RolledPicks();
        x.sale(0, 0, 1, 9, 0);
        reads(x, "from 0 to 2 pick 9;|", 0);
        reads(x, "from 0 to 2 pick 9; |to", 0);
        reads(x, "from 0 to 2 pick 9 if at 0 0 |3", 0);
        reads(x, "from 0 to 2 pick 9 |9", 0);
        DUE.is("clash(0)", x.clash(0), -1);
        DUE.is("status(-1)", x.status(-1), 0);
        isText(x, "from 0 to 2 pick 9", Due.STATE);
        isClash(x, 0, 9, 0);
    }

    private static void tapeIsEmptyThen() {
        RolledPicks x = new RolledPicks();
        String[] texts = {"from 0 to 1 pick 0", "from 0 to 2 pick 0", "from 0 to 0", ""};
        int[] due = {1, Due.STATE, -11, -1};
        for (int i = 0; i < texts.length; i++) {
            isText(x, texts[i], due[i]);
            DUE.is("count(5)", x.count(5), 0);
            DUE.is("wipe()", x.wipe(), 0);
            DUE.is("text() again", x.text(), -1);
            DUE.is("feed", x.feed('f', 1), 1);
            DUE.is("wipe()", x.wipe(), 1);
        }
    }

    /** lapsed tells of that DEAL, also if it has another number, or is no more. */
    private static void lapsedOfWhatIsNoMore() {
        RolledPicks x = new RolledPicks();
        x.sale(1, 1, 0, 1, 2);
        x.sale(1, 0, 1, 3, 2);
        isText(x, "from 2 to 1 pick 8 if lapsed 1", 1);
        x.hold(0, 1);
        x.image();
        x.fall(0);
        DUE.is("prune() of what is ahead", x.prune(), 1);
        DUE.is("another number", x.taken(0, 1), 0);
        DUE.is("of(1, 7)", x.of(1, 7), 144);
        x.fall(0);
        DUE.is("prune() of it", x.prune(), 1);
        DUE.is("no more", x.taken(0, 1), -1);
        DUE.is("of(0, 7)", x.of(0, 7), 36);
        DUE.is("holds(0, 0)", x.holds(0, 0), 1);
        DUE.is("holds(0, 108)", x.holds(0, 108), 0);
        isText(x, "from 0 to 1 pick 6 if lapsed 0", 1);
        DUE.is("a DEAL of its former number", x.of(1, 7), 0);
        DUE.is("back()", x.back(), 3);
        DUE.is("of(2, 7)", x.of(2, 7), 864);
        x.drop();
        x.drop();
        reads(x, "from 0 to 1 pick 6 if lapsed |1", 0);
    }

    /** ahead and at of each YEAR, each CLUB, each place, under each ORDER of that YEAR. */
    private static void conditionsUnderEachOrder() {
        int[] step = {216, 36, 6, 1};
        for (int year = 0; year < 4; year++) {
            for (int a = 0; a < 3; a++) {
                for (int b = 0; b < 3; b++) {
                    RolledPicks x = new RolledPicks();
                    reads(x, "from 0 to 1 pick 9 if at " + year + " " + a + " " + b, 1);
                    DUE.is("of(0, 7)", x.of(0, 7), 432);
                    String marked = a == b ? "|" + b : "" + b;
                    reads(x, "from 1 to 2 pick 10 if ahead " + year + " " + a + " " + marked, 1);
                    DUE.is("of(1, 7)", x.of(1, 7), a == b ? Due.BEYOND : 648);
                    DUE.is("of(0, 6)", x.of(0, 6), 1);
                    for (int order = 0; order < 6; order++) {
                        int s = order * step[year];
                        int place = x.place(s, 3 * year + a);
                        int rival = x.place(s, 3 * year + b);
                        DUE.is("at, ORDER " + order, x.holds(0, s), place == b ? 1 : 0);
                        DUE.is("ahead, ORDER " + order, x.holds(1, s), a == b ? Due.BEYOND : place < rival ? 1 : 0);
                    }
                }
            }
        }
    }

    /** Nothing of one TEXT's CONDITION comes to that of the next, nor of one ITEM's. */
    private static void oneConditionAfterAnother() {
        RolledPicks x = new RolledPicks();
        reads(x, "from 0 to 1 pick 9 if at 0 0 0 or at 0 0 1 or at 0 0 2", 1);
        DUE.is("all", x.of(0, 7), 1296);
        reads(x, "from 1 to 2 pick 10 if at 0 0 0 and at 0 0 1", 1);
        DUE.is("none", x.of(1, 7), 0);
        reads(x, "from 2 to 0 pick 11 if at 0 0 0; from 0 to 1 pick 6 if not at 0 0 0; from 1 to 2 pick 7 if (at 0 0 2)", 3);
        DUE.is("a third", x.of(2, 7), 432);
        DUE.is("two thirds", x.of(3, 7), 864);
        DUE.is("a third", x.of(4, 7), 432);
        reads(x, "from 2 to 0 pick 8 if at 0 0 0 or at 0 0 |", 0);
        reads(x, "from 2 to 0 pick 8", 1);
        DUE.is("none told", x.of(5, 6), 0);
        DUE.is("all", x.of(5, 7), 1296);
    }
}
