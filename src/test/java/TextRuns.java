/** Promise 9, with what the terms tell of TEXTS, TOKENS, FAULTS and CONDITIONS. */
public final class TextRuns {
    private static final Due DUE = new Due();

    public static void main(String[] args) {
        items();
        tokens();
        faults();
        numbersThatAreNot();
        endsTooEarly();
        nesting();
        conditions();
        leftOvers();
        deepConditions();
        binding();
        lapsed();
        lapsedOutlives();
        refused();
        thirteenth();
        fallenYears();
        DUE.end();
    }

    private static void isText(String text, int due) {
        DUE.is("text() of \"" + text + "\"", Due.text(new RolledPicks(), text), due);
    }

    /** A good text but for the TOKEN behind the mark |. */
    private static void isFault(String marked) {
        int at = marked.indexOf('|');
        String text = marked.substring(0, at) + marked.substring(at + 1);
        RolledPicks x = new RolledPicks();
        DUE.is("text() of \"" + marked + "\"", Due.text(x, text), -1 - at);
        DUE.is("then count(0)", x.count(0), 0);
        DUE.is("then count(5)", x.count(5), 0);
        DUE.is("then status(-1)", x.status(-1), 0);
        DUE.is("then clash(0)", x.clash(0), -1);
    }

    private static void items() {
        RolledPicks x = new RolledPicks();
        DUE.is("text()", Due.text(x, "from 0 to 1 pick 0; from 1 to 2 pick 1 guard 2; from 0 to 2 pick 3 tail 1;"
            + "from 1 to 0 pick 4 roll 2"), 4);
        int[][] due = {
            {0, 0, 1, 0, -1, 0, 0}, {1, 1, 2, 1, -1, 2, 0}, {4, 0, 2, 3, -1, 1, 0}, {3, 1, 0, 4, -1, 2, 0},
        };
        for (int k = 0; k < due.length; k++) {
            for (int what = 0; what < 7; what++) {
                DUE.is("of(" + k + ", " + what + ")", x.of(k, what), due[k][what]);
            }
        }
        RolledPicks y = new RolledPicks();
        DUE.is("text()", Due.text(y, "from 2 to 0 pick 5 swap 3 if at 3 0 0 ; from 0 to 1 pick 6 choice 7 2"), 2);
        int[][] more = {{2, 2, 0, 5, 3, 0, 1}, {5, 0, 1, 6, 7, 2, 0}};
        for (int k = 0; k < more.length; k++) {
            for (int what = 0; what < 7; what++) {
                DUE.is("of(" + k + ", " + what + ")", y.of(k, what), more[k][what]);
            }
        }
        DUE.is("of(0, 7)", y.of(0, 7), 216);
        DUE.is("of(1, 7)", y.of(1, 7), 216);
    }

    private static void tokens() {
        isText("from0to1pick2 0", -15);
        isText("from0to1pick0", 1);
        isText("from0to1pick0guard1if(at0 0 0)or(at1 0 0);from1to2pick1", 2);
        isText("   from   0  to 1 pick 0   ", 1);
        isText("from 02 to 01 pick 011 guard 002", 1);
        isText("from 00 to 01 pick 009 guard 002", 1);
        isText("from 0 to 1 pick 000000000000000000000000000000000000", 1);
        isText("", -1);
        isText("   ", -4);
        isFault("|\tfrom 0 to 1 pick 0");
        isFault("from 0 |\nto 1 pick 0");
        isFault("|From 0 to 1 pick 0");
        isFault("|fro 0 to 1 pick 0");
        isFault("|frommm 0 to 1 pick 0");
        isFault("|fromto 0");
        isFault("|fromz 0 to 1 pick 0");
        isFault("|afrom 0 to 1 pick 0");
        isFault("from 0 |tto 1 pick 0");
        isFault("from 0 to 1 pick 0|\u0000");
        isFault("from 0 to 1 pick 0|\u00e9");
        isFault("from 0 to 1 pick 0 |ifat 0 0 0");
        isFault("from 0 to 1 pick 0|,");
        isFault("from 0 to 1 pick |-1");
    }

    private static void faults() {
        isFault("|0");
        isFault("|;");
        isFault("|to 1");
        isFault("from |to 0");
        isFault("from 0 |1");
        isFault("from 0 |from");
        isFault("from 0 to |pick");
        isFault("from 0 to 1 |guard");
        isFault("from 0 to 1 pick |guard");
        isFault("from 0 to 1 pick 0 |0");
        isFault("from 0 to 1 pick 0 guard |if");
        isFault("from 0 to 1 pick 0 guard 1 |tail 1");
        isFault("from 0 to 1 pick 0 guard 1 |2");
        isFault("from 0 to 1 pick 0 swap 1 |2");
        isFault("from 0 to 1 pick 0 choice 1 |if at 0 0 0");
        isFault("from 0 to 1 pick 0 |from 1 to 2 pick 1");
        isFault("from 0 to 1 pick 0; |; from 1 to 2 pick 1");
        isFault("from 0 to 1 pick 0 if |if at 0 0 0");
        isFault("from 0 to 1 pick 0 if at 0 0 0 |at 0 0 0");
        isFault("from 0 to 1 pick 0 if at 0 0 0 |if at 0 0 0");
        isFault("from 0 to 1 pick 0 if at 0 0 0 |guard 1");
        isFault("from 0 to 1 pick 0 if at 0 0 0 |)");
        isFault("from 0 to 1 pick 0 if at 0 0 0 or |or at 0 0 0");
        isFault("from 0 to 1 pick 0 if at 0 0 0 and |; from 1 to 2 pick 1");
        isFault("from 0 to 1 pick 0 if |and at 0 0 0");
        isFault("from 0 to 1 pick 0 if (|)");
        isFault("from 0 to 1 pick 0 if (at 0 0 0|; from 1 to 2 pick 1");
        isFault("from 0 to 1 pick 0 if not |or");
        isFault("from 0 to 1 pick 0 if ahead |at");
        isFault("from 0 to 1 pick 0 if at 0 0 0 |not at 0 0 1");
        isFault("from 0 to 1 pick 0 if at 0 0 0 |(at 0 0 1)");
    }

    private static void numbersThatAreNot() {
        isFault("from |3 to 1 pick 0");
        isFault("from |100 to 1 pick 0");
        isFault("from |4294967296 to 1 pick 0");
        isFault("from |18446744073709551616 to 1 pick 0");
        isFault("from 0 to |0 pick 0");
        isFault("from 0 to |3 pick 0");
        isFault("from 0 to 1 pick |12");
        isFault("from 0 to 1 pick |112");
        isFault("from 0 to 1 pick 0 guard |0");
        isFault("from 0 to 1 pick 0 guard |3");
        isFault("from 0 to 1 pick 0 tail |0");
        isFault("from 0 to 1 pick 0 tail |3");
        isFault("from 0 to 1 pick 0 roll |0");
        isFault("from 0 to 1 pick 0 roll |3");
        isFault("from 0 to 1 pick 4 swap |4");
        isFault("from 0 to 1 pick 4 swap |2");
        isFault("from 0 to 1 pick 4 swap |6");
        isFault("from 0 to 1 pick 4 swap |if at 0 0 0");
        isFault("from 0 to 1 pick 4 swap |; from 0 to 1 pick 3");
        isFault("from 0 to 1 pick 1 choice |1 1");
        isText("from 1 to 0 pick 1 choice 0 2", 1);
        isText("from 1 to 0 pick 1 swap 0", 1);
        isFault("from 0 to 1 pick 4 choice |4 1");
        isFault("from 0 to 1 pick 4 choice |6 1");
        isFault("from 0 to 1 pick 4 choice 3 |0");
        isFault("from 0 to 1 pick 4 choice 3 |3");
        isFault("from 0 to 1 pick 4 if ahead |4 0 1");
        isFault("from 0 to 1 pick 4 if ahead 0 |3 1");
        isFault("from 0 to 1 pick 4 if ahead 0 0 |3");
        isFault("from 0 to 1 pick 4 if ahead 0 1 |1");
        isFault("from 0 to 1 pick 4 if at |4 0 0");
        isFault("from 0 to 1 pick 4 if at 0 |3 0");
        isFault("from 0 to 1 pick 4 if at 0 0 |3");
        isFault("from 0 to 1 pick 4 if lapsed |0");
        isFault("from 0 to 1 pick 0; from 0 to 1 pick 4 if lapsed |1");
        isFault("from 0 to 1 pick 0; from 0 to 1 pick 4 if lapsed 0 and lapsed |99");
    }

    private static void endsTooEarly() {
        String whole = "from 2 to 1 pick 5 choice 4 2 if not ( ahead 0 1 2 or at 3 2 1 and lapsed 0 ) ; from 0 to 1 pick 9";
        for (int i = 0; i < whole.length(); i++) {
            if (whole.charAt(i) != ' ') {
                continue;
            }
            String part = whole.substring(0, i + 1);
            boolean stands = part.endsWith("5 ") || part.endsWith("choice 4 2 ") || part.endsWith(") ");
            RolledPicks x = new RolledPicks();
            x.sale(0, 0, 2, 0, 0);
            DUE.is("text() of \"" + part + "\"", Due.text(x, part), stands ? 1 : -1 - part.length());
        }
        String start = "from 0 to 1 pick 1 ";
        String[] ends = {"swap", "choice", "choice 0", "guard", "tail", "roll", "if", "if not", "if (", "if at 0 0 0 or",
            "if at 0 0 0 and", "if ahead", "if ahead 0", "if ahead 0 0", "if at", "if at 0", "if at 0 0", "if (at 0 0 0"};
        for (String end : ends) {
            isText(start + end, -1 - start.length() - end.length());
        }
        RolledPicks x = new RolledPicks();
        x.sale(0, 1, 0, 1, 0);
        DUE.is("text()", Due.text(x, start + "if lapsed"), -1 - start.length() - 9);
        isText("from 0 to 1 pick 0;", -20);
        isText("from 0 to 1 pick 0; ", -21);
    }

    private static void nesting() {
        isText("from 0 to 1 pick 0 if ((((((at 0 0 0))))))", 1);
        isFault("from 0 to 1 pick 0 if ((((((|(at 0 0 0)))))))");
        isText("from 0 to 1 pick 0 if not not not not not not at 0 0 0", 1);
        isFault("from 0 to 1 pick 0 if not not not not not not |not at 0 0 0");
        isText("from 0 to 1 pick 0 if not (not (not (at 0 0 0)))", 1);
        isFault("from 0 to 1 pick 0 if not (not (not (|not at 0 0 0)))");
        isFault("from 0 to 1 pick 0 if not (not (not (at 0 0 0 or |(at 0 0 1))))");
        isText("from 0 to 1 pick 0 if (at 0 0 0) or not (at 0 0 0) and ((((((at 0 0 0)))))) or not at 0 0 1", 1);
        isText("from 0 to 1 pick 0 if not not not not not not at 0 0 0 and not not not not not not at 0 0 0", 1);
        RolledPicks x = new RolledPicks();
        Due.text(x, "from 0 to 1 pick 0 if not not not not not at 0 0 0");
        DUE.is("five nots", x.of(0, 7), 864);
        x.drop();
        Due.text(x, "from 0 to 1 pick 0 if not not not not not not at 0 0 0");
        DUE.is("six nots", x.of(0, 7), 432);
    }

    private static int conveying(String condition) {
        RolledPicks x = new RolledPicks();
        DUE.is("text() if " + condition, Due.text(x, "from 0 to 1 pick 0 if " + condition), 1);
        return x.of(0, 7);
    }

    private static void conditions() {
        RolledPicks x = new RolledPicks();
        Due.text(x, "from 0 to 1 pick 0 if ahead 1 2 0; from 1 to 0 pick 4 if at 2 1 2");
        for (int s = 0; s < 1296; s += 53) {
            DUE.is("ahead under " + s, x.holds(0, s), x.place(s, 5) < x.place(s, 3) ? 1 : 0);
            DUE.is("at under " + s, x.holds(1, s), x.place(s, 7) == 2 ? 1 : 0);
        }
        DUE.is("ahead", conveying("ahead 3 0 2"), 648);
        DUE.is("at", conveying("at 0 1 2"), 432);
        DUE.is("never", conveying("at 0 1 2 and at 0 2 2"), 0);
        DUE.is("always", conveying("at 0 1 2 or not at 0 1 2"), 1296);
    }

    /** What stood on THE TAPE ahead is not read again. */
    private static void leftOvers() {
        RolledPicks x = new RolledPicks();
        Due.feed(x, "from 1 to 0 pick 10 if at 0 0 0");
        x.wipe();
        DUE.is("text()", Due.text(x, "from 1 to 0 pick 1"), 1);
        DUE.is("of(0, 3)", x.of(0, 3), 1);
        DUE.is("of(0, 6)", x.of(0, 6), 0);
        Due.feed(x, "from 1 to 0 pick 10 if at 0 0 0");
        x.wipe();
        DUE.is("text()", Due.text(x, "from 1 to 0 pick "), -18);
        Due.feed(x, "from 1 to 0 pick 10 if at 0 0 0");
        x.wipe();
        DUE.is("text()", Due.text(x, "fro"), -1);
        Due.feed(x, "from 1 to 0 pick 10 if at 0 0 0");
        x.wipe();
        DUE.is("text()", x.text(), -1);
        StringBuilder b = new StringBuilder("from 1 to 0 pick 10");
        while (b.length() < 119) {
            b.append(' ');
        }
        DUE.is("text() of 120 bytes", Due.text(x, b + ";"), -121);
        DUE.is("text() of 120 bytes", Due.text(x, b + " "), 1);
    }

    /** E of at least two parts at two depths one in the other, with parts of and in it. */
    private static void deepConditions() {
        for (int around = 0; around < 5; around++) {
            String open = "(((((".substring(0, around);
            String close = ")))))".substring(0, around);
            RolledPicks x = new RolledPicks();
            String text = "from0to1pick0if " + open + "at3 0 0or at0 0 0and(at1 0 0or at2 0 0and(at3 0 1or at0 1 1)or at1 0 1)and at2 1 2" + close;
            DUE.is("text() of \"" + text + "\"", Due.text(x, text), 1);
            Model at = new Model();
            for (int s = 0; s < 1296; s += 3 + around) {
                boolean inner = at.place(s, 9) == 1 || at.place(s, 1) == 1;
                boolean middle = at.place(s, 3) == 0 || at.place(s, 6) == 0 && inner || at.place(s, 3) == 1;
                boolean outer = at.place(s, 9) == 0 || at.place(s, 0) == 0 && middle && at.place(s, 7) == 2;
                DUE.is("holds(0, " + s + ") within " + around, x.holds(0, s), outer ? 1 : 0);
            }
        }
    }

    /** Single facts here hold under a third of all, each in a YEAR of its own. */
    private static void binding() {
        DUE.is("or", conveying("at 0 0 0 or at 1 0 0"), 720);
        DUE.is("and", conveying("at 0 0 0 and at 1 0 0"), 144);
        DUE.is("and binds more", conveying("at 0 0 0 or at 1 0 0 and at 2 0 0"), 1296 * 11 / 27);
        DUE.is("and binds more", conveying("at 1 0 0 and at 2 0 0 or at 0 0 0"), 1296 * 11 / 27);
        DUE.is("( )", conveying("(at 0 0 0 or at 1 0 0) and at 2 0 0"), 1296 * 5 / 27);
        DUE.is("( )", conveying("at 2 0 0 and (at 0 0 0 or at 1 0 0)"), 1296 * 5 / 27);
        DUE.is("not binds most", conveying("not at 0 0 0 and at 1 0 0"), 288);
        DUE.is("not binds most", conveying("not at 0 0 0 or at 1 0 0"), 1296 * 7 / 9);
        DUE.is("not ( )", conveying("not (at 0 0 0 or at 1 0 0)"), 576);
        DUE.is("or of three", conveying("at 0 0 0 or at 1 0 0 or at 2 0 0"), 1296 * 19 / 27);
        DUE.is("and of three", conveying("at 0 0 0 and at 1 0 0 and at 2 0 0"), 48);
        DUE.is("one ( ) after another", conveying("(at 0 0 0) and (at 1 0 0) and (at 2 0 0)"), 48);
        DUE.is("one ( ) after another", conveying("(at 0 0 0) and at 1 0 0 or (at 0 0 1) and (at 1 0 1)"), 288);
        RolledPicks x = new RolledPicks();
        Due.text(x, "from 0 to 1 pick 0 if (at 0 0 0 and (at 1 0 0))");
        x.drop();
        DUE.is("text()", Due.text(x, "from 0 to 1 pick 0 if (at 0 0 1 and (at 1 0 1))"), 1);
        DUE.is("a ( ) of another TEXT leaves nothing behind", x.of(0, 7), 144);
        DUE.is("deep", conveying("(at 0 0 0 or (at 1 0 0 and (at 2 0 0 or at 3 0 0))) and not (at 0 0 1)"), 432 + 432 * 5 / 27);
    }

    private static void lapsed() {
        RolledPicks x = new RolledPicks();
        x.sale(1, 0, 1, 3, 2);
        DUE.is("text()", Due.text(x, "from 1 to 2 pick 7 if lapsed 0; from 2 to 1 pick 8 tail 1 if not lapsed 1 or lapsed 0"), 2);
        DUE.is("of(1, 7)", x.of(1, 7), 864);
        DUE.is("of(2, 7)", x.of(2, 7), 288);
        DUE.is("text()", Due.text(x, "from 0 to 2 pick 9 if lapsed 2"), 1);
        DUE.is("of(3, 7)", x.of(3, 7), 1008);
        DUE.is("holds(1, 0)", x.holds(1, 0), 1);
        DUE.is("holds(1, 1295)", x.holds(1, 1295), 0);
        DUE.is("holds(3, 1295)", x.holds(3, 1295), 1);
        DUE.is("holds(3, 24)", x.holds(3, 24), 0);
    }

    private static void lapsedOutlives() {
        RolledPicks x = new RolledPicks();
        x.sale(1, 2, 1, 2, 2);
        x.sale(1, 0, 1, 3, 2);
        Due.text(x, "from 1 to 2 pick 7 if lapsed 1");
        x.image();
        x.fall(4);
        DUE.is("prune()", x.prune(), 1);
        DUE.is("that DEAL has another number", x.of(1, 7), 144);
        DUE.is("holds(1, 0)", x.holds(1, 0), 1);
        x.back();
        x.fall(4);
        x.fall(0);
        DUE.is("prune()", x.prune(), 2);
        DUE.is("that DEAL is no more", x.holds(0, 0), 1);
        DUE.is("that DEAL is no more", x.holds(0, 3 * 36), 0);
        DUE.is("that DEAL is no more", x.holds(0, 1295), 0);
        DUE.is("of(0, 7)", x.of(0, 7), 36);
    }

    private static void refused() {
        RolledPicks x = new RolledPicks();
        x.sale(0, 0, 1, 0, 0);
        DUE.is("the first CLASHES", Due.text(x, "from 0 to 2 pick 0 guard 2; from 1 to 2 pick 1"), Due.STATE);
        DUE.is("clash(0)", x.clash(0), 3 * 216);
        DUE.is("clash(1)", x.clash(1), 0);
        DUE.is("clash(2)", x.clash(2), 0);
        DUE.is("count(0)", x.count(0), 1);
        DUE.is("count(5)", x.count(5), 0);
        DUE.is("one CLASHES with one of the TEXT", Due.text(x, "from 1 to 2 pick 1; from 2 to 0 pick 2; from 2 to 1 pick 1 guard 1"), Due.STATE);
        DUE.is("clash(0)", x.clash(0), 0);
        DUE.is("clash(1)", x.clash(1), 1);
        DUE.is("clash(2)", x.clash(2), 1);
        DUE.is("count(0)", x.count(0), 1);
        DUE.is("sure(1)", x.sure(1), 1);
        DUE.is("sure(2)", x.sure(2), 2);
        DUE.is("a FAULT tells no CLASH", Due.text(x, "from 0 to 2 pick 0; from"), -25);
        DUE.is("clash(1)", x.clash(1), 1);
        DUE.is("status(4)", x.status(4), 2);
        DUE.is("status(-1)", x.status(-1), 2);
        DUE.is("next number", x.sale(0, 1, 2, 1, 0), 1);
    }

    private static void thirteenth() {
        RolledPicks x = new RolledPicks();
        for (int pick = 0; pick < 10; pick++) {
            x.sale(0, pick % 3, (pick + 1) % 3, pick, 0);
        }
        DUE.is("a 13th", Due.text(x, "from 1 to 2 pick 10;from 2 to 0 pick 11; from 1 to 2 pick 0"), -42);
        DUE.is("count(0)", x.count(0), 10);
        DUE.is("a 13th with a fault", Due.text(x, "from 1 to 2 pick 10;from 2 to 0 pick 11; to"), -42);
        DUE.is("too early", Due.text(x, "from 1 to 2 pick 10;from 2 to 0 pick 11;"), -41);
        DUE.is("the 12th may tell of the 11th", Due.text(x, "from 1 to 2 pick 10;from 2 to 0 pick 11 if lapsed 10"), 2);
        DUE.is("count(0)", x.count(0), 12);
        DUE.is("of(11, 7)", x.of(11, 7), 0);
        DUE.is("a 13th", Due.text(x, "  from 0 to 1 pick 9"), -3);
        DUE.is("status(-1)", x.status(-1), 0);
        DUE.is("twelve at once", Due.text(new RolledPicks(),
            "from0to1pick0;from1to2pick1;from2to0pick2;from0to1pick3;from1to2pick4;from2to0pick5;from0to1pick6;from1to2pick7"), 8);
    }

    private static void fallenYears() {
        RolledPicks x = new RolledPicks();
        x.fall(3);
        DUE.is("a PICK of a FALLEN YEAR", Due.text(x, "from 2 to 0 pick 2"), -18);
        DUE.is("a PICK of the next", Due.text(x, "from 0 to 1 pick 3 if at 0 1 0"), 1);
        DUE.is("of(0, 7)", x.of(0, 7), 216);
        x.fall(0);
        x.fall(0);
        DUE.is("a PICK of a FALLEN YEAR", Due.text(x, "from 2 to 0 pick 8 if at 0 1 0"), -18);
        x.fall(0);
        DUE.is("the last PICK", Due.text(x, "from 2 to 0 pick 11"), -18);
        DUE.is("status(-1)", x.status(-1), 0);
    }
}
