/** Long runs of calls, each answered by the class and by the model, which must agree. */
public final class ModelRuns {
    private static final int CALLS = 512;
    private final Due due = new Due();
    private final Dice dice;
    private RolledPicks x;
    private Model m;
    private String run;
    private int calls;

    private ModelRuns(long seed) {
        dice = new Dice(seed);
    }

    public static void main(String[] args) {
        int first = args.length > 0 ? Integer.parseInt(args[0]) : 0;
        int end = args.length > 1 ? Integer.parseInt(args[1]) : 24;
        ModelRuns runs = new ModelRuns(20261119L + first);
        for (int i = first; i < end; i++) {
            runs.runOnce(i);
        }
        runs.due.end();
    }

    private void runOnce(int i) {
        x = new RolledPicks();
        m = new Model();
        run = "run " + i;
        int falls = i % 5;
        calls = 0;
        for (int k = 0; k < falls && i % 2 == 0; k++) {
            int order = dice.to(6);
            is("fall(" + order + ")", x.fall(order), m.fall(order));
        }
        // The longest step makes fewer than 60 calls.
        while (calls <= CALLS - 60) {
            step();
        }
    }

    private void is(String call, long got, long want) {
        calls++;
        due.is(run + ": " + call, got, want);
    }

    private void step() {
        int r = dice.to(100);
        if (r < 14) {
            makeSale();
        } else if (r < 20) {
            makeSwap();
        } else if (r < 25) {
            makeText();
        } else if (r < 40) {
            askDeals();
        } else if (r < 58) {
            askOwners();
        } else if (r < 66) {
            askWorth();
        } else if (r < 75) {
            askRounds();
        } else if (r < 88) {
            doSheets();
        } else {
            doPiles();
        }
    }

    private int standing() {
        int n = m.count(2);
        if (dice.to(12) == 0) {
            return dice.about(1295);
        }
        return firstOpen() + dice.to(n);
    }

    private int firstOpen() {
        int first = 0;
        int[] step = {216, 36, 6, 1};
        for (int y = 0; y < m.count(1); y++) {
            first += m.fallen(y) * step[y];
        }
        return first;
    }

    private void makeSale() {
        int kind = dice.to(20) == 0 ? dice.about(5) : dice.pick(new int[] {0, 1, 1, 3, 3, 4});
        int pick = freePick();
        int from = likelyFrom(pick);
        int to = dice.to(12) == 0 ? dice.about(2) : (from + 1 + dice.to(2)) % 3;
        int n = dice.to(10) == 0 ? dice.about(2) : 1 + dice.to(2);
        is("sale(" + kind + ", " + from + ", " + to + ", " + pick + ", " + n + ")",
            x.sale(kind, from, to, pick, n), m.sale(kind, from, to, pick, n));
        askClash();
    }

    /** A PICK, for the most part of a YEAR that hasn't FALLEN. */
    private int freePick() {
        int least = 3 * m.count(1);
        return dice.to(12) == 0 || least > 11 ? dice.about(11) : least + dice.to(12 - least);
    }

    /** A CLUB that may well have the PICK where a DEAL over it would come. */
    private int likelyFrom(int pick) {
        boolean asked = dice.to(4) != 0 && pick >= 0 && pick < 12;
        return asked ? m.owner(firstOpen() + dice.to(m.count(2)), pick) : dice.about(2);
    }

    private void makeSwap() {
        int pick = freePick();
        int from = likelyFrom(pick);
        int to = dice.to(12) == 0 ? dice.about(2) : (from + 1 + dice.to(2)) % 3;
        int other = dice.to(12) == 0 ? dice.about(11) : pick / 3 * 3 + (pick % 3 + 1 + dice.to(2)) % 3;
        int n = dice.about(2);
        is("swap(" + from + ", " + to + ", " + pick + ", " + other + ", " + n + ")",
            x.swap(from, to, pick, other, n), m.swap(from, to, pick, other, n));
        askClash();
    }

    private void askClash() {
        int what = dice.about(2);
        is("clash(" + what + ")", x.clash(what), m.clash(what));
    }

    private void makeText() {
        String text = dice.to(30) == 0 ? "" : new TextMaker().make();
        if (dice.to(3) == 0) {
            is("wipe()", x.wipe(), m.wipe());
        }
        for (int i = 0; i < text.length(); i += 4) {
            int n = Math.min(4, text.length() - i);
            int bytes = 0;
            for (int j = 0; j < n; j++) {
                bytes = bytes << 8 | text.charAt(i + j);
            }
            is("feed(" + bytes + ", " + n + ")", x.feed(bytes, n), m.feed(bytes, n));
        }
        is("text() of \"" + text + "\" with " + m.count(0) + " deals", x.text(), m.text());
        for (int what = 0; what < 3; what++) {
            is("clash(" + what + ")", x.clash(what), m.clash(what));
        }
    }

    private int deal() {
        return dice.to(12) == 0 ? dice.about(11) : dice.to(Math.max(1, m.count(0)));
    }

    private void askDeals() {
        int k = deal();
        int s = dice.about(1295);
        int what = dice.about(7);
        int end = dice.about(1);
        switch (dice.to(16)) {
            case 0, 1, 2, 3, 4: is("of(" + k + ", " + what + ")", x.of(k, what), m.of(k, what)); break;
            case 5, 6, 7: is("holds(" + k + ", " + s + ")", x.holds(k, s), m.holds(k, s)); break;
            case 8, 9, 10, 11, 12:
                is("conveys(" + k + ", " + s + ", " + end + ")", x.conveys(k, s, end), m.conveys(k, s, end));
                break;
            case 13: is("drop()", x.drop(), m.drop()); break;
            case 14: is("prune()", x.prune(), m.prune()); break;
            default: askClash(); break;
        }
    }

    private void askOwners() {
        int s = standing();
        int pick = dice.about(11);
        int club = dice.about(2);
        int[] far = {-2, -3, 4, 5, Integer.MIN_VALUE, Integer.MIN_VALUE + 1, Integer.MAX_VALUE};
        int i = dice.to(8) == 0 ? dice.pick(far) : dice.to(5) - 1;
        switch (dice.to(12)) {
            case 0, 1: is("owner(" + s + ", " + pick + ")", x.owner(s, pick), m.owner(s, pick)); break;
            case 2, 3, 4, 5:
                is("chain(" + s + ", " + pick + ", " + i + ")", x.chain(s, pick, i), m.chain(s, pick, i));
                break;
            case 6, 7: is("hand(" + s + ", " + club + ")", x.hand(s, club), m.hand(s, club)); break;
            case 8: is("owners(" + pick + ")", x.owners(pick), m.owners(pick)); break;
            case 9: is("sure(" + pick + ")", x.sure(pick), m.sure(pick)); break;
            case 10: is("chance(" + pick + ", " + club + ")", x.chance(pick, club), m.chance(pick, club)); break;
            default: is("least(" + pick + ", " + club + ")", x.least(pick, club), m.least(pick, club)); break;
        }
    }

    private void askWorth() {
        int s = standing();
        int club = dice.about(2);
        int end = dice.about(1);
        int place = dice.about(2);
        int v = dice.to(3) == 0 ? dice.about(999) : dice.to(12);
        switch (dice.to(8)) {
            case 0, 1: is("price(" + place + ", " + v + ")", x.price(place, v), m.price(place, v)); break;
            case 2, 3, 4: is("worth(" + s + ", " + club + ")", x.worth(s, club), m.worth(s, club)); break;
            case 5: is("value(" + club + ")", x.value(club), m.value(club)); break;
            case 6: is("best(" + club + ", " + end + ")", x.best(club, end), m.best(club, end)); break;
            default: is("hope(" + club + ")", x.hope(club), m.hope(club)); break;
        }
    }

    private void askRounds() {
        int t = dice.to(4);
        int s = standing();
        if (dice.to(2) == 0) {
            tellDeals(t);
            is("rounds(" + t + ", " + s + ")", x.rounds(t, s), m.rounds(t, s));
            return;
        }
        int n = dice.pick(new int[] {0, 5, 11, 12, 12, 12, 13, 40});
        int sort = dice.to(3);
        is("sheet(" + t + ", " + sort + ", " + n + ")", x.sheet(t, sort, n), m.sheet(t, sort, n));
        is("lays(" + t + ", " + s + ")", x.lays(t, s), m.lays(t, s));
        int again = dice.to(3) == 0 ? standing() : s;
        if (dice.to(3) == 0) {
            int i = dice.about(11);
            is("write(" + t + ", " + i + ", 1)", x.write(t, i, 1), m.write(t, i, 1));
        }
        is("judge(" + t + ", " + again + ")", x.judge(t, again), m.judge(t, again));
    }

    /** The numbers of the DEALS in some order come to a SHEET, at times a little wrong. */
    private void tellDeals(int t) {
        int n = m.count(0) + (dice.to(8) == 0 ? 1 : 0);
        int sort = dice.to(3);
        is("sheet(" + t + ", " + sort + ", " + n + ")", x.sheet(t, sort, n), m.sheet(t, sort, n));
        int[] row = new int[n];
        for (int i = 0; i < n; i++) {
            int j = dice.to(i + 1);
            row[i] = row[j];
            row[j] = i;
        }
        for (int i = 0; i < n; i++) {
            int v = dice.to(60) == 0 ? dice.about(12) : row[i];
            is("write(" + t + ", " + i + ", " + v + ")", x.write(t, i, v), m.write(t, i, v));
        }
    }

    private void doSheets() {
        int s = dice.about(3);
        int t = dice.to(2) == 0 ? s : dice.about(3);
        int sort = dice.to(8) == 0 ? -1 : dice.about(2);
        int n = dice.to(3) == 0 ? dice.about(40) : dice.to(8);
        int i = dice.about(7);
        int j = dice.about(7);
        long v = (long) dice.to(1 << 30) << dice.to(34) ^ -dice.to(2);
        switch (dice.to(14)) {
            case 0, 1: is("sheet(" + s + ", " + sort + ", " + n + ")", x.sheet(s, sort, n), m.sheet(s, sort, n)); break;
            case 2, 3, 4: is("write(" + s + ", " + i + ", " + v + ")", x.write(s, i, v), m.write(s, i, v)); break;
            case 5, 6: is("item(" + s + ", " + i + ")", x.item(s, i), m.item(s, i)); break;
            case 7, 8:
                is("copy(" + s + ", " + i + ", " + t + ", " + j + ", " + n + ")",
                    x.copy(s, i, t, j, n), m.copy(s, i, t, j, n));
                break;
            case 9: is("feed(" + v + ", " + i + ")", x.feed((int) v, i), m.feed((int) v, i)); break;
            case 10, 11: {
                int k = deal();
                is("hold(" + s + ", " + k + ")", x.hold(s, k), m.hold(s, k));
                break;
            }
            default: {
                int as = dice.about(5);
                is("taken(" + s + ", " + as + ")", x.taken(s, as), m.taken(s, as));
                break;
            }
        }
    }

    private void doPiles() {
        int what = dice.about(6);
        int which = dice.about(8) - 1;
        int order = dice.about(5);
        int year = dice.about(3);
        switch (dice.to(14)) {
            case 0, 1: is("image()", x.image(), m.image()); break;
            case 2: is("back()", x.back(), m.back()); break;
            case 3, 4: is("seed(" + which + ")", x.seed(which), m.seed(which)); break;
            case 5, 6: is("count(" + what + ")", x.count(what), m.count(what)); break;
            case 7, 8: is("status(" + which + ")", x.status(which), m.status(which)); break;
            case 9: {
                int next = dice.to(2) == 0 ? 6 : order;
                is("fall(" + next + ")", x.fall(next), m.fall(next));
                break;
            }
            case 10: is("fallen(" + year + ")", x.fallen(year), m.fallen(year)); break;
            case 11: is("draw()", x.draw(), m.draw()); break;
            case 12: is("order(" + order + ", " + year + ")", x.order(order, year), m.order(order, year)); break;
            default: {
                int s = dice.about(1295);
                int pick = dice.about(11);
                is("place(" + s + ", " + pick + ")", x.place(s, pick), m.place(s, pick));
                break;
            }
        }
    }

    /** TEXTS that are right for the most part, and some with a byte or a word gone wrong. */
    private final class TextMaker {
        private final StringBuilder b = new StringBuilder();

        String make() {
            int items = 1 + dice.to(dice.to(4) == 0 ? 7 : 2);
            for (int i = 0; i < items && b.length() < 90; i++) {
                if (i > 0) {
                    b.append(blank()).append(';').append(blank());
                }
                item(i);
            }
            if (dice.to(5) == 0) {
                b.append(blank());
            }
            if (dice.to(4) == 0) {
                spoil();
            }
            if (b.length() > 120 && dice.to(10) != 0) {
                b.setLength(120);
            }
            return b.toString();
        }

        private String blank() {
            return dice.pick(new int[] {0, 0, 1, 2}) == 0 ? "" : " ";
        }

        private void word(String w) {
            if (b.length() > 0 && b.charAt(b.length() - 1) >= 'a' && b.charAt(b.length() - 1) <= 'z') {
                b.append(' ');
            }
            b.append(blank()).append(w).append(blank());
        }

        private void number(int v) {
            if (b.length() > 0 && b.charAt(b.length() - 1) >= '0' && b.charAt(b.length() - 1) <= '9') {
                b.append(' ');
            }
            b.append(dice.to(40) == 0 ? "0" : "").append(v);
        }

        private int near(int most) {
            return dice.to(50) == 0 ? dice.pick(new int[] {most + 1, 12, 99, 100, 101, 1000}) : dice.to(most + 1);
        }

        private void item(int done) {
            int least = 3 * m.count(1);
            int pick = dice.to(30) == 0 || least > 11 ? near(11) : least + dice.to(12 - least);
            int from = dice.to(4) == 0 || pick > 11 ? dice.to(3) : m.owner(firstOpen(), pick);
            word("from");
            number(from);
            word("to");
            number(dice.to(40) == 0 ? from : (from + 1 + dice.to(2)) % 3);
            word("pick");
            number(pick);
            int kind = dice.to(7);
            if (kind == 4 || kind == 5) {
                word(kind == 4 ? "swap" : "choice");
                number(dice.to(30) == 0 ? near(11) : pick / 3 * 3 + (pick % 3 + 1 + dice.to(2)) % 3);
            } else if (kind >= 1 && kind <= 3) {
                word(new String[] {"guard", "tail", "roll"}[kind - 1]);
            }
            if (kind >= 1 && kind <= 5 && kind != 4) {
                number(dice.to(20) == 0 ? near(3) : 1 + dice.to(2));
            }
            if (dice.to(2) == 0) {
                word("if");
                either(dice.to(8) == 0 ? 8 : 3, done);
            }
        }

        private void either(int left, int done) {
            every(left, done);
            while (dice.to(4) == 0) {
                word("or");
                every(left, done);
            }
        }

        private void every(int left, int done) {
            one(left, done);
            while (dice.to(4) == 0) {
                word("and");
                one(left, done);
            }
        }

        private void one(int left, int done) {
            int r = dice.to(left > 3 ? 4 : 9);
            if (left > 0 && r == 0 || left > 3 && r < 3) {
                if (dice.to(2) == 0) {
                    word("not");
                    one(left - 1, done);
                } else {
                    b.append('(');
                    either(left - 1, done);
                    b.append(')');
                }
            } else if (r < 4) {
                word("ahead");
                number(near(3));
                int club = dice.to(3);
                number(club);
                number(dice.to(30) == 0 ? near(2) : (club + 1 + dice.to(2)) % 3);
            } else if (r < 7 || m.count(0) + done == 0) {
                word("at");
                number(near(3));
                number(near(2));
                number(near(2));
            } else {
                word("lapsed");
                number(dice.to(12) == 0 ? near(12) : dice.to(m.count(0) + done));
            }
        }

        private void spoil() {
            if (b.length() == 0) {
                return;
            }
            int at = dice.to(b.length());
            switch (dice.to(5)) {
                case 0: b.deleteCharAt(at); break;
                case 1: b.setLength(at); break;
                case 2: b.insert(at, (char) dice.pick(new int[] {'(', ')', ';', 'x', '7', '_', 'F', 200, 0, 9, ' '})); break;
                case 3: b.setCharAt(at, (char) dice.pick(new int[] {'(', ')', ';', 'x', '7', '_', 'F', 200, 0, 9, ' '})); break;
                default: b.append(new String[] {" and", " or at 0 0 0", ";", " )", " if", " 1", " to"}[dice.to(7)]); break;
            }
        }
    }
}
