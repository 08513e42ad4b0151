/**
 * Asks for findings: each is counted, and changes nothing else. Of objects made alike one gets the
 * call, the other doesn't, and both must answer alike whatever is asked of them from then on.
 */
final class Findings {
    /** One look after another would be more than the calls that an object is for. */
    private static final Look[] LOOKS = {Findings::counts, Findings::rows, Findings::ledger, Findings::tape, Findings::pile};
    private final Due due;

    Findings(Due due) {
        this.due = due;
    }

    interface Call {
        long on(RolledPicks x);
    }

    interface Setup {
        void on(RolledPicks x);
    }

    private interface Look {
        void at(RolledPicks x, StringBuilder b);
    }

    /** Six DEALS, one of them under a CONDITION; YEAR 0 has FALLEN; something of all else. */
    static void rich(RolledPicks x) {
        x.sale(0, 2, 0, 5, 0);
        x.sale(1, 0, 1, 3, 2);
        x.swap(1, 2, 7, 8, 0);
        x.swap(1, 2, 10, 11, 2);
        x.image();
        Due.text(x, "from 0 to 1 pick 5 guard 1 if ahead 0 1 2 or lapsed 1");
        x.sale(0, 2, 1, 5, 0);
        x.fall(3);
        x.price(1, 7);
        x.seed(99);
        x.image();
        x.sale(3, 0, 2, 6, 1);
        x.sheet(0, 0, 6);
        x.sheet(1, 1, 12);
        x.sheet(2, 2, 5);
        x.write(0, 1, 5);
        x.write(1, 11, 77);
        x.write(2, 4, -1L << 40);
        x.hold(0, 1);
        x.hold(2, 4);
        Due.feed(x, "from 1 to 0 pick 4");
    }

    /** Twelve DEALS, six images, 119 bytes on THE TAPE. */
    static void full(RolledPicks x) {
        for (int pick = 0; pick < 12; pick++) {
            x.sale(0, pick % 3, (pick + 1) % 3, pick, 0);
        }
        for (int i = 0; i < 6; i++) {
            x.image();
        }
        for (int i = 0; i < 29; i++) {
            x.feed(0x20202020, 4);
        }
        x.feed(0x202020, 3);
        x.sheet(0, 0, 12);
    }

    static void fullAndFallen(RolledPicks x) {
        full(x);
        x.fall(1);
    }

    static void allFallen(RolledPicks x) {
        x.sale(0, 0, 1, 0, 0);
        x.fall(0);
        x.fall(5);
        x.fall(2);
        x.fall(4);
    }

    static void bare(RolledPicks x) {
        x.seed(1);
    }

    void check(String name, Setup setup, long want, Call call) {
        RolledPicks x = new RolledPicks();
        RolledPicks y = new RolledPicks();
        setup.on(x);
        setup.on(y);
        due.is(name, call.on(x), want);
        long k = want < -2000000 ? Due.LONG_BEYOND - want : Due.BEYOND - want;
        for (int which = 0; which < 8; which++) {
            due.is(name + ", then status(" + which + ")", x.status(which), y.status(which) + (which == k ? 1 : 0));
        }
        due.is(name + ", then status(-1)", x.status(-1), y.status(-1) + 1);
        alike(name, setup, z -> {
            setup.on(z);
            call.on(z);
        });
        if (want != Due.STATE) {
            for (int what = 0; what < 3; what++) {
                due.is(name + ", then clash(" + what + ")", x.clash(what), y.clash(what));
            }
        }
    }

    /** Both ways to make an object come to the same, but for status() and THE CLASH. */
    void alike(String name, Setup one, Setup other) {
        for (int i = 0; i < LOOKS.length; i++) {
            due.holds(name + " leaves all as it was, look " + i, look(one, LOOKS[i]).equals(look(other, LOOKS[i])));
        }
    }

    private static String look(Setup setup, Look look) {
        RolledPicks x = new RolledPicks();
        setup.on(x);
        StringBuilder b = new StringBuilder();
        look.at(x, b);
        return b.toString();
    }

    private static void counts(RolledPicks x, StringBuilder b) {
        for (int what = 0; what < 7; what++) {
            b.append(" count ").append(x.count(what));
        }
        for (int spot = 0; spot < 4; spot++) {
            b.append(" taken ").append(x.taken(spot, 0));
        }
        b.append(" draw ").append(x.draw());
    }

    private static void rows(RolledPicks x, StringBuilder b) {
        for (int s = 0; s < 4; s++) {
            for (int i = 0; i < 41; i++) {
                b.append(' ').append(x.item(s, i));
            }
            b.append(" write ").append(x.write(s, 0, 0x1234567887654321L)).append(" item ").append(x.item(s, 0));
        }
    }

    private static void ledger(RolledPicks x, StringBuilder b) {
        int deals = x.count(0);
        for (int k = 0; k < deals; k++) {
            for (int what = 0; what < 8; what++) {
                b.append(" of ").append(x.of(k, what));
            }
        }
        for (int year = 0; year < 4; year++) {
            b.append(" fallen ").append(x.fallen(year));
        }
        for (int club = 0; club < 3; club++) {
            b.append(" value ").append(x.value(club));
        }
        for (int pick = 0; pick < 12; pick++) {
            b.append(" chance ").append(x.chance(pick, 0)).append(' ').append(x.chance(pick, 1));
        }
        for (int place = 0; place < 3; place++) {
            b.append(" price ").append(x.price(place, 0));
        }
    }

    private static void tape(RolledPicks x, StringBuilder b) {
        b.append(" text ").append(x.text());
        ledger(x, b);
    }

    private static void pile(RolledPicks x, StringBuilder b) {
        b.append(" back ").append(x.back());
        ledger(x, b);
        b.append(" back ").append(x.back()).append(" z ").append(x.count(4));
    }
}
