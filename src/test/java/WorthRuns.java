/** Promises 23 to 27: prices, worth, value, best and worst standings, hopes. */
public final class WorthRuns {
    private static final Due DUE = new Due();

    public static void main(String[] args) {
        prices();
        worths();
        bests();
        hopes();
        DUE.end();
    }

    private static void prices() {
        RolledPicks x = new RolledPicks();
        DUE.is("price(0, 999)", x.price(0, 999), 8);
        DUE.is("price(0, 0)", x.price(0, 0), 999);
        DUE.is("price(0, 1000)", x.price(0, 1000), Due.BEYOND);
        DUE.is("price(0, -1)", x.price(0, -1), Due.BEYOND);
        DUE.is("price(3, 1)", x.price(3, 1), Due.BEYOND);
        DUE.is("price(0, 5)", x.price(0, 5), 0);
        DUE.is("price(1, 7)", x.price(1, 7), 4);
        DUE.is("price(2, 6)", x.price(2, 6), 2);
        DUE.is("price(1, 7)", x.price(1, 7), 7);
        DUE.is("price(2, 6)", x.price(2, 6), 6);
        DUE.is("worth(0, 1)", x.worth(0, 1), 28);
    }

    private static void worths() {
        RolledPicks x = new RolledPicks();
        DUE.is("worth(0, 0)", x.worth(0, 0), 32);
        DUE.is("worth(0, 1)", x.worth(0, 1), 16);
        DUE.is("worth(0, 2)", x.worth(0, 2), 8);
        DUE.is("worth(3, 0)", x.worth(3, 0), 26);
        DUE.is("value(0)", x.value(0), 1296L * 4 * 14 / 3);
        x.sale(4, 0, 1, 3, 1);
        DUE.is("worth(0, 0)", x.worth(0, 0), 24);
        DUE.is("worth(0, 1)", x.worth(0, 1), 24);
        DUE.is("value(0)", x.value(0), 1296L * 4 * 14 / 3 - 432 * 8);
        DUE.is("value(1)", x.value(1), 1296L * 4 * 14 / 3 + 432 * 8);
        x.price(0, 999);
        DUE.is("value(0)", x.value(0), 1296L * 3 * (999 + 4 + 2) / 3 + 432 * 6);
        DUE.is("value(3)", x.value(3), Due.LONG_BEYOND);
        x.fall(5);
        x.fall(0);
        DUE.is("value(0)", x.value(0), 36L * 2 + 36 * 2 * 1005 / 3);
        DUE.is("worth(1080, 1)", x.worth(1080, 1), 4 + 999 + 4 + 4 + 4);
        DUE.is("worth(0, 1)", x.worth(0, 1), Due.BEYOND);
        RolledPicks y = new RolledPicks();
        for (int place = 0; place < 3; place++) {
            y.price(place, 999);
        }
        for (int pick = 0; pick < 12; pick++) {
            y.sale(0, pick % 3, 1, pick, 0);
        }
        DUE.is("value(1), the greatest", y.value(1), 1296L * 999 * 12);
        DUE.is("count(0)", y.count(0), 8);
    }

    private static void bests() {
        RolledPicks x = new RolledPicks();
        DUE.is("best(0, 0)", x.best(0, 0), 0);
        DUE.is("best(0, 1)", x.best(0, 1), 3 * 259);
        DUE.is("best(1, 0)", x.best(1, 0), 2 * 259);
        DUE.is("best(1, 1)", x.best(1, 1), 259);
        DUE.is("best(2, 0)", x.best(2, 0), 4 * 259);
        DUE.is("best(2, 1)", x.best(2, 1), 0);
        x.fall(1);
        DUE.is("best(0, 1)", x.best(0, 1), 216 + 3 * 43);
        DUE.is("best(2, 1)", x.best(2, 1), 216);
        DUE.is("best(2, 0)", x.best(2, 0), 216 + 4 * 43);
        x.fall(0);
        x.fall(0);
        x.price(0, 0);
        x.price(1, 9);
        x.price(2, 0);
        DUE.is("the next one to the first", x.best(2, 0), 216 + 1);
        DUE.is("the next one to the first", x.best(1, 1), 216 + 1);
        for (int place = 0; place < 3; place++) {
            x.price(place, 0);
        }
        DUE.is("of like ones the least", x.best(1, 0), 216);
        DUE.is("of like ones the least", x.best(1, 1), 216);
    }

    private static void hopes() {
        RolledPicks x = new RolledPicks();
        DUE.is("hope(0)", x.hope(0), 0);
        DUE.is("hope(1)", x.hope(1), 2);
        DUE.is("hope(2)", x.hope(2), 4);
        x.sale(0, 2, 1, 2, 0);
        DUE.is("hope(1), with two PICKS of three", x.hope(1), 3);
        DUE.is("hope(2), with none: all alike", x.hope(2), 0);
        DUE.is("count(1)", x.count(1), 0);
        x.fall(5);
        DUE.is("hope(2)", x.hope(2), 4);
        x.sale(4, 2, 1, 5, 1);
        DUE.is("hope(2), its first PICK goes", x.hope(2), 1);
        x.fall(0);
        x.fall(0);
        DUE.is("hope(2)", x.hope(2), 4);
        x.price(2, 9);
        DUE.is("hope(2)", x.hope(2), 0);
        x.fall(0);
        DUE.is("hope(2)", x.hope(2), Due.NONE);
        DUE.is("hope(3)", x.hope(3), Due.BEYOND);
    }
}
