/** Promises 39 to 43: images, seeds, counts, status. */
public final class PileRuns {
    private static final Due DUE = new Due();

    public static void main(String[] args) {
        images();
        whatStays();
        six();
        seeds();
        counts();
        status();
        DUE.end();
    }

    private static void images() {
        RolledPicks x = new RolledPicks();
        DUE.is("back()", x.back(), Due.NONE);
        x.sale(0, 0, 1, 0, 0);
        x.price(1, 50);
        x.seed(7);
        DUE.is("image()", x.image(), 1);
        x.sale(0, 1, 2, 3 + 1, 0);
        x.fall(3);
        x.price(1, 60);
        x.price(2, 61);
        x.draw();
        DUE.is("image()", x.image(), 2);
        x.drop();
        x.drop();
        x.fall(1);
        x.price(0, 1);
        x.seed(1);
        DUE.is("back()", x.back(), 2);
        DUE.is("count(0)", x.count(0), 2);
        DUE.is("count(1)", x.count(1), 1);
        DUE.is("fallen(0)", x.fallen(0), 3);
        DUE.is("count(4)", x.count(4), 7 * 1103515245 + 12345);
        DUE.is("price(0)", x.price(0, 3), 8);
        DUE.is("price(1)", x.price(1, 3), 60);
        DUE.is("price(2)", x.price(2, 3), 61);
        DUE.is("sure(4)", x.sure(4), 2);
        DUE.is("count(3)", x.count(3), 1);
        DUE.is("back()", x.back(), 1);
        DUE.is("count(1)", x.count(1), 0);
        DUE.is("count(2)", x.count(2), 1296);
        DUE.is("count(4)", x.count(4), 7);
        DUE.is("price(1)", x.price(1, 3), 50);
        DUE.is("sure(4)", x.sure(4), 1);
        DUE.is("chance(0, 1)", x.chance(0, 1), 1296);
        DUE.is("back()", x.back(), Due.NONE);
    }

    /** THE CLASH, THE TAPE, SHEETS, SPOTS and status() are no part of an image. */
    private static void whatStays() {
        RolledPicks x = new RolledPicks();
        x.sale(0, 0, 1, 0, 0);
        x.image();
        x.sale(0, 0, 2, 0, 0);
        x.feed(0, 3);
        x.sheet(0, 0, 5);
        x.hold(0, 0);
        x.back();
        DUE.is("clash(1)", x.clash(1), 0);
        DUE.is("clash(2)", x.clash(2), 0);
        DUE.is("count(5)", x.count(5), 3);
        DUE.is("item(0, 4)", x.item(0, 4), 0);
        DUE.is("count(6)", x.count(6), 1);
        DUE.is("status(4)", x.status(4), 1);
    }

    private static void six() {
        RolledPicks x = new RolledPicks();
        for (int i = 1; i <= 6; i++) {
            x.seed(i);
            DUE.is("image()", x.image(), i);
        }
        DUE.is("a 7th", x.image(), Due.FULL);
        DUE.is("count(3)", x.count(3), 6);
        for (int i = 6; i >= 1; i--) {
            DUE.is("back()", x.back(), 0);
            DUE.is("count(4)", x.count(4), i);
        }
        DUE.is("back()", x.back(), Due.NONE);
        DUE.is("image() again", x.image(), 1);
    }

    private static void seeds() {
        RolledPicks x = new RolledPicks();
        DUE.is("seed(MIN)", x.seed(Integer.MIN_VALUE), 1);
        DUE.is("seed(-1)", x.seed(-1), Integer.MIN_VALUE);
        DUE.is("seed(3)", x.seed(3), -1);
        DUE.is("count(4)", x.count(4), 3);
    }

    private static void counts() {
        RolledPicks x = new RolledPicks();
        x.sale(0, 0, 1, 11 - 2, 0);
        x.sale(0, 1, 2, 9, 0);
        x.fall(1);
        x.fall(1);
        x.fall(1);
        x.image();
        x.seed(-4);
        x.feed(0, 2);
        x.hold(2, 0);
        int[] due = {2, 3, 6, 1, -4, 2, 1};
        for (int what = 0; what < due.length; what++) {
            DUE.is("count(" + what + ")", x.count(what), due[what]);
        }
        DUE.is("count(7)", x.count(7), Due.BEYOND);
        DUE.is("count(-1)", x.count(-1), Due.BEYOND);
    }

    private static void status() {
        RolledPicks x = new RolledPicks();
        x.order(6, 0);
        x.value(3);
        for (int i = 0; i < 31; i++) {
            x.feed(0, 4);
        }
        x.sheet(0, 0, 1);
        x.sheet(1, 1, 1);
        x.copy(0, 0, 1, 0, 1);
        x.drop();
        x.sale(0, 1, 2, 0, 0);
        x.item(3, 0);
        x.taken(0, 0);
        x.sheet(0, 0, -1);
        x.rounds(0, 0);
        x.wipe();
        x.text();
        int[] due = {2, 1, 1, 1, 1, 2, 2, 0};
        for (int which = 0; which < 8; which++) {
            DUE.is("status(" + which + ")", x.status(which), due[which]);
        }
        DUE.is("status(-1)", x.status(-1), 10);
        DUE.is("status(8)", x.status(8), Due.BEYOND);
        DUE.is("status(-2)", x.status(-2), Due.BEYOND);
        DUE.is("status(0)", x.status(0), 4);
        DUE.is("status(-1)", x.status(-1), 12);
        x.image();
        x.drop();
        x.back();
        DUE.is("back() takes none back", x.status(-1), 13);
        DUE.is("back() takes none back", x.status(3), 2);
    }
}
