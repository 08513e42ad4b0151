/**
 * A ledger of picks to come, of deals by which they go from club to club, and of who has them
 * under every standing there may be. The words in capitals are those of the document's terms.
 */
public final class RolledPicks {
    private static final int CLUBS = 3;
    private static final int YEARS = 4;
    private static final int PICKS = 12;
    private static final int ORDERS = 6;
    private static final int STANDINGS = 1296;
    private static final int MOST_DEALS = 12;
    private static final int MOST_N = 2;
    private static final int MOST_WORTH = 999;
    private static final int MOST_BYTES = 120;
    private static final int MOST_NESTED = 6;
    private static final int SHEETS = 4;
    private static final int MOST_NUMBERS = 40;
    private static final int SPOTS = 4;
    private static final int MOST_IMAGES = 6;

    private static final int LOW = -1000001;
    private static final long LONG_LOW = -1000000000000000001L;
    private static final int FINDINGS = 8;
    private static final int BEYOND = 0;
    private static final int FULL = 1;
    private static final int KIND = 2;
    private static final int NONE = 3;
    private static final int STATE = 4;
    private static final int MISSING = 5;
    private static final int SIZE = 6;

    private static final int DEAL = 0;
    private static final int GUARD = 1;
    private static final int SWAP = 2;
    private static final int ROLL = 3;
    private static final int TAIL = 4;
    private static final int CHOICE = 5;
    private static final int KINDS = 6;
    /** The KIND that each KIND is under. */
    private static final int[] KIND_ABOVE = {-1, DEAL, DEAL, GUARD, GUARD, SWAP};

    private static final int TWICE_FROM_ONE = 0;
    private static final int COMES_BACK = 1;
    private static final int FROM_OUTSIDE = 2;

    private static final int NO_SORT = -1;
    private static final int SHORTS = 0;
    private static final int INTS = 1;
    private static final int LONGS = 2;

    /** Row by row of three: the CLUBS of an ORDER by places, and the places of its CLUBS. */
    private static final int[] CLUB_AT = {0, 1, 2, 0, 2, 1, 1, 0, 2, 1, 2, 0, 2, 0, 1, 2, 1, 0};
    private static final int[] PLACE_OF = {0, 1, 2, 0, 2, 1, 1, 0, 2, 2, 0, 1, 1, 2, 0, 2, 1, 0};
    /** What one ORDER more of a YEAR adds to a STANDING's number. */
    private static final int[] YEAR_STEP = {216, 36, 6, 1};
    /** How many STANDINGS are OPEN, by how many YEARS have FALLEN. */
    private static final int[] OPEN_LEFT = {1296, 216, 36, 6, 1};

    private final Book book = new Book();
    private final Book[] pile = new Book[MOST_IMAGES];
    private int images;
    private final Owners owners = new Owners();
    private final Reader reader = new Reader();
    private final Sheet[] sheets = new Sheet[SHEETS];
    private final Deal[] spots = new Deal[SPOTS];
    /** THE CLASH: STANDING, PICK, 0 to 2. */
    private final int[] told = {-1, -1, -1};
    private final int[] findings = new int[FINDINGS];

    public RolledPicks() {
        for (int i = 0; i < MOST_IMAGES; i++) {
            pile[i] = new Book();
        }
        for (int i = 0; i < SHEETS; i++) {
            sheets[i] = new Sheet();
        }
        owners.startAll(0, STANDINGS);
    }

    // ---- orders, standings

    public int order(int order, int place) {
        if (isOutside(order, ORDERS) || isOutside(place, CLUBS)) {
            return finding(BEYOND);
        }
        return CLUB_AT[order * CLUBS + place];
    }

    public int place(int standing, int pick) {
        if (isOutside(standing, STANDINGS) || isOutside(pick, PICKS)) {
            return finding(BEYOND);
        }
        return placeUnder(standing, pick);
    }

    public int fall(int order) {
        if (isOutside(order, ORDERS)) {
            return finding(BEYOND);
        }
        if (book.fallenYears >= YEARS) {
            return finding(NONE);
        }
        book.orders[book.fallenYears] = order;
        book.fallenYears++;
        return book.fallenYears;
    }

    public int fallen(int year) {
        if (isOutside(year, YEARS)) {
            return finding(BEYOND);
        }
        return year < book.fallenYears ? book.orders[year] : finding(NONE);
    }

    public int draw() {
        book.z = book.z * 1103515245 + 12345;
        return book.firstOpen() + (book.z >>> 8) % book.openCount();
    }

    // ---- deals

    public int sale(int kind, int from, int to, int pick, int n) {
        boolean known = kind == DEAL || kind == GUARD || kind == ROLL || kind == TAIL;
        if (!known || areNoPair(from, to) || isOutside(pick, PICKS)) {
            return finding(BEYOND);
        }
        if (kind != DEAL && (n < 1 || n > MOST_N)) {
            return finding(BEYOND);
        }
        return enter(new Deal(kind, from, to, pick, -1, kind == DEAL ? 0 : n, null));
    }

    public int swap(int from, int to, int pick, int other, int n) {
        if (areNoPair(from, to) || isOutside(pick, PICKS) || isOutside(other, PICKS)) {
            return finding(BEYOND);
        }
        if (pick == other || pick / CLUBS != other / CLUBS || n < 0 || n > MOST_N) {
            return finding(BEYOND);
        }
        return enter(new Deal(n == 0 ? SWAP : CHOICE, from, to, pick, other, n, null));
    }

    public int text() {
        int known = book.dealCount;
        int came = reader.readText(book);
        reader.tape.length = 0;
        for (int i = 0; i < came; i++) {
            if (!takes(reader.cameAt(i))) {
                book.dealCount = known;
                settleAll();
                return finding(STATE);
            }
        }
        return came;
    }

    public int of(int k, int what) {
        Deal deal = book.dealAt(k);
        if (deal == null) {
            return finding(BEYOND);
        }
        switch (what) {
            case 0: return deal.kind;
            case 1: return deal.from;
            case 2: return deal.to;
            case 3: return deal.pick;
            case 4: return deal.other;
            case 5: return deal.n;
            case 6: return deal.condition != null ? 1 : 0;
            case 7: return countConveying(deal);
            default: return finding(BEYOND);
        }
    }

    public int holds(int k, int standing) {
        Deal deal = book.dealAt(k);
        if (deal == null || isOutside(standing, STANDINGS)) {
            return finding(BEYOND);
        }
        return deal.isMet(standing) ? 1 : 0;
    }

    public int conveys(int k, int standing, int what) {
        Deal deal = book.dealAt(k);
        if (deal == null || isOutside(standing, STANDINGS) || isOutside(what, 2)) {
            return finding(BEYOND);
        }
        int pick = what == 0 ? deal.gives(standing) : deal.getsBack(standing);
        return pick < 0 ? finding(NONE) : pick;
    }

    public int drop() {
        if (book.dealCount <= 0) {
            return finding(NONE);
        }
        book.dealCount--;
        settleAll();
        return book.dealCount;
    }

    public int prune() {
        int kept = 0;
        int before = book.dealCount;
        for (int k = 0; k < before; k++) {
            Deal deal = book.dealAt(k);
            if (deal != null && countConveying(deal) > 0) {
                book.deals[kept] = deal;
                kept++;
            }
        }
        book.dealCount = kept;
        return before - kept;
    }

    public int clash(int what) {
        return isOutside(what, told.length) ? finding(BEYOND) : told[what];
    }

    // ---- who has what

    public int owner(int standing, int pick) {
        if (!book.isOpen(standing) || isOutside(pick, PICKS)) {
            return finding(BEYOND);
        }
        return owners.at(standing, pick);
    }

    public int chain(int standing, int pick, int i) {
        if (!book.isOpen(standing) || isOutside(pick, PICKS)) {
            return finding(BEYOND);
        }
        int club = pick % CLUBS;
        int length = 1;
        for (int k = 0; k < book.dealCount && length != i + 1; k++) {
            Deal deal = book.dealAt(k);
            int next = deal == null ? -1 : deal.takerOf(standing, pick);
            if (next >= 0) {
                club = next;
                length++;
            }
        }
        if (i == -1) {
            return length;
        }
        // The document sets i no range: below -1 there is no such CLUB, as there is none behind the last.
        return length == i + 1 ? club : finding(NONE);
    }

    public int hand(int standing, int club) {
        if (!book.isOpen(standing) || isOutside(club, CLUBS)) {
            return finding(BEYOND);
        }
        int set = 0;
        for (int pick = 0; pick < PICKS; pick++) {
            if (owners.at(standing, pick) == club) {
                set |= 1 << pick;
            }
        }
        return set;
    }

    public int owners(int pick) {
        return isOutside(pick, PICKS) ? finding(BEYOND) : everOwners(pick);
    }

    public int sure(int pick) {
        if (isOutside(pick, PICKS)) {
            return finding(BEYOND);
        }
        int set = everOwners(pick);
        for (int club = 0; club < CLUBS; club++) {
            if (set == 1 << club) {
                return club;
            }
        }
        return finding(NONE);
    }

    public int chance(int pick, int club) {
        if (isOutside(pick, PICKS) || isOutside(club, CLUBS)) {
            return finding(BEYOND);
        }
        int times = 0;
        int end = book.endOpen();
        for (int standing = book.firstOpen(); standing < end; standing++) {
            if (owners.at(standing, pick) == club) {
                times++;
            }
        }
        return times;
    }

    public int least(int pick, int club) {
        if (isOutside(pick, PICKS) || isOutside(club, CLUBS)) {
            return finding(BEYOND);
        }
        int end = book.endOpen();
        for (int standing = book.firstOpen(); standing < end; standing++) {
            if (owners.at(standing, pick) == club) {
                return standing;
            }
        }
        return finding(NONE);
    }

    // ---- what it is worth

    public int price(int place, int v) {
        if (isOutside(place, CLUBS) || isOutside(v, MOST_WORTH + 1)) {
            return finding(BEYOND);
        }
        int was = book.worths[place];
        book.worths[place] = v;
        return was;
    }

    public int worth(int standing, int club) {
        if (!book.isOpen(standing) || isOutside(club, CLUBS)) {
            return finding(BEYOND);
        }
        return worthUnder(standing, club);
    }

    public long value(int club) {
        if (isOutside(club, CLUBS)) {
            return longFinding(BEYOND);
        }
        return worthOver(book.firstOpen(), book.endOpen(), club);
    }

    public int best(int club, int what) {
        if (isOutside(club, CLUBS) || isOutside(what, 2)) {
            return finding(BEYOND);
        }
        int best = book.firstOpen();
        int bestWorth = worthUnder(best, club);
        int end = book.endOpen();
        for (int standing = best + 1; standing < end; standing++) {
            int worth = worthUnder(standing, club);
            if (what == 0 ? worth > bestWorth : worth < bestWorth) {
                best = standing;
                bestWorth = worth;
            }
        }
        return best;
    }

    public int hope(int club) {
        if (isOutside(club, CLUBS)) {
            return finding(BEYOND);
        }
        if (book.fallenYears >= YEARS) {
            return finding(NONE);
        }
        int part = YEAR_STEP[book.fallenYears];
        int best = 0;
        long bestWorth = -1;
        for (int order = 0; order < ORDERS; order++) {
            int first = book.firstOpen() + order * part;
            long worth = worthOver(first, first + part, club);
            if (worth > bestWorth) {
                best = order;
                bestWorth = worth;
            }
        }
        return best;
    }

    // ---- rounds

    public int rounds(int s, int standing) {
        if (isOutside(s, SHEETS) || !book.isOpen(standing)) {
            return finding(BEYOND);
        }
        Sheet sheet = sheets[s];
        if (sheet.isMissing()) {
            return finding(MISSING);
        }
        if (sheet.length != book.dealCount) {
            return finding(SIZE);
        }
        if (!tellsEachDeal(sheet)) {
            return finding(STATE);
        }
        return countRounds(sheet, standing);
    }

    public int lays(int s, int standing) {
        if (isOutside(s, SHEETS) || !book.isOpen(standing)) {
            return finding(BEYOND);
        }
        Sheet sheet = sheets[s];
        if (sheet.isMissing()) {
            return finding(MISSING);
        }
        int laid = Math.min(sheet.length, PICKS);
        for (int pick = 0; pick < laid; pick++) {
            sheet.put(pick, owners.at(standing, pick));
        }
        return laid;
    }

    public int judge(int s, int standing) {
        if (isOutside(s, SHEETS) || !book.isOpen(standing)) {
            return finding(BEYOND);
        }
        Sheet sheet = sheets[s];
        if (sheet.isMissing()) {
            return finding(MISSING);
        }
        int both = Math.min(sheet.length, PICKS);
        for (int pick = 0; pick < both; pick++) {
            if (sheet.numbers[pick] != owners.at(standing, pick)) {
                return 1 + pick;
            }
        }
        return sheet.length == PICKS ? 0 : 1 + both;
    }

    // ---- the tape, sheets, spots

    public int feed(int bytes, int n) {
        if (n < 1 || n > 4) {
            return finding(BEYOND);
        }
        if (reader.tape.length + n > MOST_BYTES) {
            return finding(FULL);
        }
        for (int i = n - 1; i >= 0; i--) {
            reader.tape.add((byte) (bytes >>> (8 * i)));
        }
        return reader.tape.length;
    }

    public int wipe() {
        int had = reader.tape.length;
        reader.tape.length = 0;
        return had;
    }

    public int sheet(int s, int sort, int n) {
        if (isOutside(s, SHEETS) || sort < NO_SORT || sort > LONGS) {
            return finding(BEYOND);
        }
        if (sort == NO_SORT) {
            sheets[s].become(NO_SORT, 0);
            return 0;
        }
        if (n < 0) {
            return finding(SIZE);
        }
        if (n > MOST_NUMBERS) {
            return finding(BEYOND);
        }
        sheets[s].become(sort, n);
        return n;
    }

    public int write(int s, int i, long v) {
        if (isOutside(s, SHEETS)) {
            return finding(BEYOND);
        }
        Sheet sheet = sheets[s];
        if (sheet.isMissing()) {
            return finding(MISSING);
        }
        if (isOutside(i, sheet.length)) {
            return finding(BEYOND);
        }
        sheet.put(i, v);
        return 1;
    }

    public long item(int s, int i) {
        if (isOutside(s, SHEETS)) {
            return longFinding(BEYOND);
        }
        Sheet sheet = sheets[s];
        if (sheet.isMissing()) {
            return longFinding(MISSING);
        }
        return isOutside(i, sheet.length) ? longFinding(BEYOND) : sheet.numbers[i];
    }

    public int copy(int s, int i, int t, int j, int n) {
        if (isOutside(s, SHEETS) || isOutside(t, SHEETS)) {
            return finding(BEYOND);
        }
        Sheet source = sheets[s];
        Sheet target = sheets[t];
        if (source.isMissing() || target.isMissing()) {
            return finding(MISSING);
        }
        if (source.sort != target.sort) {
            return finding(KIND);
        }
        if (!source.hasRun(i, n) || !target.hasRun(j, n)) {
            return finding(BEYOND);
        }
        System.arraycopy(source.numbers, i, target.numbers, j, n);
        return n;
    }

    public int hold(int spot, int k) {
        Deal deal = book.dealAt(k);
        if (isOutside(spot, SPOTS) || deal == null) {
            return finding(BEYOND);
        }
        spots[spot] = deal;
        return 1;
    }

    public int taken(int spot, int as) {
        if (isOutside(spot, SPOTS) || isOutside(as, KINDS)) {
            return finding(BEYOND);
        }
        Deal deal = spots[spot];
        if (deal == null) {
            return finding(MISSING);
        }
        return isUnder(deal.kind, as) ? book.numberOf(deal) : finding(KIND);
    }

    // ---- piles, what is told

    public int image() {
        if (images >= MOST_IMAGES) {
            return finding(FULL);
        }
        pile[images].become(book);
        images++;
        return images;
    }

    public int back() {
        if (images <= 0) {
            return finding(NONE);
        }
        images--;
        book.become(pile[images]);
        settleAll();
        return book.dealCount;
    }

    public int seed(int v) {
        int was = book.z;
        book.z = v;
        return was;
    }

    public int count(int what) {
        switch (what) {
            case 0: return book.dealCount;
            case 1: return book.fallenYears;
            case 2: return book.openCount();
            case 3: return images;
            case 4: return book.z;
            case 5: return reader.tape.length;
            case 6: return countHeld();
            default: return finding(BEYOND);
        }
    }

    public int status(int which) {
        if (which == -1) {
            int all = 0;
            for (int k = 0; k < FINDINGS; k++) {
                all += findings[k];
            }
            return all;
        }
        return isOutside(which, FINDINGS) ? finding(BEYOND) : findings[which];
    }

    // ---- helpers

    private static boolean isOutside(int v, int end) {
        return v < 0 || v >= end;
    }

    private static boolean areNoPair(int from, int to) {
        return isOutside(from, CLUBS) || isOutside(to, CLUBS) || from == to;
    }

    private static int placeUnder(int standing, int pick) {
        int order = standing / YEAR_STEP[pick / CLUBS] % ORDERS;
        return PLACE_OF[order * CLUBS + pick % CLUBS];
    }

    private static boolean isUnder(int kind, int above) {
        int at = kind;
        for (int i = 0; i < KINDS && at >= 0 && at != above; i++) {
            at = KIND_ABOVE[at];
        }
        return at == above;
    }

    private int finding(int k) {
        findings[k]++;
        return LOW - k;
    }

    private long longFinding(int k) {
        findings[k]++;
        return LONG_LOW - k;
    }

    private int enter(Deal deal) {
        if (deal.pick / CLUBS < book.fallenYears) {
            return finding(NONE);
        }
        if (book.dealCount >= MOST_DEALS) {
            return finding(FULL);
        }
        return takes(deal) ? book.dealCount - 1 : finding(STATE);
    }

    /** Takes a DEAL, or tells its CLASH and leaves all as it was. */
    private boolean takes(Deal deal) {
        if (deal == null || book.dealCount >= MOST_DEALS) {
            return false;
        }
        int first = book.firstOpen();
        int end = book.endOpen();
        for (int standing = first; standing < end; standing++) {
            if (clashesUnder(standing, deal)) {
                return false;
            }
        }
        book.deals[book.dealCount] = deal;
        book.dealCount++;
        owners.settle(deal, first, end);
        return true;
    }

    private boolean clashesUnder(int standing, Deal deal) {
        int given = deal.gives(standing);
        if (given < 0) {
            return false;
        }
        int gotBack = deal.getsBack(standing);
        int givenClash = book.clashOf(standing, given, deal.from, deal.to);
        int backClash = gotBack < 0 ? -1 : book.clashOf(standing, gotBack, deal.to, deal.from);
        if (givenClash < 0 && backClash < 0) {
            return false;
        }
        boolean ofGiven = givenClash >= 0 && (backClash < 0 || given < gotBack);
        told[0] = standing;
        told[1] = ofGiven ? given : gotBack;
        told[2] = ofGiven ? givenClash : backClash;
        return true;
    }

    private void settleAll() {
        int first = book.firstOpen();
        int end = book.endOpen();
        owners.startAll(first, end);
        for (int k = 0; k < book.dealCount; k++) {
            owners.settle(book.dealAt(k), first, end);
        }
    }

    private int countConveying(Deal deal) {
        int times = 0;
        int end = book.endOpen();
        for (int standing = book.firstOpen(); standing < end; standing++) {
            if (deal.gives(standing) >= 0) {
                times++;
            }
        }
        return times;
    }

    private int everOwners(int pick) {
        int set = 0;
        int end = book.endOpen();
        for (int standing = book.firstOpen(); standing < end; standing++) {
            set |= 1 << owners.at(standing, pick);
        }
        return set;
    }

    private int worthUnder(int standing, int club) {
        int sum = 0;
        for (int pick = 0; pick < PICKS; pick++) {
            if (owners.at(standing, pick) == club) {
                sum += book.worths[placeUnder(standing, pick)];
            }
        }
        return sum;
    }

    private long worthOver(int first, int end, int club) {
        long sum = 0;
        for (int standing = first; standing < end; standing++) {
            sum += worthUnder(standing, club);
        }
        return sum;
    }

    private boolean tellsEachDeal(Sheet sheet) {
        int seen = 0;
        for (int i = 0; i < sheet.length; i++) {
            long k = sheet.numbers[i];
            if (k < 0 || k >= book.dealCount || (seen >> (int) k & 1) != 0) {
                return false;
            }
            seen |= 1 << (int) k;
        }
        return true;
    }

    private int countRounds(Sheet sheet, int standing) {
        Rounds rounds = new Rounds(standing);
        int times = 1;
        // Each round but the last moves one of at most two PICKS a DEAL, for good.
        while (times <= 2 * MOST_DEALS && goesOver(sheet, rounds)) {
            times++;
        }
        return times;
    }

    private boolean goesOver(Sheet sheet, Rounds rounds) {
        boolean went = false;
        for (int i = 0; i < sheet.length; i++) {
            int k = (int) sheet.numbers[i];
            Deal deal = book.dealAt(k);
            if (deal != null && rounds.move(deal, k)) {
                went = true;
            }
        }
        return went;
    }

    private int countHeld() {
        int held = 0;
        for (int i = 0; i < SPOTS; i++) {
            if (spots[i] != null) {
                held++;
            }
        }
        return held;
    }

    /** A DEAL of any KIND. It never changes, so that what it conveys outlasts its number. */
    private static final class Deal {
        final int kind;
        final int from;
        final int to;
        final int pick;
        final int other;
        final int n;
        /** Where its CONDITION holds; null if none was told. */
        final Standings condition;

        Deal(int kind, int from, int to, int pick, int other, int n, Standings condition) {
            this.kind = kind;
            this.from = from;
            this.to = to;
            this.pick = pick;
            this.other = other;
            this.n = n;
            this.condition = condition;
        }

        boolean isMet(int standing) {
            return condition == null || condition.has(standing);
        }

        /** The PICK that it CONVEYS FROM TO, -1 where it LAPSES. */
        int gives(int standing) {
            if (condition != null && !condition.has(standing)) {
                return -1;
            }
            int place = placeUnder(standing, pick);
            switch (kind) {
                case GUARD: return place >= n ? pick : -1;
                case TAIL: return place < n ? pick : -1;
                case SWAP: return place - placeUnder(standing, other) >= 1 ? pick : -1;
                case CHOICE: return place - placeUnder(standing, other) >= n ? pick : -1;
                case ROLL: break;
                default: return pick;
            }
            int rolled = pick;
            for (int need = n; rolled < PICKS && placeUnder(standing, rolled) < need; need--) {
                rolled += CLUBS;
            }
            return rolled < PICKS ? rolled : -1;
        }

        /** The PICK that it CONVEYS TO FROM, -1 where there is none. */
        int getsBack(int standing) {
            return other >= 0 && gives(standing) >= 0 ? other : -1;
        }

        /** The CLUB to which it CONVEYS a PICK, -1 if it doesn't. */
        int takerOf(int standing, int p) {
            if (p == other) {
                return gives(standing) >= 0 ? from : -1;
            }
            return mayGive(p) && gives(standing) == p ? to : -1;
        }

        private boolean mayGive(int p) {
            return p == pick || kind == ROLL && p > pick && p % CLUBS == pick % CLUBS;
        }
    }

    /** What an image keeps: DEALS, FALLEN YEARS, WORTH, z. */
    private static final class Book {
        final Deal[] deals = new Deal[MOST_DEALS];
        int dealCount;
        final int[] orders = new int[YEARS];
        int fallenYears;
        final int[] worths = {8, 4, 2};
        int z = 1;

        void become(Book that) {
            dealCount = that.dealCount;
            for (int k = 0; k < dealCount; k++) {
                deals[k] = that.deals[k];
            }
            System.arraycopy(that.orders, 0, orders, 0, YEARS);
            fallenYears = that.fallenYears;
            System.arraycopy(that.worths, 0, worths, 0, CLUBS);
            z = that.z;
        }

        /** OPEN STANDINGS follow one another, as YEARS fall from the one that counts most on. */
        int firstOpen() {
            int first = 0;
            for (int year = 0; year < fallenYears; year++) {
                first += orders[year] * YEAR_STEP[year];
            }
            return first;
        }

        int openCount() {
            return OPEN_LEFT[fallenYears];
        }

        int endOpen() {
            return firstOpen() + openCount();
        }

        boolean isOpen(int standing) {
            return standing >= firstOpen() && standing < endOpen();
        }

        Deal dealAt(int k) {
            return isOutside(k, dealCount) ? null : deals[k];
        }

        int numberOf(Deal deal) {
            for (int k = 0; k < dealCount; k++) {
                if (deals[k] == deal) {
                    return k;
                }
            }
            return -1;
        }

        /**
         * The CLASH (-1: none) that one DEAL more would bring by conveying a PICK. The DEALS
         * taken don't CLASH, and each came where the CHAIN then ended: so they stand along it
         * in the order of their numbers.
         */
        int clashOf(int standing, int p, int giver, int taker) {
            int last = p % CLUBS;
            int had = 1 << last;
            for (int k = 0; k < dealCount; k++) {
                Deal deal = dealAt(k);
                int next = deal == null ? -1 : deal.takerOf(standing, p);
                if (next >= 0) {
                    last = next;
                    had |= 1 << last;
                }
            }
            if ((had >> giver & 1) == 0) {
                return FROM_OUTSIDE;
            }
            if (last != giver) {
                return TWICE_FROM_ONE;
            }
            return (had >> taker & 1) != 0 ? COMES_BACK : -1;
        }
    }

    /** OWNERS of all PICKS under OPEN STANDINGS, two bits a PICK. */
    private static final class Owners {
        private static final int EACH_HAS_ITS_OWN = 0x924924;
        private final int[] rows = new int[STANDINGS];

        int at(int standing, int pick) {
            return rows[standing] >> (2 * pick) & 3;
        }

        void startAll(int first, int end) {
            for (int standing = first; standing < end; standing++) {
                rows[standing] = EACH_HAS_ITS_OWN;
            }
        }

        /** Each DEAL is taken where the CHAINS then end: DEALS settle one by one. */
        void settle(Deal deal, int first, int end) {
            if (deal == null) {
                return;
            }
            for (int standing = first; standing < end; standing++) {
                int given = deal.gives(standing);
                if (given >= 0) {
                    give(standing, given, deal.to);
                    if (deal.other >= 0) {
                        give(standing, deal.other, deal.from);
                    }
                }
            }
        }

        private void give(int standing, int pick, int club) {
            rows[standing] = rows[standing] & ~(3 << (2 * pick)) | club << (2 * pick);
        }
    }

    /** Who has each PICK while DEALS are gone over, and which PICKS have gone by which. */
    private static final class Rounds {
        private final int standing;
        private final int[] has = new int[PICKS];
        private int givenBy;
        private int gotBackBy;

        Rounds(int standing) {
            this.standing = standing;
            for (int pick = 0; pick < PICKS; pick++) {
                has[pick] = pick % CLUBS;
            }
        }

        boolean move(Deal deal, int k) {
            boolean went = false;
            int given = deal.gives(standing);
            if (given >= 0 && has[given] == deal.from && (givenBy >> k & 1) == 0) {
                has[given] = deal.to;
                givenBy |= 1 << k;
                went = true;
            }
            int gotBack = deal.getsBack(standing);
            if (gotBack >= 0 && has[gotBack] == deal.to && (gotBackBy >> k & 1) == 0) {
                has[gotBack] = deal.from;
                gotBackBy |= 1 << k;
                went = true;
            }
            return went;
        }
    }

    /** A row of numbers of a sort, or MISSING. */
    private static final class Sheet {
        final long[] numbers = new long[MOST_NUMBERS];
        int sort = NO_SORT;
        int length;

        boolean isMissing() {
            return sort == NO_SORT;
        }

        void become(int newSort, int n) {
            sort = newSort;
            length = n;
            for (int i = 0; i < n; i++) {
                numbers[i] = 0;
            }
        }

        void put(int i, long v) {
            switch (sort) {
                case SHORTS: numbers[i] = (short) v; break;
                case INTS: numbers[i] = (int) v; break;
                default: numbers[i] = v; break;
            }
        }

        boolean hasRun(int i, int n) {
            return i >= 0 && n >= 0 && i <= length && n <= length - i;
        }
    }

    /** A set of STANDINGS: those under which a CONDITION holds. */
    private static final class Standings {
        private static final int WORDS = 21;
        private final long[] words = new long[WORDS];

        boolean has(int standing) {
            return (words[standing >> 6] >> (standing & 63) & 1) != 0;
        }

        void becomeAhead(int pick, int rival) {
            for (int standing = 0; standing < STANDINGS; standing++) {
                set(standing, placeUnder(standing, pick) < placeUnder(standing, rival));
            }
        }

        void becomeAt(int pick, int place) {
            for (int standing = 0; standing < STANDINGS; standing++) {
                set(standing, placeUnder(standing, pick) == place);
            }
        }

        void becomeLapsed(Deal deal) {
            for (int standing = 0; standing < STANDINGS; standing++) {
                set(standing, deal.gives(standing) < 0);
            }
        }

        void clear() {
            for (int i = 0; i < WORDS; i++) {
                words[i] = 0;
            }
        }

        void turn() {
            for (int i = 0; i < WORDS; i++) {
                words[i] = ~words[i];
            }
        }

        void join(Standings that) {
            for (int i = 0; i < WORDS; i++) {
                words[i] |= that.words[i];
            }
        }

        void meet(Standings that) {
            for (int i = 0; i < WORDS; i++) {
                words[i] &= that.words[i];
            }
        }

        private void set(int standing, boolean in) {
            long bit = 1L << (standing & 63);
            int i = standing >> 6;
            words[i] = in ? words[i] | bit : words[i] & ~bit;
        }
    }

    /** THE TAPE, and the TOKEN of it that is looked at. */
    private static final class Tape {
        private final byte[] bytes = new byte[MOST_BYTES];
        int length;
        private int tokenAt;
        private int tokenEnd;

        void add(byte b) {
            if (length < MOST_BYTES) {
                bytes[length] = b;
                length++;
            }
        }

        void start() {
            tokenEnd = 0;
            step();
        }

        /** The place of the TOKEN's first byte, or how many bytes there are at the end. */
        int tokenPlace() {
            return tokenAt;
        }

        boolean isAtEnd() {
            return tokenAt >= length;
        }

        /** Goes on to the next TOKEN if this one is the one told. */
        boolean takes(String token) {
            if (tokenEnd - tokenAt != token.length()) {
                return false;
            }
            for (int i = 0; i < token.length(); i++) {
                if (bytes[tokenAt + i] != token.charAt(i)) {
                    return false;
                }
            }
            step();
            return true;
        }

        /** Goes on if this TOKEN is a NUMBER of that range (from 0 on), and not the one barred; else -1. */
        int takeNumber(int least, int most, int barred) {
            int v = isAtEnd() || !isDigit(bytes[tokenAt]) ? -1 : tokenNumber();
            if (v < least || v > most || v == barred) {
                return -1;
            }
            step();
            return v;
        }

        private int tokenNumber() {
            int v = 0;
            for (int i = tokenAt; i < tokenEnd; i++) {
                // 100 is too much wherever it stands; more could wrap round.
                v = Math.min(100, v * 10 + bytes[i] - '0');
            }
            return v;
        }

        private void step() {
            int at = tokenEnd;
            while (at < length && bytes[at] == ' ') {
                at++;
            }
            tokenAt = at;
            tokenEnd = at < length ? at + 1 : at;
            if (at < length && isLetter(bytes[at])) {
                while (tokenEnd < length && isLetter(bytes[tokenEnd])) {
                    tokenEnd++;
                }
            } else if (at < length && isDigit(bytes[at])) {
                while (tokenEnd < length && isDigit(bytes[tokenEnd])) {
                    tokenEnd++;
                }
            }
        }

        private static boolean isLetter(byte b) {
            return b >= 'a' && b <= 'z';
        }

        private static boolean isDigit(byte b) {
            return b >= '0' && b <= '9';
        }
    }

    /**
     * Reads a TEXT off THE TAPE. Where a TOKEN can't stand, it is left as the one that is looked
     * at: its place is the FAULT. CONDITIONS become sets of STANDINGS as they are read, since
     * no later deal, fall or drop changes under which STANDINGS they hold.
     */
    private static final class Reader {
        final Tape tape = new Tape();
        private final Deal[] came = new Deal[MOST_DEALS];
        private int cameCount;
        /** Two rows a depth: a T, and what comes behind an and of it. */
        private final Standings[] spare = new Standings[2 * (MOST_NESTED + 1)];

        Reader() {
            for (int i = 0; i < spare.length; i++) {
                spare[i] = new Standings();
            }
        }

        Deal cameAt(int i) {
            return isOutside(i, cameCount) ? null : came[i];
        }

        /** How many DEALS the TEXT tells, or -1 less the FAULT. */
        int readText(Book book) {
            cameCount = 0;
            tape.start();
            boolean more = true;
            for (int i = 0; i <= MOST_DEALS && more; i++) {
                if (!readItem(book)) {
                    return -1 - tape.tokenPlace();
                }
                more = tape.takes(";");
            }
            return tape.isAtEnd() ? cameCount : -1 - tape.tokenPlace();
        }

        private boolean readItem(Book book) {
            if (book.dealCount + cameCount >= MOST_DEALS || !tape.takes("from")) {
                return false;
            }
            int from = tape.takeNumber(0, CLUBS - 1, -1);
            if (from < 0 || !tape.takes("to")) {
                return false;
            }
            int to = tape.takeNumber(0, CLUBS - 1, from);
            if (to < 0 || !tape.takes("pick")) {
                return false;
            }
            int pick = tape.takeNumber(book.fallenYears * CLUBS, PICKS - 1, -1);
            if (pick < 0) {
                return false;
            }
            int kind = readKind();
            boolean hasOther = kind == SWAP || kind == CHOICE;
            int first = pick / CLUBS * CLUBS;
            int other = hasOther ? tape.takeNumber(first, first + CLUBS - 1, pick) : -1;
            if (hasOther && other < 0) {
                return false;
            }
            int n = kind == DEAL || kind == SWAP ? 0 : tape.takeNumber(1, MOST_N, -1);
            if (n < 0) {
                return false;
            }
            Standings condition = tape.takes("if") ? new Standings() : null;
            if (condition != null && !readAny(book, condition, 0)) {
                return false;
            }
            came[cameCount] = new Deal(kind, from, to, pick, other, n, condition);
            cameCount++;
            return true;
        }

        private int readKind() {
            if (tape.takes("guard")) {
                return GUARD;
            }
            if (tape.takes("tail")) {
                return TAIL;
            }
            if (tape.takes("roll")) {
                return ROLL;
            }
            if (tape.takes("swap")) {
                return SWAP;
            }
            return tape.takes("choice") ? CHOICE : DEAL;
        }

        /** E, with its Ts: of the parts between or one holds, all of whose parts between and do. */
        private boolean readAny(Book book, Standings into, int depth) {
            if (depth > MOST_NESTED) {
                return false;
            }
            Standings every = spare[2 * depth];
            Standings one = spare[2 * depth + 1];
            into.clear();
            boolean more = true;
            for (int i = 0; i < MOST_BYTES && more; i++) {
                if (!readOne(book, every, depth)) {
                    return false;
                }
                for (int j = 0; j < MOST_BYTES && tape.takes("and"); j++) {
                    if (!readOne(book, one, depth)) {
                        return false;
                    }
                    every.meet(one);
                }
                into.join(every);
                more = tape.takes("or");
            }
            return true;
        }

        /** F. At the greatest depth neither a not nor a ( is taken: it is the FAULT then. */
        private boolean readOne(Book book, Standings into, int depth) {
            if (depth < MOST_NESTED && tape.takes("not")) {
                boolean read = readOne(book, into, depth + 1);
                into.turn();
                return read;
            }
            if (depth < MOST_NESTED && tape.takes("(")) {
                return readAny(book, into, depth + 1) && tape.takes(")");
            }
            if (tape.takes("lapsed")) {
                Deal deal = dealByThen(book, tape.takeNumber(0, book.dealCount + cameCount - 1, -1));
                if (deal != null) {
                    into.becomeLapsed(deal);
                }
                return deal != null;
            }
            boolean ahead = tape.takes("ahead");
            if (!ahead && !tape.takes("at")) {
                return false;
            }
            int year = tape.takeNumber(0, YEARS - 1, -1);
            int club = year < 0 ? -1 : tape.takeNumber(0, CLUBS - 1, -1);
            // Behind at it is a place, and there are as many of these as CLUBS.
            int last = club < 0 ? -1 : tape.takeNumber(0, CLUBS - 1, ahead ? club : -1);
            if (last < 0) {
                return false;
            }
            int pick = year * CLUBS + club;
            if (ahead) {
                into.becomeAhead(pick, year * CLUBS + last);
            } else {
                into.becomeAt(pick, last);
            }
            return true;
        }

        private Deal dealByThen(Book book, int k) {
            return k < book.dealCount ? book.dealAt(k) : cameAt(k - book.dealCount);
        }
    }
}
