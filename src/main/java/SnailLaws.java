import java.util.Arrays;

/** A republic in which an edict is in force wherever the snail has been that bears it. */
public final class SnailLaws {
    private static final int LOW = -1000001;
    private static final int BEYOND = LOW;
    private static final int FULL = LOW - 1;
    private static final int KIND = LOW - 2;
    private static final int NONE = LOW - 3;
    private static final int STATE = LOW - 4;
    private static final int MISSING = LOW - 5;
    private static final int SIZE = LOW - 6;
    private static final int FINDINGS = 7;

    private static final int SIDE = 9;
    private static final int CELLS = SIDE * SIDE;
    private static final int NO_WAY = 99;
    private static final int MOST_GREENS = 9;
    private static final int MOST_WET = 9;
    private static final int MOST_THRUSH = 20;
    private static final int THRUSH_ROLLS = 20;
    private static final int MOST_DAY = 99999;
    private static final int MOST_CLASHES = 99999;

    private static final int LAWS = 8;
    private static final int NO_LAW = -1;
    private static final int DEEDS = 8;
    private static final int ALL_DEEDS = 255;

    private static final int MOST_SNAILS = 8;
    private static final int ALL_SNAILS = 255;
    private static final int MOST_PRICE = 99;
    private static final int SPOTS = 10;
    private static final int NOTHING = -1;

    private static final int SNAIL = 0;
    private static final int GREEDY = 1;
    private static final int SLOW = 2;
    private static final int SLEEPY = 3;
    private static final int ELDER = 4;
    private static final int BORNE = 5;
    private static final int GLUTTON = 6;
    private static final int KINDS = 7;
    /** The KIND right above each KIND; none above SNAIL. */
    private static final int[] KIND_ABOVE = {-1, SNAIL, SNAIL, SLOW, SLEEPY, SNAIL, GREEDY};

    /** The greatest KIND, AT, LAW, GATE and PRICE, in the order of change(). */
    private static final int[] MOST_OF_TRAIT =
        {KINDS - 1, CELLS - 1, LAWS - 1, CELLS - 1, MOST_PRICE};

    private static final int MOST_GO = 40;
    private static final int MOST_AHEAD = 100;
    private static final int NEVER = MOST_AHEAD + 1;
    private static final int MOST_THRUSH_DAYS = 20;
    private static final int MOST_ALONE = 14;

    private static final int TAPE_BYTES = 120;
    private static final int SHEETS = 4;
    private static final int SHEET_NUMBERS = 40;
    private static final int ANYWHERE = -1;

    private final Republic real = new Republic();
    private final Republic kept = new Republic();
    private final Forecast forecast = new Forecast();
    private final Ways ways = new Ways();
    private final Tape tape = new Tape();
    private final Sheets sheets = new Sheets();
    private final int[] told = new int[FINDINGS];
    private boolean isKept = false;

    public SnailLaws() {
    }

    // ---- the land, snails, laws

    public int hedge(int cell, int is) {
        if (!isCell(cell) || !isWithin(is, 1)) {
            return tell(BEYOND);
        }
        int was = real.hedges[cell];
        real.hedges[cell] = is;
        return was == is ? 0 : 1;
    }

    public int greens(int cell, int v) {
        if (!isCell(cell) || !isWithin(v, MOST_GREENS)) {
            return tell(BEYOND);
        }
        int was = real.leaves[cell];
        real.leaves[cell] = v;
        return was;
    }

    public int land(int cell, int what) {
        if (!isCell(cell)) {
            return tell(BEYOND);
        }
        switch (what) {
            case 0: return real.hedges[cell];
            case 1: return real.leaves[cell];
            case 2: return real.laws[cell];
            default: return tell(BEYOND);
        }
    }

    public int far(int a, int b) {
        if (!isCell(a) || !isCell(b)) {
            return tell(BEYOND);
        }
        ways.openLand(real);
        ways.measure(b);
        return ways.steps[a];
    }

    public int snail(int kind, int cell) {
        if (!isWithin(kind, KINDS - 1) || !isCell(cell)) {
            return tell(BEYOND);
        }
        int number = real.addSnail(kind, cell);
        return number < 0 ? tell(FULL) : number;
    }

    public int of(int snail, int what) {
        if (!isSnail(snail) || !isWithin(what, 6)) {
            return tell(BEYOND);
        }
        if (what == 5) {
            return real.movesOf(snail);
        }
        if (what == 6) {
            ways.openLand(real);
            ways.measure(real.gates[snail]);
            return ways.steps[real.ats[snail]];
        }
        return real.traitRow(what)[snail];
    }

    public int change(int snail, int what, int v) {
        if (!isSnail(snail) || !isWithin(what, MOST_OF_TRAIT.length - 1)
                || !isWithin(v, MOST_OF_TRAIT[what])) {
            return tell(BEYOND);
        }
        int[] row = real.traitRow(what);
        int was = row[snail];
        row[snail] = v;
        return was;
    }

    public int bans(int law, int set) {
        if (!isLaw(law) || !isWithin(set, ALL_DEEDS)) {
            return tell(BEYOND);
        }
        int was = real.banned[law];
        real.banned[law] = set;
        return was;
    }

    public int set(int what, int v) {
        if (what == 0 && isWithin(v, MOST_WET)) {
            int was = real.wet;
            real.wet = v;
            return was;
        }
        if (what == 1 && isWithin(v, MOST_THRUSH)) {
            int was = real.thrush;
            real.thrush = v;
            return was;
        }
        return tell(BEYOND);
    }

    // ---- days

    public int go(int n) {
        if (n < 1 || n > MOST_GO) {
            return tell(BEYOND);
        }
        if (real.day + n > MOST_DAY) {
            return tell(STATE);
        }
        ways.survey(real);
        real.passDays(ways, ALL_SNAILS, n);
        return real.clashes;
    }

    public int now(int what) {
        switch (what) {
            case 0: return real.day;
            case 1: return real.clashes;
            case 2: return real.cellsWithLaw();
            case 3: return real.allLeaves();
            case 4: return real.wet;
            case 5: return real.arrivedSnails();
            default: return tell(BEYOND);
        }
    }

    public int realm(int law) {
        if (!isLaw(law)) {
            return tell(BEYOND);
        }
        return real.cellsUnder(law);
    }

    public int repeals() {
        int were = real.cellsWithLaw();
        Arrays.fill(real.laws, NO_LAW);
        return were;
    }

    // ---- deeds (nothing changes)

    public int may(int cell, int deed) {
        if (!isCell(cell) || !isDeed(deed)) {
            return tell(BEYOND);
        }
        return real.isLawful(cell, deed) ? 1 : 0;
    }

    public int where(int deed) {
        if (!isDeed(deed)) {
            return tell(BEYOND);
        }
        return real.openCellsFor(deed);
    }

    public int route(int a, int b, int deed) {
        if (!isCell(a) || !isCell(b) || !isDeed(deed)) {
            return tell(BEYOND);
        }
        ways.openFor(real, deed);
        ways.measure(b);
        return ways.steps[a] == NO_WAY ? tell(NONE) : ways.steps[a];
    }

    public int free() {
        return real.freeDeeds();
    }

    // ---- what will be (nothing changes)

    public int ahead(int snail, int n) {
        if (!isSnail(snail) || !isWithin(n, MOST_AHEAD)) {
            return tell(BEYOND);
        }
        return forecast.behind(real, n).ats[snail];
    }

    public int lawAt(int cell, int n) {
        if (!isCell(cell) || !isWithin(n, MOST_AHEAD)) {
            return tell(BEYOND);
        }
        return forecast.behind(real, n).laws[cell];
    }

    public int reaches(int law, int cell) {
        if (!isLaw(law) || !isCell(cell)) {
            return tell(BEYOND);
        }
        int days = forecast.daysToLaw(real, law, cell, real.wet);
        return days == NEVER ? tell(NONE) : days;
    }

    public int wetFor(int law, int cell) {
        if (!isLaw(law) || !isCell(cell)) {
            return tell(BEYOND);
        }
        int best = NONE;
        int fewest = NEVER;
        for (int wet = 0; wet <= MOST_WET; wet++) {
            int days = forecast.daysToLaw(real, law, cell, wet);
            if (days < fewest) {
                fewest = days;
                best = wet;
            }
        }
        return best == NONE ? tell(NONE) : best;
    }

    public int comes(int snail) {
        if (!isSnail(snail)) {
            return tell(BEYOND);
        }
        int days = forecast.daysToGate(real, snail, real.kinds[snail]);
        return days == NEVER ? tell(NONE) : days;
    }

    public int kindFor(int snail) {
        if (!isSnail(snail)) {
            return tell(BEYOND);
        }
        int best = NONE;
        int fewest = NEVER;
        for (int kind = 0; kind < KINDS; kind++) {
            int days = forecast.daysToGate(real, snail, kind);
            if (days < fewest) {
                fewest = days;
                best = kind;
            }
        }
        return best == NONE ? tell(NONE) : best;
    }

    public int overtakes(int a, int b) {
        if (!isSnail(a) || !isSnail(b) || a == b) {
            return tell(BEYOND);
        }
        int days = forecast.daysToOvertake(real, a, b);
        return days == NEVER ? tell(NONE) : days;
    }

    public int lag(int law, int other, int cell) {
        if (!isLaw(law) || !isLaw(other) || !isCell(cell)) {
            return tell(BEYOND);
        }
        int days = forecast.daysToLaw(real, law, cell, real.wet);
        int otherDays = forecast.daysToLaw(real, other, cell, real.wet);
        return days == NEVER || otherDays == NEVER ? tell(NONE) : days - otherDays;
    }

    public int clash(int n) {
        if (!isWithin(n, MOST_GO)) {
            return tell(BEYOND);
        }
        int cell = forecast.cellOfMostClashes(real, n);
        return cell == NONE ? tell(NONE) : cell;
    }

    // ---- releases

    public int release(int law, int cell, int n) {
        if (!isLaw(law) || !isCell(cell) || !isWithin(n, MOST_GO)) {
            return tell(BEYOND);
        }
        int set = forecast.cheapestSet(real, law, cell, n);
        return set == NONE ? tell(NONE) : set;
    }

    public int costs(int law, int cell, int n) {
        if (!isLaw(law) || !isCell(cell) || !isWithin(n, MOST_GO)) {
            return tell(BEYOND);
        }
        int set = forecast.cheapestSet(real, law, cell, n);
        return set == NONE ? tell(NONE) : real.priceOf(set);
    }

    public int farthest(int snail, int n) {
        if (!isSnail(snail) || !isWithin(n, MOST_GO)) {
            return tell(BEYOND);
        }
        if (real.hedges[real.gates[snail]] == 1) {
            return tell(NONE);
        }
        return forecast.farthestStart(real, snail, n);
    }

    // ---- trails

    public int fits(int s, int snail) {
        int flaw = trailFlaw(s, snail);
        if (flaw != 0) {
            return tell(flaw);
        }
        forecast.survey(real);
        int starts = 0;
        for (int cell = 0; cell < CELLS; cell++) {
            if (forecast.leavesTrail(real, snail, cell, sheets, s)) {
                starts++;
            }
        }
        return starts;
    }

    public int began(int s, int snail) {
        int flaw = trailFlaw(s, snail);
        if (flaw != 0) {
            return tell(flaw);
        }
        forecast.survey(real);
        for (int cell = 0; cell < CELLS; cell++) {
            if (forecast.leavesTrail(real, snail, cell, sheets, s)) {
                return cell;
            }
        }
        return tell(NONE);
    }

    // ---- thrushes

    public int thrushes(int n) {
        if (n < 1 || n > MOST_THRUSH_DAYS) {
            return tell(BEYOND);
        }
        if (real.day + n > MOST_DAY) {
            return tell(STATE);
        }
        ways.survey(real);
        int caught = 0;
        for (int d = 0; d < n; d++) {
            caught += real.drawThrushes();
            real.passDays(ways, ALL_SNAILS, 1);
        }
        return caught;
    }

    public long alone(int n, int what) {
        if (!isWithin(n, MOST_ALONE) || !isWithin(what, 1)) {
            return tell(BEYOND);
        }
        int spared = THRUSH_ROLLS - real.thrush;
        int part = commonDivisor(spared);
        int term = (what == 0 ? spared : THRUSH_ROLLS) / part;
        long power = 1;
        for (int d = 0; d < n; d++) {
            power *= term;
        }
        return power;
    }

    public int seed(int v) {
        int was = real.z;
        real.z = v;
        return was;
    }

    // ---- texts

    public int feed(int bytes, int n) {
        if (n < 1 || n > 4) {
            return tell(BEYOND);
        }
        return tape.append(bytes, n) ? tape.size : tell(FULL);
    }

    public int wipe() {
        int had = tape.size;
        tape.size = 0;
        return had;
    }

    public int text() {
        int items = tape.readInto(forecast.draftOf(real));
        if (items > 0) {
            real.become(forecast.draft);
        }
        tape.size = 0;
        return items;
    }

    // ---- spots, sheets

    public int hold(int spot, int snail) {
        if (!isWithin(spot, SPOTS - 1) || (snail != NOTHING && !isSnail(snail))) {
            return tell(BEYOND);
        }
        real.spots[spot] = snail;
        return 1;
    }

    public int as(int spot, int kind) {
        if (!isWithin(spot, SPOTS - 1) || !isWithin(kind, KINDS - 1)) {
            return tell(BEYOND);
        }
        int snail = real.spots[spot];
        if (!isSnail(snail)) {
            return tell(MISSING);
        }
        return isOfKind(real.kinds[snail], kind) ? snail : tell(KIND);
    }

    public int sheet(int s, int bits, int n) {
        if (!isSheet(s) || !isBits(bits)) {
            return tell(BEYOND);
        }
        if (n < 0) {
            return tell(SIZE);
        }
        if (n > SHEET_NUMBERS) {
            return tell(BEYOND);
        }
        sheets.lay(s, bits, n);
        return sheets.sizes[s];
    }

    public int write(int s, int i, int v) {
        int flaw = sheetFlaw(s);
        if (flaw != 0) {
            return tell(flaw);
        }
        if (i < 0 || i >= sheets.sizes[s]) {
            return tell(BEYOND);
        }
        sheets.put(s, i, v);
        return 1;
    }

    public int copy(int s, int from, int t, int to, int n) {
        if (!isSheet(s) || !isSheet(t)) {
            return tell(BEYOND);
        }
        if (sheets.isMissing(s) || sheets.isMissing(t)) {
            return tell(MISSING);
        }
        if (sheets.bits[s] != sheets.bits[t]) {
            return tell(KIND);
        }
        if (!sheets.hasRun(s, from, n) || !sheets.hasRun(t, to, n)) {
            return tell(BEYOND);
        }
        sheets.carry(s, from, t, to, n);
        return n;
    }

    public int load(int s) {
        int flaw = sheetFlaw(s);
        if (flaw != 0) {
            return tell(flaw);
        }
        int came = 0;
        while (came < sheets.sizes[s] && isWithin(sheets.numberAt(s, came), MOST_GREENS)) {
            real.leaves[came] = sheets.numberAt(s, came);
            came++;
        }
        return came;
    }

    public int judge(int s) {
        int flaw = sheetFlaw(s);
        if (flaw != 0) {
            return tell(flaw);
        }
        for (int cell = 0; cell < sheets.sizes[s]; cell++) {
            if (sheets.numberAt(s, cell) != real.laws[cell]) {
                return 1 + cell;
            }
        }
        return 0;
    }

    // ---- images

    public int image() {
        kept.become(real);
        isKept = true;
        return 1;
    }

    public int undo() {
        if (!isKept) {
            return tell(NONE);
        }
        real.become(kept);
        return real.day;
    }

    public int tear() {
        int was = isKept ? 1 : 0;
        isKept = false;
        return was;
    }

    public int count(int what) {
        switch (what) {
            case 0: return real.day;
            case 1: return real.snails;
            case 2: return real.allHedges();
            case 3: return real.clashes;
            case 4: return real.cellsWithLaw();
            case 5: return tape.size;
            case 6: return real.z;
            case 7: return real.heldSpots();
            default: return tell(BEYOND);
        }
    }

    public int status(int which) {
        if (which < -1 || which >= FINDINGS) {
            return tell(BEYOND);
        }
        if (which >= 0) {
            return told[which];
        }
        int all = 0;
        for (int f = 0; f < FINDINGS; f++) {
            all += told[f];
        }
        return all;
    }

    // ---- what is asked of arguments

    /** Every finding is answered through here, so that status() misses none. */
    private int tell(int finding) {
        int which = LOW - finding;
        if (isWithin(which, FINDINGS - 1)) {
            told[which]++;
        }
        return finding;
    }

    /** The finding that a sheet's number alone gives, or 0. */
    private int sheetFlaw(int s) {
        if (!isSheet(s)) {
            return BEYOND;
        }
        return sheets.isMissing(s) ? MISSING : 0;
    }

    /** The finding that a sheet and a SNAIL give, or 0. */
    private int trailFlaw(int s, int snail) {
        int flaw = sheetFlaw(s);
        if (flaw != 0) {
            return flaw;
        }
        return isSnail(snail) ? 0 : BEYOND;
    }

    private boolean isSnail(int snail) {
        return snail >= 0 && snail < real.snails;
    }

    private static boolean isWithin(int v, int most) {
        return v >= 0 && v <= most;
    }

    private static boolean isCell(int cell) {
        return isWithin(cell, CELLS - 1);
    }

    private static boolean isLaw(int law) {
        return isWithin(law, LAWS - 1);
    }

    private static boolean isDeed(int deed) {
        return isWithin(deed, DEEDS - 1);
    }

    private static boolean isSheet(int s) {
        return isWithin(s, SHEETS - 1);
    }

    private static boolean isBits(int bits) {
        return bits == 0 || bits == 8 || bits == 16 || bits == 32;
    }

    /** Whether one KIND is another or stands under it. */
    private static boolean isOfKind(int kind, int above) {
        int k = kind;
        for (int level = 0; level < KINDS && isWithin(k, KINDS - 1); level++) {
            if (k == above) {
                return true;
            }
            k = KIND_ABOVE[k];
        }
        return false;
    }

    /** The greatest number that parts both n and THRUSH_ROLLS; never below 1. */
    private static int commonDivisor(int n) {
        int greatest = 1;
        for (int d = 2; d <= THRUSH_ROLLS; d++) {
            if (n % d == 0 && THRUSH_ROLLS % d == 0) {
                greatest = d;
            }
        }
        return greatest;
    }

    /** The CELL above (side 0), right (1), below (2) or left (3) of one, or -1. */
    private static int beside(int cell, int side) {
        switch (side) {
            case 0: return cell >= SIDE ? cell - SIDE : -1;
            case 1: return cell % SIDE < SIDE - 1 ? cell + 1 : -1;
            case 2: return cell < CELLS - SIDE ? cell + SIDE : -1;
            default: return cell % SIDE > 0 ? cell - 1 : -1;
        }
    }

    /** All that an image keeps: the land, the SNAILS, the SPOTS and the draws. */
    private static final class Republic {
        final int[] hedges = new int[CELLS];
        final int[] leaves = new int[CELLS];
        final int[] laws = new int[CELLS];
        /** How often LAWS met at each CELL; only a forecast, which clears it, reads it. */
        final int[] met = new int[CELLS];
        final int[] banned = new int[LAWS];
        final int[] kinds = new int[MOST_SNAILS];
        final int[] ats = new int[MOST_SNAILS];
        final int[] edicts = new int[MOST_SNAILS];
        final int[] gates = new int[MOST_SNAILS];
        final int[] prices = new int[MOST_SNAILS];
        final int[] spots = new int[SPOTS];
        int snails = 0;
        int wet = 5;
        int thrush = 1;
        int day = 0;
        int clashes = 0;
        int z = 1;

        Republic() {
            Arrays.fill(laws, NO_LAW);
            Arrays.fill(spots, NOTHING);
        }

        void become(Republic other) {
            System.arraycopy(other.hedges, 0, hedges, 0, CELLS);
            System.arraycopy(other.leaves, 0, leaves, 0, CELLS);
            System.arraycopy(other.laws, 0, laws, 0, CELLS);
            System.arraycopy(other.banned, 0, banned, 0, LAWS);
            System.arraycopy(other.kinds, 0, kinds, 0, MOST_SNAILS);
            System.arraycopy(other.ats, 0, ats, 0, MOST_SNAILS);
            System.arraycopy(other.edicts, 0, edicts, 0, MOST_SNAILS);
            System.arraycopy(other.gates, 0, gates, 0, MOST_SNAILS);
            System.arraycopy(other.prices, 0, prices, 0, MOST_SNAILS);
            System.arraycopy(other.spots, 0, spots, 0, SPOTS);
            snails = other.snails;
            wet = other.wet;
            thrush = other.thrush;
            day = other.day;
            clashes = other.clashes;
            z = other.z;
        }

        /** A new SNAIL's number; -1, if there are as many as can be. */
        int addSnail(int kind, int cell) {
            if (snails >= MOST_SNAILS) {
                return -1;
            }
            int number = snails;
            kinds[number] = kind;
            ats[number] = cell;
            edicts[number] = 0;
            gates[number] = CELLS - 1;
            prices[number] = 1;
            snails++;
            return number;
        }

        /** The row of KINDS (what 0), CELLS (1), LAWS (2), GATES (3) or PRICES. */
        int[] traitRow(int what) {
            switch (what) {
                case 0: return kinds;
                case 1: return ats;
                case 2: return edicts;
                case 3: return gates;
                default: return prices;
            }
        }

        int movesOf(int snail) {
            int plain = wet / 5 + 1;
            int grazing = leaves[ats[snail]] > 0 ? 0 : plain;
            int waking = day % 2 == 0 ? plain - 1 : 0;
            switch (kinds[snail]) {
                case GREEDY: return grazing;
                case GLUTTON: return 2 * grazing;
                case SLOW: return plain - 1;
                case SLEEPY: return waking;
                case ELDER: return waking + (day % 5 == 0 ? 1 : 0);
                case BORNE: return 3;
                default: return plain;
            }
        }

        /** Days go by for the SNAILS of a set, as if there were no others. */
        void passDays(Ways ways, int set, int n) {
            for (int d = 0; d < n; d++) {
                for (int snail = 0; snail < snails; snail++) {
                    if ((set >> snail & 1) == 1) {
                        passDayOf(snail, ways);
                    }
                }
                day++;
            }
        }

        private void passDayOf(int snail, Ways ways) {
            int law = edicts[snail];
            int cell = ats[snail];
            int moves = movesOf(snail);
            comeUnder(cell, law);
            for (int m = 0; m < moves; m++) {
                int next = ways.nextOf(snail, cell);
                if (next == cell) {
                    break;
                }
                cell = next;
                comeUnder(cell, law);
            }
            ats[snail] = cell;
            if (leaves[cell] > 0 && isOfKind(kinds[snail], GREEDY)) {
                leaves[cell]--;
            }
        }

        private void comeUnder(int cell, int law) {
            if (laws[cell] != NO_LAW && laws[cell] != law) {
                met[cell]++;
                clashes = Math.min(clashes + 1, MOST_CLASHES);
            }
            laws[cell] = law;
        }

        /** A draw for each SNAIL, ahead of a DAY: how many thrushes carry to CELL 0. */
        int drawThrushes() {
            int caught = 0;
            for (int snail = 0; snail < snails; snail++) {
                z = z * 1103515245 + 12345;
                if ((z >>> 8) % THRUSH_ROLLS < thrush) {
                    ats[snail] = 0;
                    caught++;
                }
            }
            return caught;
        }

        boolean isLawful(int cell, int deed) {
            int law = laws[cell];
            return law == NO_LAW || (banned[law] >> deed & 1) == 0;
        }

        int openCellsFor(int deed) {
            int cells = 0;
            for (int cell = 0; cell < CELLS; cell++) {
                if (hedges[cell] == 0 && isLawful(cell, deed)) {
                    cells++;
                }
            }
            return cells;
        }

        int freeDeeds() {
            int deeds = ALL_DEEDS;
            for (int cell = 0; cell < CELLS; cell++) {
                if (hedges[cell] == 0 && laws[cell] != NO_LAW) {
                    deeds &= ~banned[laws[cell]];
                }
            }
            return deeds;
        }

        int cellsUnder(int law) {
            int cells = 0;
            for (int cell = 0; cell < CELLS; cell++) {
                if (laws[cell] == law) {
                    cells++;
                }
            }
            return cells;
        }

        int cellsWithLaw() {
            return CELLS - cellsUnder(NO_LAW);
        }

        int allLeaves() {
            return sumOf(leaves);
        }

        int allHedges() {
            return sumOf(hedges);
        }

        private static int sumOf(int[] row) {
            int sum = 0;
            for (int v : row) {
                sum += v;
            }
            return sum;
        }

        int arrivedSnails() {
            int set = 0;
            for (int snail = 0; snail < snails; snail++) {
                if (ats[snail] == gates[snail]) {
                    set |= 1 << snail;
                }
            }
            return set;
        }

        int heldSpots() {
            int held = 0;
            for (int spot = 0; spot < SPOTS; spot++) {
                if (spots[spot] != NOTHING) {
                    held++;
                }
            }
            return held;
        }

        int priceOf(int set) {
            int sum = 0;
            for (int snail = 0; snail < snails; snail++) {
                if ((set >> snail & 1) == 1) {
                    sum += prices[snail];
                }
            }
            return sum;
        }
    }

    /** How far CELLS are from a goal, and where each SNAIL crawls next. */
    private static final class Ways {
        /** The fewest steps from each CELL to the goal that was measured last. */
        final int[] steps = new int[CELLS];
        private final boolean[] open = new boolean[CELLS];
        private final int[] queue = new int[CELLS];
        private final int[] gateSteps = new int[MOST_SNAILS * CELLS];
        private final int[] nextCells = new int[MOST_SNAILS * CELLS];

        void openLand(Republic r) {
            for (int cell = 0; cell < CELLS; cell++) {
                open[cell] = r.hedges[cell] == 0;
            }
        }

        void openFor(Republic r, int deed) {
            for (int cell = 0; cell < CELLS; cell++) {
                open[cell] = r.hedges[cell] == 0 && r.isLawful(cell, deed);
            }
        }

        void measure(int goal) {
            Arrays.fill(steps, NO_WAY);
            if (!open[goal]) {
                return;
            }
            steps[goal] = 0;
            queue[0] = goal;
            int filled = 1;
            for (int taken = 0; taken < filled && taken < CELLS; taken++) {
                filled = spreadFrom(queue[taken], filled);
            }
        }

        /** Puts the CELLS BESIDE one that are new behind the queue: how long that is then. */
        private int spreadFrom(int cell, int filled) {
            int end = filled;
            for (int side = 0; side < 4; side++) {
                int next = beside(cell, side);
                if (next >= 0 && open[next] && steps[next] == NO_WAY && end < CELLS) {
                    steps[next] = steps[cell] + 1;
                    queue[end] = next;
                    end++;
                }
            }
            return end;
        }

        /** Hedges and GATES don't change as days go by, so one survey serves many days. */
        void survey(Republic r) {
            openLand(r);
            for (int snail = 0; snail < r.snails; snail++) {
                measure(r.gates[snail]);
                for (int cell = 0; cell < CELLS; cell++) {
                    gateSteps[snail * CELLS + cell] = steps[cell];
                    nextCells[snail * CELLS + cell] = nearerThan(cell);
                }
            }
        }

        private int nearerThan(int cell) {
            if (!open[cell]) {
                return cell;
            }
            for (int side = 0; side < 4; side++) {
                int next = beside(cell, side);
                if (next >= 0 && steps[next] < steps[cell]) {
                    return next;
                }
            }
            return cell;
        }

        /** How far a CELL is from the GATE of a SNAIL, by the last survey. */
        int gateStepsOf(int snail, int cell) {
            return gateSteps[snail * CELLS + cell];
        }

        /** Where a SNAIL that is AT a CELL moves, by the last survey; the CELL itself if it stays. */
        int nextOf(int snail, int cell) {
            return nextCells[snail * CELLS + cell];
        }
    }

    /** Tries out, on a draft of the republic, what days will bring. */
    private static final class Forecast {
        final Republic draft = new Republic();
        private final Ways ways = new Ways();

        Republic draftOf(Republic real) {
            draft.become(real);
            return draft;
        }

        void survey(Republic real) {
            ways.survey(real);
        }

        /** The republic as it is behind n DAYS. */
        Republic behind(Republic real, int n) {
            draft.become(real);
            survey(real);
            draft.passDays(ways, ALL_SNAILS, n);
            return draft;
        }

        private void passDay() {
            draft.passDays(ways, ALL_SNAILS, 1);
        }

        int daysToLaw(Republic real, int law, int cell, int wet) {
            draft.become(real);
            draft.wet = wet;
            survey(real);
            int days = 0;
            while (days < NEVER && draft.laws[cell] != law) {
                passDay();
                days++;
            }
            return days;
        }

        int daysToGate(Republic real, int snail, int kind) {
            draft.become(real);
            draft.kinds[snail] = kind;
            survey(real);
            int days = 0;
            while (days < NEVER && draft.ats[snail] != draft.gates[snail]) {
                passDay();
                days++;
            }
            return days;
        }

        int daysToOvertake(Republic real, int a, int b) {
            draft.become(real);
            survey(real);
            int days = 0;
            while (days < NEVER && !isNearer(a, b)) {
                passDay();
                days++;
            }
            return days;
        }

        private boolean isNearer(int a, int b) {
            return ways.gateStepsOf(b, draft.ats[a]) < ways.gateStepsOf(b, draft.ats[b]);
        }

        int cellOfMostClashes(Republic real, int n) {
            Arrays.fill(draft.met, 0);
            behind(real, n);
            int best = NONE;
            int most = 0;
            for (int cell = 0; cell < CELLS; cell++) {
                if (draft.met[cell] > most) {
                    most = draft.met[cell];
                    best = cell;
                }
            }
            return best;
        }

        /** Sets go upward and only a cheaper one counts, so the least of equals stays. */
        int cheapestSet(Republic real, int law, int cell, int n) {
            survey(real);
            int best = NONE;
            int least = MOST_SNAILS * MOST_PRICE + 1;
            int sets = 1 << real.snails;
            for (int set = 0; set < sets; set++) {
                int price = real.priceOf(set);
                if (price < least && bringsLaw(real, set, law, cell, n)) {
                    best = set;
                    least = price;
                }
            }
            return best;
        }

        private boolean bringsLaw(Republic real, int set, int law, int cell, int n) {
            if (real.laws[cell] != law && !bearsLaw(real, set, law)) {
                return false;
            }
            draft.become(real);
            draft.passDays(ways, set, n);
            return draft.laws[cell] == law;
        }

        private boolean bearsLaw(Republic real, int set, int law) {
            for (int snail = 0; snail < real.snails; snail++) {
                if ((set >> snail & 1) == 1 && real.edicts[snail] == law) {
                    return true;
                }
            }
            return false;
        }

        /** Where the GATE is no HEDGE: it itself is far enough for any n. */
        int farthestStart(Republic real, int snail, int n) {
            survey(real);
            int best = real.gates[snail];
            int most = 0;
            for (int cell = 0; cell < CELLS; cell++) {
                int steps = ways.gateStepsOf(snail, cell);
                if (steps > most && steps < NO_WAY && arrivesFrom(real, snail, cell, n)) {
                    most = steps;
                    best = cell;
                }
            }
            return best;
        }

        private boolean arrivesFrom(Republic real, int snail, int cell, int n) {
            draft.become(real);
            draft.ats[snail] = cell;
            for (int d = 0; d < n && draft.ats[snail] != draft.gates[snail]; d++) {
                passDay();
            }
            return draft.ats[snail] == draft.gates[snail];
        }

        /** Whether a SNAIL that is AT a CELL now will be where a sheet tells; asks for a survey. */
        boolean leavesTrail(Republic real, int snail, int cell, Sheets sheets, int s) {
            draft.become(real);
            draft.ats[snail] = cell;
            for (int i = 0; i < sheets.sizes[s]; i++) {
                if (i > 0) {
                    passDay();
                }
                int told = sheets.numberAt(s, i);
                if (told != ANYWHERE && told != draft.ats[snail]) {
                    return false;
                }
            }
            return true;
        }
    }

    /** THE TAPE, and how it is read as a TEXT. */
    private static final class Tape {
        private static final int END = 0;
        private static final int WORD = 1;
        private static final int NUMBER = 2;
        private static final int SIGN = 3;
        private static final int STRANGE = 4;
        /** Stands for every NUMBER above 999, of however many digits. */
        private static final int TOO_GREAT = 1000;

        int size = 0;
        private final int[] bytes = new int[TAPE_BYTES];
        /** The TOKENS; behind the last one stands END, at the place size. */
        private final int[] sorts = new int[TAPE_BYTES + 1];
        private final int[] starts = new int[TAPE_BYTES + 1];
        private final int[] ends = new int[TAPE_BYTES + 1];
        private final int[] values = new int[TAPE_BYTES + 1];
        /** The TOKEN that is read now; END is never passed. */
        private int at = 0;

        /** Whether there is room for the n lowest bytes of a number, which come then. */
        boolean append(int number, int n) {
            if (size + n > TAPE_BYTES) {
                return false;
            }
            for (int i = n - 1; i >= 0; i--) {
                bytes[size] = number >> 8 * i & 255;
                size++;
            }
            return true;
        }

        /** How many ITEMS were read into a draft, or -1 less the FAULT. */
        int readInto(Republic draft) {
            cutTokens();
            at = 0;
            for (int items = 1; items <= TAPE_BYTES; items++) {
                if (!readItem(draft)) {
                    return -1 - starts[at];
                }
                if (sorts[at] == END) {
                    return items;
                }
                if (sorts[at] != SIGN) {
                    return -1 - starts[at];
                }
                at++;
            }
            return -1 - starts[at];
        }

        private void cutTokens() {
            int tokens = 0;
            int behind = 0;
            for (int place = 0; place < size; place++) {
                if (place >= behind && bytes[place] != ' ') {
                    behind = cutToken(tokens, place);
                    tokens++;
                }
            }
            sorts[tokens] = END;
            starts[tokens] = size;
            ends[tokens] = size;
        }

        /** Cuts the TOKEN that starts at a place, and answers the place behind it. */
        private int cutToken(int token, int start) {
            int sort = sortOf(bytes[start]);
            boolean isLong = sort == WORD || sort == NUMBER;
            int end = start + 1;
            while (isLong && end < size && sortOf(bytes[end]) == sort) {
                end++;
            }
            sorts[token] = sort;
            starts[token] = start;
            ends[token] = end;
            values[token] = sort == NUMBER ? valueOf(start, end) : 0;
            return end;
        }

        private static int sortOf(int b) {
            if (b >= 'a' && b <= 'z') {
                return WORD;
            }
            if (b >= '0' && b <= '9') {
                return NUMBER;
            }
            return b == ';' ? SIGN : STRANGE;
        }

        private int valueOf(int start, int end) {
            int value = 0;
            for (int i = start; i < end; i++) {
                value = Math.min(value * 10 + bytes[i] - '0', TOO_GREAT);
            }
            return value;
        }

        /** Whether an ITEM was read; else the TOKEN that is read now can't stand there. */
        private boolean readItem(Republic draft) {
            int kind = kindNamed();
            if (kind >= 0) {
                return readSnail(draft, kind);
            }
            if (skipWord("hedge")) {
                return readHedge(draft);
            }
            if (skipWord("greens")) {
                return readGreens(draft);
            }
            if (skipWord("bans")) {
                return readBans(draft);
            }
            if (skipWord("wet")) {
                return readWet(draft);
            }
            return skipWord("thrush") && readThrush(draft);
        }

        /** The KIND whose WORD is read now, or -1. */
        private int kindNamed() {
            if (isWord("snail")) {
                return SNAIL;
            }
            if (isWord("greedy")) {
                return GREEDY;
            }
            if (isWord("slow")) {
                return SLOW;
            }
            if (isWord("sleepy")) {
                return SLEEPY;
            }
            if (isWord("elder")) {
                return ELDER;
            }
            if (isWord("borne")) {
                return BORNE;
            }
            return isWord("glutton") ? GLUTTON : -1;
        }

        private boolean readSnail(Republic draft, int kind) {
            int snail = draft.addSnail(kind, 0);
            if (snail < 0) {
                return false;
            }
            at++;
            int cell = takePart("at", CELLS - 1, 0);
            int law = cell < 0 ? -1 : takePart("law", LAWS - 1, 0);
            int gate = law < 0 ? -1 : takePart("gate", CELLS - 1, CELLS - 1);
            int price = gate < 0 ? -1 : takePart("price", MOST_PRICE, 1);
            if (price < 0) {
                return false;
            }
            draft.ats[snail] = cell;
            draft.edicts[snail] = law;
            draft.gates[snail] = gate;
            draft.prices[snail] = price;
            return true;
        }

        private boolean readHedge(Republic draft) {
            int cell = takeNumber(CELLS - 1);
            if (cell < 0) {
                return false;
            }
            draft.hedges[cell] = 1;
            return true;
        }

        private boolean readGreens(Republic draft) {
            int cell = takeNumber(CELLS - 1);
            int v = cell < 0 ? -1 : takeNumber(MOST_GREENS);
            if (v < 0) {
                return false;
            }
            draft.leaves[cell] = v;
            return true;
        }

        private boolean readBans(Republic draft) {
            int law = takeNumber(LAWS - 1);
            int set = law < 0 ? -1 : takeNumber(ALL_DEEDS);
            if (set < 0) {
                return false;
            }
            draft.banned[law] = set;
            return true;
        }

        private boolean readWet(Republic draft) {
            int v = takeNumber(MOST_WET);
            if (v < 0) {
                return false;
            }
            draft.wet = v;
            return true;
        }

        private boolean readThrush(Republic draft) {
            int v = takeNumber(MOST_THRUSH);
            if (v < 0) {
                return false;
            }
            draft.thrush = v;
            return true;
        }

        private boolean isWord(String word) {
            int start = starts[at];
            if (sorts[at] != WORD || ends[at] - start != word.length()) {
                return false;
            }
            for (int i = 0; i < word.length(); i++) {
                if (bytes[start + i] != word.charAt(i)) {
                    return false;
                }
            }
            return true;
        }

        private boolean skipWord(String word) {
            if (!isWord(word)) {
                return false;
            }
            at++;
            return true;
        }

        /** The NUMBER that is read now, which is passed; -1, if there is none from 0 to most. */
        private int takeNumber(int most) {
            if (sorts[at] != NUMBER || values[at] > most) {
                return -1;
            }
            int v = values[at];
            at++;
            return v;
        }

        /** The NUMBER behind a WORD that may stand here; -1, if the WORD stands without it. */
        private int takePart(String word, int most, int without) {
            return skipWord(word) ? takeNumber(most) : without;
        }
    }

    /** Rows of numbers of 8, 16 or 32 bits; one of 0 bits is MISSING. */
    private static final class Sheets {
        final int[] bits = new int[SHEETS];
        final int[] sizes = new int[SHEETS];
        private final int[] numbers = new int[SHEETS * SHEET_NUMBERS];

        boolean isMissing(int s) {
            return bits[s] == 0;
        }

        void lay(int s, int width, int n) {
            bits[s] = width;
            sizes[s] = width == 0 ? 0 : n;
            for (int i = 0; i < SHEET_NUMBERS; i++) {
                numbers[s * SHEET_NUMBERS + i] = 0;
            }
        }

        int numberAt(int s, int i) {
            return numbers[s * SHEET_NUMBERS + i];
        }

        void put(int s, int i, int v) {
            int cut = 32 - bits[s];
            numbers[s * SHEET_NUMBERS + i] = v << cut >> cut;
        }

        /** Whether a sheet has n numbers from one on. */
        boolean hasRun(int s, int from, int n) {
            return from >= 0 && n >= 0 && n <= sizes[s] && from <= sizes[s] - n;
        }

        void carry(int s, int from, int t, int to, int n) {
            System.arraycopy(numbers, s * SHEET_NUMBERS + from,
                numbers, t * SHEET_NUMBERS + to, n);
        }
    }
}
