/**
 * Masts in the wind. The words in the comments are those of the document.
 *
 * Everything that a call needs is made once, in the constructors: a call makes no object
 * but the exception that it throws, since the room in which all calls live is not emptied.
 */
public final class MastWind {

    private static final int NO_SUCH = -1;
    private static final int NO_ROOM = -2;
    private static final int CANNOT = -3;
    private static final int NONE = -4;
    private static final int NOTHING_HELD = -11;
    private static final int OTHER_KIND = -12;
    private static final int NO_PLACE = -13;
    private static final int BELOW_ZERO = -14;
    private static final int NO_FAILURE = -15;
    // Added to a refusal where the answers themselves may be below 0.
    private static final int FAR = -1000000000;

    private static final int MOST_PIECES = 10;
    private static final int MOST_ROPES = 12;
    private static final int MOST_GUSTS = 8;
    private static final int MOST_RULES = 12;
    private static final int MOST_OFFERS = 8;
    private static final int MOST_SHELVES = 8;
    private static final int MOST_ELEMENTS = 120;
    private static final int MOST_SPEEDS = 8;
    private static final int MOST_REDRAWN = 6;
    private static final int MOST_ICY = 6;
    private static final int MOST_TIGHT = 999;
    private static final int MOST_STRETCH = 99;
    private static final int MOST_YEARS = 1000000;
    private static final int MOST_MARK = 1000000000;
    private static final long MOST_SIZE = 2147483647L;

    // A LEAN stays within EDGE on both sides.
    private static final int EDGE = 300;
    // The LEAN of a mast that FALLS: its size is above that of every other.
    private static final int FALLEN = 1000;
    // What a RULE reads as the LEAN of a mast that FALLS.
    private static final int FALLEN_TOLD = 999;
    // A set of all, as bits.
    private static final int ALL = -1;

    private final Mast now = new Mast();
    // Questions of the kind "what if" are tried on this one, so that nothing changes.
    private final Mast trial = new Mast();
    private final Rules rules = new Rules();
    private final Offers offers = new Offers();
    private final Mast oldMast = new Mast();
    private final Rules oldRules = new Rules();
    private final Offers oldOffers = new Offers();
    private boolean imaged;
    private final Shelf[] shelves = new Shelf[MOST_SHELVES];
    private final Balance balance = new Balance();
    private final TextReader textReader = new TextReader();
    private final RuleReader ruleReader = new RuleReader();
    private final Redraw redraw = new Redraw();
    private final SwingCount swingCount = new SwingCount();

    public MastWind() {
        for (int i = 0; i < shelves.length; i++) {
            shelves[i] = new Shelf();
        }
    }

    // ---- texts, parts

    public int text(int d) {
        Shelf shelf = shelfAt(d);
        int refusal = rowRefusal(shelf, Shelf.BYTES);
        if (shelf == null || refusal != 0) {
            return refusal;
        }
        textReader.open(shelf.elements, shelf.size);
        int place = textReader.firstFault();
        if (place != NONE) {
            return -1000 - place;
        }
        textReader.open(shelf.elements, shelf.size);
        return now.readAll(textReader);
    }

    public int piece(int piece, int what) {
        Piece p = now.pieceAt(piece);
        return p == null || what < 0 || what > 7 ? NO_SUCH : p.about(what);
    }

    public int rope(int rope, int what) {
        Rope r = now.ropeAt(rope);
        return r == null || what < 0 || what > 6 ? NO_SUCH : r.about(what);
    }

    public int becomes(int rope, int how) {
        Rope r = now.ropeAt(rope);
        if (r == null || how < Rope.WHOLE || how > Rope.OFF) {
            return NO_SUCH;
        }
        int was = r.how;
        r.how = how;
        return was;
    }

    public int tight(int rope, int n) {
        Rope r = now.ropeAt(rope);
        if (r == null || n < 0 || n > MOST_TIGHT) {
            return NO_SUCH;
        }
        int was = r.tight;
        r.tight = n;
        return was;
    }

    public int ice(int piece, int n) {
        Piece p = now.pieceAt(piece);
        if (p == null || n < 0 || n > 20) {
            return NO_SUCH;
        }
        int was = p.ice;
        p.ice = n;
        return was;
    }

    // ---- winds, stands

    public int wind(int speed, int side) {
        if (speed < 0 || speed > 99 || side != 1 && side != -1) {
            return NO_SUCH;
        }
        int was = now.speed;
        now.speed = speed;
        now.side = side;
        return was;
    }

    public int share(int i, int n) {
        if (i < 0 || i >= now.shares.length || n < 0 || n > 200) {
            return NO_SUCH;
        }
        int was = now.shares[i];
        now.shares[i] = n;
        return was;
    }

    public long push(int piece) throws IllegalArgumentException {
        Piece p = now.pieceAt(piece);
        if (p == null) {
            throw new IllegalArgumentException("no such piece");
        }
        return now.pushOn(p);
    }

    public long rest(int l) throws IllegalArgumentException {
        if (l < -EDGE || l > EDGE) {
            throw new IllegalArgumentException("no such lean");
        }
        balance.load(now, ALL, ALL);
        return balance.restAt(l);
    }

    public int stand() {
        int lean = leanNow();
        return lean == FALLEN ? FAR + CANNOT : lean;
    }

    public int stands(int i) {
        if (i < -1) {
            return FAR + NO_SUCH;
        }
        balance.load(now, ALL, ALL);
        int found = 0;
        boolean held = balance.restAt(-EDGE) >= 0;
        for (int l = -EDGE; l < EDGE; l++) {
            boolean holdsNext = balance.restAt(l + 1) >= 0;
            if (held && !holdsNext) {
                if (found == i) {
                    return l;
                }
                found++;
            }
            held = holdsNext;
        }
        return i == -1 ? found : FAR + NONE;
    }

    public int pull(int rope) {
        Rope r = now.ropeAt(rope);
        if (r == null) {
            return NO_SUCH;
        }
        int lean = leanNow();
        return lean == FALLEN ? CANNOT : r.pullAt(lean);
    }

    public int loose() {
        int lean = leanNow();
        return lean == FALLEN ? CANNOT : now.looseAt(lean);
    }

    // ---- gusts, tones

    public int gust(int size) {
        if (size < 0 || size > 999) {
            return NO_SUCH;
        }
        if (now.gustCount >= MOST_GUSTS) {
            return NO_ROOM;
        }
        now.gustSizes[now.gustCount] = size;
        now.gustCount++;
        return now.gustCount;
    }

    public int gusts(int what) {
        if (what != 0 && what != 1) {
            return NO_SUCH;
        }
        return what == 0 ? now.lowerGust() : now.upperGust();
    }

    public int count(int x) {
        return x < 0 || x > 9999 ? NO_SUCH : now.signsBelow(x);
    }

    public int tone(int n) {
        return n < 0 || n > 9 ? NO_SUCH : now.leastAbove(n);
    }

    public int shedding(int piece, int speed) {
        Piece p = now.pieceAt(piece);
        return p == null || speed < 0 || speed > 99 ? NO_SUCH : p.sheds(speed);
    }

    public int lock(int piece, int tone, int band, int what) {
        Piece p = now.pieceAt(piece);
        if (p == null || tone < 0 || tone > 9 || band < 0 || band > 99 || what != 0 && what != 1) {
            return NO_SUCH;
        }
        int x = now.leastAbove(tone);
        if (x == NONE) {
            return CANNOT;
        }
        int found = NONE;
        for (int u = 0; u <= 99; u++) {
            if (Math.abs(p.sheds(u) - x) <= band && (what == 1 || found == NONE)) {
                found = u;
            }
        }
        return found;
    }

    // ---- ice, ropes, swings

    public int odds(int piece, int n) {
        Piece p = now.pieceAt(piece);
        if (p == null || n < 0 || n > 100) {
            return NO_SUCH;
        }
        int was = p.odds;
        p.odds = n;
        return was;
    }

    public int falls() {
        return now.oddsNoneFalls();
    }

    public int uneven() {
        trial.takeFrom(now);
        int icy = now.icySet();
        balance.load(trial, icy, 0);
        int sets = 1 << Integer.bitCount(icy);
        int worst = -1;
        int worstSet = 0;
        for (int set = 0; set < sets; set++) {
            trial.melt(now, icy, set);
            balance.steady = trial.pushMoment();
            int size = Math.abs(balance.lean(EDGE));
            if (size > worst) {
                worst = size;
                worstSet = set;
            }
        }
        return worstSet;
    }

    public int after(int rope) {
        Rope r = now.ropeAt(rope);
        if (r == null) {
            return FAR + NO_SUCH;
        }
        int ahead = r.how == Rope.WHOLE ? leanNow() : FALLEN;
        if (ahead == FALLEN) {
            return FAR + CANNOT;
        }
        long jerk = (long) (r.pullAt(ahead) / 2) * r.arm;
        trial.takeFrom(now);
        trial.ropes[rope].how = Rope.CUT;
        balance.load(trial, ALL, ALL);
        balance.steady -= r.side * jerk;
        int lean = balance.lean(EDGE);
        return lean == FALLEN ? FAR + CANNOT : lean;
    }

    public long swings(int d, int what) {
        Shelf shelf = shelfAt(d);
        int refusal = what < 0 || what > 2 ? NO_SUCH : rowRefusal(shelf, Shelf.INTS);
        if (shelf == null || refusal != 0) {
            return refusal;
        }
        swingCount.measure(shelf.elements, shelf.size);
        if (what == 0) {
            return swingCount.found;
        }
        return what == 1 ? Math.min(swingCount.greatest, MOST_SIZE) : swingCount.tiredness;
    }

    public int years(int d, int mark) {
        Shelf shelf = shelfAt(d);
        int refusal = mark < 1 || mark > MOST_MARK ? NO_SUCH : rowRefusal(shelf, Shelf.INTS);
        if (shelf == null || refusal != 0) {
            return refusal;
        }
        swingCount.measure(shelf.elements, shelf.size);
        long tiredness = swingCount.tiredness;
        if (tiredness <= 0) {
            return NONE;
        }
        return (int) Math.min((mark + tiredness - 1) / tiredness, MOST_YEARS);
    }

    // ---- rules

    public int fault(int d) {
        Shelf shelf = shelfAt(d);
        int refusal = rowRefusal(shelf, Shelf.BYTES);
        if (shelf == null || refusal != 0) {
            return refusal;
        }
        return ruleReader.read(shelf.elements, shelf.size);
    }

    public int rule(int d) {
        Shelf shelf = shelfAt(d);
        if (shelf == null) {
            return NO_SUCH;
        }
        if (rules.count >= MOST_RULES) {
            return NO_ROOM;
        }
        int refusal = rowRefusal(shelf, Shelf.BYTES);
        if (refusal != 0) {
            return refusal;
        }
        int place = ruleReader.read(shelf.elements, shelf.size);
        return place == NONE ? rules.add(shelf.elements, shelf.size) : -100 - place;
    }

    public int tell(int rule, boolean told) {
        if (rule < 0 || rule >= rules.count) {
            return NO_SUCH;
        }
        boolean was = rules.told[rule];
        rules.told[rule] = told;
        return was == told ? 0 : 1;
    }

    public int breach(int piece, int hour) {
        Piece p = now.pieceAt(piece);
        if (p == null || hour < 0 || hour > 23) {
            return NO_SUCH;
        }
        lookAround(hour);
        return rules.leastHolding(ruleReader, p);
    }

    public int climb(int hour) {
        if (hour < 0 || hour > 23) {
            return NO_SUCH;
        }
        lookAround(hour);
        int reached = NONE;
        for (int i = 0; i < now.pieceCount; i++) {
            if (rules.leastHolding(ruleReader, now.pieces[i]) != NONE) {
                return reached;
            }
            reached = i;
        }
        return reached;
    }

    // ---- ropes anew, sights, strengthening

    public long order(int set, int tight, int lean, int pull) {
        if (!isSetToRedraw(set) || tight < 0 || tight > MOST_TIGHT) {
            return NO_SUCH;
        }
        if (lean < 0 || lean > EDGE || pull < 1 || pull > 9999) {
            return NO_SUCH;
        }
        trial.takeFrom(now);
        balance.load(trial, 0, set);
        redraw.open(trial, set, tight);
        redraw.setMarks(lean, pull);
        return redraw.firstOrder(trial, balance);
    }

    public int readBack(int rope, int pulls, int doubt, int what) {
        Rope r = now.ropeAt(rope);
        if (r == null || pulls < 0 || pulls > 9999 || doubt < 0 || doubt > 99 || what != 0 && what != 1) {
            return NO_SUCH;
        }
        if (r.how != Rope.WHOLE) {
            return CANNOT;
        }
        trial.takeFrom(now);
        balance.load(trial, 0, 1 << rope);
        Rope seen = trial.ropes[rope];
        for (int i = 0; i <= MOST_TIGHT; i++) {
            seen.tight = what == 0 ? i : MOST_TIGHT - i;
            int lean = balance.lean(EDGE);
            if (lean != FALLEN && Math.abs(seen.pullAt(lean) - pulls) <= doubt) {
                return seen.tight;
            }
        }
        return NONE;
    }

    public int offer(int rope, int more, int price) {
        if (now.ropeAt(rope) == null || more < 1 || more > 99 || price < 1 || price > 999) {
            return NO_SUCH;
        }
        return offers.count >= MOST_OFFERS ? NO_ROOM : offers.add(rope, more, price);
    }

    public int cheapest(int d, int mark, int what) {
        Shelf shelf = shelfAt(d);
        boolean known = mark >= 0 && mark <= EDGE && (what == 0 || what == 1);
        int refusal = known ? rowRefusal(shelf, Shelf.BYTES) : NO_SUCH;
        if (shelf == null || refusal != 0) {
            return refusal;
        }
        if (!holdsSpeeds(shelf)) {
            return NO_PLACE;
        }
        trial.takeFrom(now);
        balance.load(trial, 0, offers.ropeSet());
        int best = NONE;
        int bestSet = NONE;
        int sets = 1 << offers.count;
        for (int set = 0; set < sets; set++) {
            int price = offers.priceOf(set);
            if (best != NONE && price >= best) {
                continue;
            }
            offers.strengthen(trial, now, set);
            if (standsInAll(shelf, mark)) {
                best = price;
                bestSet = set;
            }
        }
        return what == 0 ? best : bestSet;
    }

    // ---- the image, what is told

    public int image() {
        oldMast.takeFrom(now);
        oldRules.takeFrom(rules);
        oldOffers.takeFrom(offers);
        imaged = true;
        return now.pieceCount;
    }

    public int restore() {
        if (!imaged) {
            return CANNOT;
        }
        now.takeFrom(oldMast);
        rules.takeFrom(oldRules);
        offers.takeFrom(oldOffers);
        return now.pieceCount;
    }

    public int told(int what) {
        switch (what) {
            case 0: return now.pieceCount;
            case 1: return now.ropeCount;
            case 2: return now.wholeRopes();
            case 3: return now.allWeight();
            case 4: return now.allIce();
            case 5: return now.foot;
            case 6: return rules.count;
            case 7: return rules.toldOnes();
            case 8: return now.gustCount;
            case 9: return offers.count;
            default: return NO_SUCH;
        }
    }

    // ---- shelves

    public int keep(int d, int what, int k) {
        Shelf shelf = shelfAt(d);
        if (shelf == null || what != 0 && what != 1) {
            return NO_SUCH;
        }
        if (what == 0) {
            shelf.holds = Shelf.NOTHING;
            return 0;
        }
        Piece p = now.pieceAt(k);
        if (p == null) {
            return NO_SUCH;
        }
        shelf.holds = Shelf.PIECE;
        shelf.piece.takeFrom(p);
        return 0;
    }

    public int row(int d, int sort, int n) {
        Shelf shelf = shelfAt(d);
        if (shelf == null || sort < Shelf.BYTES || sort > Shelf.INTS || n > MOST_ELEMENTS) {
            return NO_SUCH;
        }
        if (n < 0) {
            return BELOW_ZERO;
        }
        shelf.layRow(sort, n);
        return 0;
    }

    public int put(int d, int i, int v) {
        Shelf shelf = shelfAt(d);
        int refusal = rowRefusal(shelf, Shelf.ANY_SORT);
        if (shelf == null || refusal != 0) {
            return refusal;
        }
        if (!shelf.hasSpan(i, 1)) {
            return NO_PLACE;
        }
        shelf.elements[i] = shelf.lowestBits(v);
        return 0;
    }

    public long element(int d, int i) throws IllegalArgumentException, IllegalStateException {
        Shelf shelf = shelfAt(d);
        if (shelf == null) {
            throw new IllegalArgumentException("no such shelf");
        }
        if (shelf.holds != Shelf.ROW || !shelf.hasSpan(i, 1)) {
            throw new IllegalStateException("no row, or no such place");
        }
        return shelf.elements[i];
    }

    public int copy(int d, int i, int e, int j, int n) {
        Shelf from = shelfAt(d);
        Shelf to = shelfAt(e);
        if (from == null || to == null) {
            return NO_SUCH;
        }
        if (from.holds == Shelf.NOTHING || to.holds == Shelf.NOTHING) {
            return NOTHING_HELD;
        }
        if (from.holds != Shelf.ROW || to.holds != Shelf.ROW || from.sort != to.sort) {
            return OTHER_KIND;
        }
        if (!from.hasSpan(i, n) || !to.hasSpan(j, n)) {
            return NO_PLACE;
        }
        System.arraycopy(from.elements, i, to.elements, j, n);
        return n;
    }

    public int heft(int d) {
        Shelf shelf = shelfAt(d);
        int refusal = pieceRefusal(shelf);
        return shelf == null || refusal != 0 ? refusal : shelf.piece.wholeHeft();
    }

    public int toss(int d) {
        Shelf shelf = shelfAt(d);
        int refusal = pieceRefusal(shelf);
        return shelf == null || refusal != 0 ? refusal : shelf.piece.failure();
    }

    // ---- what several calls share

    private Shelf shelfAt(int d) {
        return d >= 0 && d < shelves.length ? shelves[d] : null;
    }

    private int rowRefusal(Shelf shelf, int sort) {
        if (shelf == null) {
            return NO_SUCH;
        }
        if (shelf.holds == Shelf.NOTHING) {
            return NOTHING_HELD;
        }
        boolean fits = shelf.holds == Shelf.ROW && (sort == Shelf.ANY_SORT || sort == shelf.sort);
        return fits ? 0 : OTHER_KIND;
    }

    private int pieceRefusal(Shelf shelf) {
        if (shelf == null) {
            return NO_SUCH;
        }
        if (shelf.holds == Shelf.NOTHING) {
            return NOTHING_HELD;
        }
        return shelf.holds == Shelf.PIECE ? 0 : OTHER_KIND;
    }

    private int leanNow() {
        balance.load(now, ALL, ALL);
        return balance.lean(EDGE);
    }

    private void lookAround(int hour) {
        int lean = leanNow();
        int[] facts = ruleReader.facts;
        facts[RuleReader.SPEED] = now.speed;
        facts[RuleReader.LEAN] = lean == FALLEN ? FALLEN_TOLD : lean;
        facts[RuleReader.ALL_ICE] = now.allIce();
        facts[RuleReader.BROKEN] = now.ropeCount - now.wholeRopes();
        facts[RuleReader.SLACK] = lean == FALLEN ? 0 : Integer.bitCount(now.looseAt(lean));
        facts[RuleReader.HOUR] = hour;
    }

    private boolean isSetToRedraw(int set) {
        if (set <= 0 || set >> now.ropeCount != 0 || Integer.bitCount(set) > MOST_REDRAWN) {
            return false;
        }
        for (int i = 0; i < now.ropeCount; i++) {
            if ((set >> i & 1) == 1 && now.ropes[i].how != Rope.WHOLE) {
                return false;
            }
        }
        return true;
    }

    private boolean holdsSpeeds(Shelf shelf) {
        if (shelf.size < 1 || shelf.size > MOST_SPEEDS) {
            return false;
        }
        for (int i = 0; i < shelf.size; i++) {
            if (shelf.elements[i] < 0 || shelf.elements[i] > 99) {
                return false;
            }
        }
        return true;
    }

    private boolean standsInAll(Shelf speeds, int mark) {
        for (int i = 0; i < speeds.size; i++) {
            trial.speed = speeds.elements[i];
            for (int side = -1; side <= 1; side += 2) {
                trial.side = side;
                balance.steady = trial.pushMoment();
                if (balance.lean(mark) == FALLEN) {
                    return false;
                }
            }
        }
        return true;
    }

    /** A PIECE; its KIND is a number, since PIECES are made once and used again. */
    private static final class Piece {
        static final int PLAIN = 0;
        static final int ICED = 2;
        static final int DAMPED = 3;

        int number;
        int kind;
        int height;
        int mass;
        int area;
        int stiffness;
        int ice;
        int odds;

        void takeFrom(Piece other) {
            number = other.number;
            kind = other.kind;
            height = other.height;
            mass = other.mass;
            area = other.area;
            stiffness = other.stiffness;
            ice = other.ice;
            odds = other.odds;
        }

        int about(int what) {
            switch (what) {
                case 0: return kind;
                case 1: return height;
                case 2: return mass;
                case 3: return area;
                case 4: return stiffness;
                case 5: return ice;
                case 6: return weight();
                case 7: return faces();
                default: return NO_SUCH;
            }
        }

        int weight() {
            if (kind == PLAIN) {
                return mass + ice;
            }
            int rod = 2 * mass + ice;
            if (kind == ICED) {
                return rod + 2 * ice;
            }
            return kind == DAMPED ? rod + 5 : rod;
        }

        int faces() {
            if (kind == PLAIN) {
                return area + ice / 2;
            }
            int rod = area / 2 + ice / 2;
            return kind == ICED ? rod + ice : rod;
        }

        int wholeHeft() {
            int plain = weight() + height;
            if (kind == PLAIN) {
                return plain;
            }
            int rod = plain + area;
            if (kind == ICED) {
                return 2 * rod;
            }
            return kind == DAMPED ? rod + stiffness : rod;
        }

        int failure() {
            if (kind == DAMPED || kind == ICED && ice == 0) {
                return NO_FAILURE;
            }
            return kind == ICED ? number + 100 + ice : number;
        }

        int sheds(int speed) {
            return 20 * speed / Math.max(area, 1);
        }
    }

    private static final class Rope {
        static final int WHOLE = 0;
        static final int CUT = 1;
        static final int OFF = 2;

        int piece;
        int side;
        int reach;
        int stretch;
        int tight;
        int how;
        // Kept, since neither HEIGHT nor REACH ever changes.
        int arm;

        void takeFrom(Rope other) {
            piece = other.piece;
            side = other.side;
            reach = other.reach;
            stretch = other.stretch;
            tight = other.tight;
            how = other.how;
            arm = other.arm;
        }

        int about(int what) {
            switch (what) {
                case 0: return piece;
                case 1: return side == 1 ? 1 : 0;
                case 2: return reach;
                case 3: return stretch;
                case 4: return tight;
                case 5: return how;
                case 6: return arm;
                default: return NO_SUCH;
            }
        }

        int pullAt(int l) {
            int pull = tight - side * stretch * l * arm / 1000;
            return how != WHOLE || pull < 0 ? 0 : pull;
        }
    }

    /** The mast, its ROPES and the WIND on it. */
    private static final class Mast {
        final Piece[] pieces = new Piece[MOST_PIECES];
        int pieceCount;
        final Rope[] ropes = new Rope[MOST_ROPES];
        int ropeCount;
        int foot;
        int speed;
        int side = 1;
        final int[] shares = {100, 100, 100, 100, 100};
        final int[] gustSizes = new int[MOST_GUSTS];
        int gustCount;

        Mast() {
            for (int i = 0; i < pieces.length; i++) {
                pieces[i] = new Piece();
            }
            for (int i = 0; i < ropes.length; i++) {
                ropes[i] = new Rope();
            }
        }

        void takeFrom(Mast other) {
            for (int i = 0; i < pieces.length; i++) {
                pieces[i].takeFrom(other.pieces[i]);
            }
            pieceCount = other.pieceCount;
            for (int i = 0; i < ropes.length; i++) {
                ropes[i].takeFrom(other.ropes[i]);
            }
            ropeCount = other.ropeCount;
            foot = other.foot;
            speed = other.speed;
            side = other.side;
            System.arraycopy(other.shares, 0, shares, 0, shares.length);
            System.arraycopy(other.gustSizes, 0, gustSizes, 0, gustSizes.length);
            gustCount = other.gustCount;
        }

        Piece pieceAt(int i) {
            return i >= 0 && i < pieceCount ? pieces[i] : null;
        }

        Rope ropeAt(int i) {
            return i >= 0 && i < ropeCount ? ropes[i] : null;
        }

        /** Does all STATEMENTS of a TEXT, or none: how many they are, or the FAULT. */
        int readAll(TextReader reader) {
            int pieceCountAhead = pieceCount;
            int ropeCountAhead = ropeCount;
            int footAhead = foot;
            int done = 0;
            while (done < MOST_ELEMENTS && reader.hasMore()) {
                reader.readStatement();
                if (!accepts(reader)) {
                    pieceCount = pieceCountAhead;
                    ropeCount = ropeCountAhead;
                    foot = footAhead;
                    return -2000 - reader.start;
                }
                done++;
            }
            return done;
        }

        private boolean accepts(TextReader statement) {
            if (statement.letter == 'p') {
                return addPiece(statement.numbers);
            }
            if (statement.letter == 'r') {
                return addRope(statement.numbers, statement.side);
            }
            foot = statement.numbers[0];
            return true;
        }

        private boolean addPiece(int[] told) {
            int below = pieceCount > 0 ? pieces[pieceCount - 1].height : 0;
            boolean fits = pieceCount < MOST_PIECES && told[0] <= Piece.DAMPED
                && told[1] > below && told[1] <= 99 && told[2] >= 1 && told[2] <= 99
                && told[3] <= 99 && told[4] >= 1 && told[4] <= 99;
            if (!fits) {
                return false;
            }
            Piece p = pieces[pieceCount];
            p.number = pieceCount;
            p.kind = told[0];
            p.height = told[1];
            p.mass = told[2];
            p.area = told[3];
            p.stiffness = told[4];
            p.ice = 0;
            p.odds = 0;
            pieceCount++;
            return true;
        }

        private boolean addRope(int[] told, int ground) {
            Piece p = pieceAt(told[0]);
            boolean fits = p != null && ropeCount < MOST_ROPES && told[1] >= 1 && told[1] <= 99
                && told[2] >= 1 && told[2] <= MOST_STRETCH;
            if (!fits) {
                return false;
            }
            Rope r = ropes[ropeCount];
            r.piece = told[0];
            r.side = ground;
            r.reach = told[1];
            r.stretch = told[2];
            r.tight = told[3];
            r.how = Rope.WHOLE;
            r.arm = Math.max(p.height * r.reach / (p.height + r.reach), 1);
            ropeCount++;
            return true;
        }

        long pushOn(Piece p) {
            int share = Math.min(p.height / 20, shares.length - 1);
            long v = speed * shares[share] / 100;
            return v * v * p.faces() / 100 * side;
        }

        long pushMoment() {
            long sum = 0;
            for (int i = 0; i < pieceCount; i++) {
                sum += pushOn(pieces[i]) * pieces[i].height;
            }
            return sum;
        }

        int looseAt(int lean) {
            int set = 0;
            for (int i = 0; i < ropeCount; i++) {
                if (ropes[i].how == Rope.WHOLE && ropes[i].pullAt(lean) == 0) {
                    set |= 1 << i;
                }
            }
            return set;
        }

        int lowerGust() {
            int squares = 0;
            for (int i = 0; i < gustCount; i++) {
                squares += gustSizes[i] * gustSizes[i];
            }
            int root = 0;
            while (root < 10000 && (root + 1) * (root + 1) <= squares) {
                root++;
            }
            return root;
        }

        int upperGust() {
            int sum = 0;
            for (int i = 0; i < gustCount; i++) {
                sum += gustSizes[i];
            }
            return sum;
        }

        /** COUNT of x. */
        int signsBelow(int x) {
            int below = 0;
            long q = 0;
            for (int i = 0; i < pieceCount; i++) {
                Piece p = pieces[i];
                int above = i + 1 < pieceCount ? pieces[i + 1].stiffness : 0;
                long a = p.stiffness + above - x * p.weight() / 100;
                long own = i == 0 ? 0 : 1000000L * p.stiffness * p.stiffness;
                q = 1000 * a - own / (q == 0 ? 1 : q);
                if (q < 0) {
                    below++;
                }
            }
            return below;
        }

        /** TONE n, or NONE. */
        int leastAbove(int n) {
            for (int x = 0; x <= 9999; x++) {
                if (signsBelow(x) > n) {
                    return x;
                }
            }
            return NONE;
        }

        int oddsNoneFalls() {
            int millionths = 1000000;
            for (int i = 0; i < pieceCount; i++) {
                if (pieces[i].ice > 0) {
                    millionths = millionths * (100 - pieces[i].odds) / 100;
                }
            }
            return millionths;
        }

        /** The first PIECES with ICE, as bits by their numbers. */
        int icySet() {
            int set = 0;
            for (int i = 0; i < pieceCount; i++) {
                if (pieces[i].ice > 0 && Integer.bitCount(set) < MOST_ICY) {
                    set |= 1 << i;
                }
            }
            return set;
        }

        /** ICE as on the other mast, less that of a set out of the icy ones, in their order. */
        void melt(Mast other, int icy, int set) {
            int place = 0;
            for (int i = 0; i < pieceCount; i++) {
                if ((icy >> i & 1) == 1) {
                    pieces[i].ice = (set >> place & 1) == 1 ? 0 : other.pieces[i].ice;
                    place++;
                }
            }
        }

        int wholeRopes() {
            int whole = 0;
            for (int i = 0; i < ropeCount; i++) {
                whole += ropes[i].how == Rope.WHOLE ? 1 : 0;
            }
            return whole;
        }

        int allWeight() {
            int sum = 0;
            for (int i = 0; i < pieceCount; i++) {
                sum += pieces[i].weight();
            }
            return sum;
        }

        int allIce() {
            int sum = 0;
            for (int i = 0; i < pieceCount; i++) {
                sum += pieces[i].ice;
            }
            return sum;
        }
    }

    /**
     * REST and THE STAND of a mast. What a search never changes is summed once for every
     * LEAN; what it changes is summed anew: without that a search takes far too long.
     */
    private static final class Balance {
        private final long[] settled = new long[2 * EDGE + 1];
        private final Piece[] pieces = new Piece[MOST_PIECES];
        private int pieceCount;
        private final Rope[] ropes = new Rope[MOST_ROPES];
        private int ropeCount;
        // What is the same at every LEAN: the PUSHES, and a JERK.
        long steady;

        /** The sets, as bits, are the PIECES and ROPES that may change after this. */
        void load(Mast mast, int pieceSet, int ropeSet) {
            gather(mast, ~pieceSet, ~ropeSet);
            for (int l = -EDGE; l <= EDGE; l++) {
                settled[l + EDGE] = moment(l) - mast.foot * l;
            }
            gather(mast, pieceSet, ropeSet);
            steady = mast.pushMoment();
        }

        private void gather(Mast mast, int pieceSet, int ropeSet) {
            pieceCount = 0;
            for (int i = 0; i < mast.pieceCount; i++) {
                if ((pieceSet >> i & 1) == 1) {
                    pieces[pieceCount] = mast.pieces[i];
                    pieceCount++;
                }
            }
            ropeCount = 0;
            for (int i = 0; i < mast.ropeCount; i++) {
                if ((ropeSet >> i & 1) == 1) {
                    ropes[ropeCount] = mast.ropes[i];
                    ropeCount++;
                }
            }
        }

        private long moment(int l) {
            long sum = 0;
            for (int i = 0; i < pieceCount; i++) {
                sum += pieces[i].weight() * pieces[i].height * l / 1000;
            }
            for (int i = 0; i < ropeCount; i++) {
                sum += (long) ropes[i].pullAt(l) * ropes[i].arm * ropes[i].side;
            }
            return sum;
        }

        long restAt(int l) {
            return l < -EDGE || l > EDGE ? 0 : settled[l + EDGE] + steady + moment(l);
        }

        /** THE STAND, or FALLEN where its LEAN without sign would be above most. */
        int lean(int most) {
            if (restAt(0) >= 0) {
                for (int l = 0; l <= most && l < EDGE; l++) {
                    if (restAt(l + 1) < 0) {
                        return l;
                    }
                }
                return FALLEN;
            }
            for (int l = -1; l >= -most && l >= -EDGE; l--) {
                if (restAt(l) >= 0) {
                    return l;
                }
            }
            return FALLEN;
        }
    }

    /** Reads a TEXT, a STATEMENT at a time. */
    private static final class TextReader {
        private int[] bytes = new int[0];
        private int size;
        private int at;
        private boolean stuck;
        private int numberCount;
        // The STATEMENT read last: its place, its letter, its numbers and, of a ROPE, its SIDE.
        int start;
        int letter;
        final int[] numbers = new int[5];
        int side;

        void open(int[] text, int length) {
            bytes = text;
            size = Math.min(length, text.length);
            at = 0;
            stuck = false;
        }

        boolean hasMore() {
            return !stuck && at < size;
        }

        /** The place of the first byte with which no TEXT can go on, or NONE. */
        int firstFault() {
            readStatement();
            for (int i = 0; i < size && hasMore(); i++) {
                readStatement();
            }
            return stuck ? at : NONE;
        }

        void readStatement() {
            start = at;
            letter = at < size ? bytes[at] : 0;
            numberCount = 0;
            switch (letter) {
                case 'p':
                    at++;
                    readNumbers(5);
                    break;
                case 'r':
                    at++;
                    readNumber();
                    expect(' ');
                    readSide();
                    expect(' ');
                    readNumbers(3);
                    break;
                case 'f':
                    at++;
                    readNumber();
                    break;
                default:
                    stuck = true;
            }
            expect(';');
        }

        private void readNumbers(int many) {
            readNumber();
            for (int i = 1; i < many; i++) {
                expect(' ');
                readNumber();
            }
        }

        private void readNumber() {
            if (stuck || at >= size || !isDigit(bytes[at]) || numberCount >= numbers.length) {
                stuck = true;
                return;
            }
            int value = bytes[at] - '0';
            at++;
            int digits = value == 0 ? 3 : 1;
            while (digits < 3 && at < size && isDigit(bytes[at])) {
                value = 10 * value + bytes[at] - '0';
                at++;
                digits++;
            }
            numbers[numberCount] = value;
            numberCount++;
        }

        private void readSide() {
            if (!stuck && at < size && (bytes[at] == 'e' || bytes[at] == 'w')) {
                side = bytes[at] == 'e' ? 1 : -1;
                at++;
            } else {
                stuck = true;
            }
        }

        private void expect(int sign) {
            if (!stuck && at < size && bytes[at] == sign) {
                at++;
            } else {
                stuck = true;
            }
        }

        static boolean isDigit(int sign) {
            return sign >= '0' && sign <= '9';
        }
    }

    /** Reads a RULE; with the same steps it finds the FAULT, and whether the RULE holds. */
    private static final class RuleReader {
        static final int SPEED = 0;
        static final int LEAN = 1;
        static final int ALL_ICE = 2;
        static final int BROKEN = 3;
        static final int SLACK = 4;
        static final int HOUR = 5;
        static final int NUMBER = 6;
        static final int KIND = 7;
        private static final int DEEPEST = 8;

        /** What the FIELDS say. */
        final int[] facts = new int[8];
        private int[] bytes = new int[0];
        private int size;
        private int at;
        private boolean stuck;
        private boolean testWanted;
        private int depth;
        // At each depth of ( : whether an AND ahead holds, whether all TESTS of this AND do,
        // and whether the TEST to come is turned round.
        private final boolean[] anyHolds = new boolean[DEEPEST + 1];
        private final boolean[] allHold = new boolean[DEEPEST + 1];
        private final boolean[] turned = new boolean[DEEPEST + 1];

        /** The place of the FAULT, or NONE. */
        int read(int[] text, int length) {
            bytes = text;
            size = Math.min(length, text.length);
            at = 0;
            stuck = false;
            depth = 0;
            beginOr();
            for (int i = 0; i < size && at < size && !stuck; i++) {
                if (testWanted) {
                    beginTest();
                } else {
                    goOn();
                }
            }
            return stuck || testWanted || depth > 0 ? at : NONE;
        }

        /** Whether the RULE read last, one without FAULT, holds. */
        boolean holds() {
            return anyHolds[0] || allHold[0];
        }

        private void beginOr() {
            anyHolds[depth] = false;
            allHold[depth] = true;
            turned[depth] = false;
            testWanted = true;
        }

        private void beginTest() {
            int sign = bytes[at];
            if (sign == '!') {
                turned[depth] = !turned[depth];
                at++;
            } else if (sign != '(') {
                endTest(compares());
            } else if (depth < DEEPEST) {
                depth++;
                at++;
                beginOr();
            } else {
                stuck = true;
            }
        }

        private void endTest(boolean holds) {
            allHold[depth] = allHold[depth] && holds != turned[depth];
            turned[depth] = false;
            testWanted = false;
        }

        private void goOn() {
            int sign = bytes[at];
            if (sign == '&') {
                testWanted = true;
            } else if (sign == '|') {
                anyHolds[depth] = holdsAt(depth);
                allHold[depth] = true;
                testWanted = true;
            } else if (sign == ')' && depth > 0) {
                depth--;
                endTest(holdsAt(depth + 1));
            } else {
                stuck = true;
                return;
            }
            at++;
        }

        private boolean holdsAt(int level) {
            return anyHolds[level] || allHold[level];
        }

        private boolean compares() {
            int left = readSum();
            int sign = at < size ? bytes[at] : 0;
            if (stuck || sign != '<' && sign != '>' && sign != '=') {
                stuck = true;
                return false;
            }
            at++;
            int right = readSum();
            if (sign == '=') {
                return left == right;
            }
            return sign == '<' ? left < right : left > right;
        }

        private int readSum() {
            int sum = readAtom();
            for (int i = 0; i < size && at < size && !stuck; i++) {
                int sign = bytes[at];
                if (sign != '+' && sign != '-') {
                    return sum;
                }
                at++;
                int atom = readAtom();
                sum += sign == '+' ? atom : -atom;
            }
            return sum;
        }

        private int readAtom() {
            int field = stuck || at >= size ? -1 : fieldOf(bytes[at]);
            if (field >= 0) {
                at++;
                return facts[field];
            }
            int value = 0;
            int digits = 0;
            while (digits < 4 && !stuck && at < size && TextReader.isDigit(bytes[at])) {
                value = 10 * value + bytes[at] - '0';
                at++;
                digits = value == 0 ? 4 : digits + 1;
            }
            stuck = stuck || digits == 0;
            return value;
        }

        private static int fieldOf(int sign) {
            switch (sign) {
                case 's': return SPEED;
                case 'l': return LEAN;
                case 'i': return ALL_ICE;
                case 'c': return BROKEN;
                case 'o': return SLACK;
                case 'h': return HOUR;
                case 'p': return NUMBER;
                case 'k': return KIND;
                default: return -1;
            }
        }
    }

    private static final class Rules {
        private final int[][] texts = new int[MOST_RULES][MOST_ELEMENTS];
        private final int[] sizes = new int[MOST_RULES];
        final boolean[] told = new boolean[MOST_RULES];
        int count;

        void takeFrom(Rules other) {
            for (int i = 0; i < MOST_RULES; i++) {
                System.arraycopy(other.texts[i], 0, texts[i], 0, MOST_ELEMENTS);
                sizes[i] = other.sizes[i];
                told[i] = other.told[i];
            }
            count = other.count;
        }

        /** The number of the new RULE; there must be room for it. */
        int add(int[] text, int size) {
            System.arraycopy(text, 0, texts[count], 0, size);
            sizes[count] = size;
            told[count] = true;
            count++;
            return count - 1;
        }

        int toldOnes() {
            int sum = 0;
            for (int i = 0; i < count; i++) {
                sum += told[i] ? 1 : 0;
            }
            return sum;
        }

        /** The least RULE told that holds for a PIECE, by the facts that the reader has. */
        int leastHolding(RuleReader reader, Piece p) {
            reader.facts[RuleReader.NUMBER] = p.number;
            reader.facts[RuleReader.KIND] = p.kind;
            for (int i = 0; i < count; i++) {
                if (told[i] && reader.read(texts[i], sizes[i]) == NONE && reader.holds()) {
                    return i;
                }
            }
            return NONE;
        }
    }

    private static final class Offers {
        private final int[] ropes = new int[MOST_OFFERS];
        private final int[] more = new int[MOST_OFFERS];
        private final int[] prices = new int[MOST_OFFERS];
        int count;

        void takeFrom(Offers other) {
            System.arraycopy(other.ropes, 0, ropes, 0, MOST_OFFERS);
            System.arraycopy(other.more, 0, more, 0, MOST_OFFERS);
            System.arraycopy(other.prices, 0, prices, 0, MOST_OFFERS);
            count = other.count;
        }

        /** How many there are with the new one; there must be room for it. */
        int add(int rope, int stretch, int price) {
            ropes[count] = rope;
            more[count] = stretch;
            prices[count] = price;
            count++;
            return count;
        }

        int ropeSet() {
            int set = 0;
            for (int i = 0; i < count; i++) {
                set |= 1 << ropes[i];
            }
            return set;
        }

        int priceOf(int set) {
            int sum = 0;
            for (int i = 0; i < count; i++) {
                sum += (set >> i & 1) == 1 ? prices[i] : 0;
            }
            return sum;
        }

        /** Gives the ROPES of a mast the STRETCH of the other mast's, and what a set adds. */
        void strengthen(Mast mast, Mast other, int set) {
            for (int i = 0; i < count; i++) {
                mast.ropes[ropes[i]].stretch = other.ropes[ropes[i]].stretch;
            }
            for (int i = 0; i < count; i++) {
                if ((set >> i & 1) == 1) {
                    Rope r = mast.ropes[ropes[i]];
                    r.stretch = Math.min(r.stretch + more[i], MOST_STRETCH);
                }
            }
        }
    }

    /**
     * DRAWING ANEW. How the ROPES stand depends on which have been drawn, not on their
     * order; so each set of those drawn is looked at once.
     */
    private static final class Redraw {
        private final Rope[] ropes = new Rope[MOST_REDRAWN];
        private final int[] numbers = new int[MOST_REDRAWN];
        private final int[] oldTight = new int[MOST_REDRAWN];
        private int count;
        private int newTight;
        private int mostLean;
        private int mostPull;
        // For each set of ROPES drawn already: the least one to go on with, so that all
        // others can follow; NONE if there is none.
        private final int[] next = new int[1 << MOST_REDRAWN];

        /** The ROPES of the set are in the mast, WHOLE, and few enough. */
        void open(Mast mast, int set, int tight) {
            newTight = tight;
            count = 0;
            for (int i = 0; i < mast.ropeCount; i++) {
                if ((set >> i & 1) == 1 && count < MOST_REDRAWN) {
                    ropes[count] = mast.ropes[i];
                    numbers[count] = i;
                    oldTight[count] = mast.ropes[i].tight;
                    count++;
                }
            }
        }

        void setMarks(int lean, int pull) {
            mostLean = lean;
            mostPull = pull;
        }

        /** SAFE ORDER, or NONE; the balance has been loaded with the mast. */
        long firstOrder(Mast mast, Balance balance) {
            int all = (1 << count) - 1;
            for (int drawn = all; drawn >= 0; drawn--) {
                next[drawn] = leastNext(mast, balance, drawn);
            }
            long order = 0;
            int drawn = 0;
            for (int i = 0; i < count; i++) {
                int chosen = next[drawn];
                if (chosen == NONE) {
                    return NONE;
                }
                order |= (long) numbers[chosen] << 4 * i;
                drawn |= 1 << chosen;
            }
            return order;
        }

        private int leastNext(Mast mast, Balance balance, int drawn) {
            for (int i = 0; i < count; i++) {
                ropes[i].tight = (drawn >> i & 1) == 1 ? newTight : oldTight[i];
            }
            if (drawn != 0 && !isSafe(mast, balance)) {
                return NONE;
            }
            if (drawn == (1 << count) - 1) {
                return 0;
            }
            for (int i = 0; i < count; i++) {
                if ((drawn >> i & 1) == 1 || next[drawn | 1 << i] == NONE) {
                    continue;
                }
                ropes[i].how = Rope.OFF;
                boolean safe = isSafe(mast, balance);
                ropes[i].how = Rope.WHOLE;
                if (safe) {
                    return i;
                }
            }
            return NONE;
        }

        private boolean isSafe(Mast mast, Balance balance) {
            int lean = balance.lean(mostLean);
            if (lean == FALLEN) {
                return false;
            }
            for (int i = 0; i < mast.ropeCount; i++) {
                if (mast.ropes[i].pullAt(lean) > mostPull) {
                    return false;
                }
            }
            return true;
        }
    }

    /** The SWINGS of a ROW. */
    private static final class SwingCount {
        int found;
        long greatest;
        long tiredness;

        void measure(int[] elements, int size) {
            found = 0;
            greatest = 0;
            tiredness = 0;
            int ahead = size > 0 ? elements[0] : 0;
            int turn = ahead;
            // 1 while it goes up, -1 while it goes down, 0 as long as all are alike.
            int way = 0;
            for (int i = 1; i < size; i++) {
                int element = elements[i];
                if (element == ahead) {
                    continue;
                }
                int goes = element > ahead ? 1 : -1;
                if (way != 0 && goes != way) {
                    add(turn, ahead);
                    turn = ahead;
                }
                way = goes;
                ahead = element;
            }
            if (way != 0) {
                add(turn, ahead);
            }
        }

        private void add(int from, int to) {
            long size = Math.abs((long) from - to);
            long tenth = size / 10;
            found++;
            greatest = Math.max(greatest, size);
            // Above 100 the third power is capped: it would leave even a long.
            tiredness += tenth >= 100 ? 1000000 : tenth * tenth * tenth;
        }
    }

    private static final class Shelf {
        static final int NOTHING = 0;
        static final int PIECE = 1;
        static final int ROW = 2;

        static final int ANY_SORT = -1;
        static final int BYTES = 0;
        static final int SHORTS = 1;
        static final int INTS = 2;

        int holds = NOTHING;
        final Piece piece = new Piece();
        int sort;
        int size;
        final int[] elements = new int[MOST_ELEMENTS];

        void layRow(int newSort, int newSize) {
            holds = ROW;
            sort = newSort;
            size = newSize;
            for (int i = 0; i < elements.length; i++) {
                elements[i] = 0;
            }
        }

        boolean hasSpan(int from, int many) {
            return from >= 0 && many >= 0 && (long) from + many <= size;
        }

        int lowestBits(int v) {
            if (sort == BYTES) {
                return (byte) v;
            }
            return sort == SHORTS ? (short) v : v;
        }
    }
}
