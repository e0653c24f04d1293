import java.util.Arrays;

/** A yard for boxes, as ../shared/DOC.md tells it; words in capitals are the document's. */
public final class BoxYard {
    public static final int UNKNOWN = -1, OUTSIDE = -2, STATE = -3, FULL = -4, NONE = -9, RULE = -40, FINDING = -60;

    private static final int NO_BAY = 1, BEYOND = 2, NOTHING = 3, FORM = 4, CAST = 5, NOUGHT = 6, SIZE = 7;
    private static final int SUM_UNKNOWN = -2000000001, SUM_OUTSIDE = -2000000002;
    private static final int PLACES = 10;
    private static final int PORTS = 8;
    private static final int MOST_WIND = 60;
    private static final int MOST_LINK = 9;

    private final Yard yard;
    private final Journal journal;
    private final Digging digging;
    private final Tasks tasks;
    private final int[] findings;
    private final int[] broken;
    private int latest;

    public BoxYard() {
        yard = new Yard();
        journal = new Journal();
        digging = new Digging();
        tasks = new Tasks(yard);
        findings = new int[SIZE + 1];
        broken = new int[3];
        Arrays.fill(broken, NONE);
        latest = 0;
    }

    // ---- 1 boxes

    public int box(int kind, int told, int real, int danger, int port) {
        if (!isWithin(kind, 0, 5) || !isWeight(told) || !isWeight(real)) {
            return OUTSIDE;
        }
        if (!isWithin(danger, 0, 4) || !isWithin(port, 0, PORTS - 1)) {
            return OUTSIDE;
        }
        Box made = yard.nextBox();
        if (made == null) {
            return FULL;
        }
        made.begin(kind, told, real, danger, port);
        return made.number;
    }

    public int body(int box, int what) {
        yard.trace.begin();
        Box asked = yard.boxAt(box);
        if (asked == null) {
            return UNKNOWN;
        }
        switch (what) {
            case 0: return asked.bears(yard.trace);
            case 1: return asked.tall(yard.trace);
            case 2: return asked.fee(yard.trace);
            case 3: return counted(asked.watts(yard.trace));
            default: return OUTSIDE;
        }
    }

    public int where(int box, int what) {
        Box asked = yard.boxAt(box);
        if (asked == null) {
            return UNKNOWN;
        }
        switch (what) {
            case 0: return asked.where;
            case 1: return asked.first;
            case 2: return asked.second;
            case 3: return asked.third;
            case 4: return asked.known();
            case 5: return asBit(asked.weighed);
            case 6: return asBit(asked.isWrong());
            case 7: return asked.linkShip;
            case 8: return asked.kind;
            case 9: return asked.port;
            default: return OUTSIDE;
        }
    }

    // ---- 2 bays

    public int bay(int bay, int form, int heights) {
        if (!isWithin(bay, 0, PLACES - 1)) {
            return UNKNOWN;
        }
        if (!isWithin(form, 0, 3) || !Bay.areHeights(heights)) {
            return OUTSIDE;
        }
        if (yard.bayAt(bay) != null) {
            return STATE;
        }
        journal.begin();
        return yard.layOut(bay, form, heights);
    }

    public int plugs(int bay, int stack, int n) {
        Bay asked = yard.bayAt(bay);
        if (asked == null || !asked.hasStack(stack)) {
            return UNKNOWN;
        }
        if (!isWithin(n, 0, asked.heights[stack])) {
            return OUTSIDE;
        }
        int before = asked.plugged[stack];
        asked.plugged[stack] = n;
        return before;
    }

    public int apart(int danger, int other, int n) {
        if (!isWithin(danger, 1, 4) || !isWithin(other, 1, 4) || !isWithin(n, 0, 6)) {
            return OUTSIDE;
        }
        return yard.tellApart(danger, other, n);
    }

    public int stack(int bay, int stack, int place) {
        Bay asked = yard.bayAt(bay);
        if (asked == null || !asked.hasStack(stack) || !isWithin(place, 0, asked.heights[stack] - 1)) {
            return UNKNOWN;
        }
        return numberOf(asked.boxIn(stack, place), NONE);
    }

    public int share(int bay) {
        if (!isWithin(bay, 0, PLACES - 1)) {
            return UNKNOWN;
        }
        Bay asked = yard.bayAt(bay);
        if (asked == null) {
            return counted(FINDING - NO_BAY);
        }
        int boxes = asked.boxes();
        if (boxes == 0) {
            return counted(FINDING - NOUGHT);
        }
        return asked.weight() / boxes;
    }

    // ---- 3 cranes

    public int rail(int rail, int gap) {
        if (!isWithin(rail, 0, Yard.RAILS - 1)) {
            return UNKNOWN;
        }
        if (!isWithin(gap, 1, 4)) {
            return OUTSIDE;
        }
        if (!yard.takesGap(rail, gap)) {
            return RULE - 7;
        }
        journal.begin();
        int before = yard.gaps[rail];
        yard.gaps[rail] = gap;
        return before;
    }

    public int crane(int kind, int rail, int place) {
        if (!isWithin(kind, Crane.GANTRY, Crane.REACH)) {
            return OUTSIDE;
        }
        boolean railed = kind <= Crane.RAILED;
        if (railed ? !isWithin(rail, 0, Yard.RAILS - 1) : rail != NONE) {
            return UNKNOWN;
        }
        if (!isWithin(place, 0, PLACES - 1)) {
            return OUTSIDE;
        }
        if (yard.craneCount >= Yard.CRANES) {
            return FULL;
        }
        if (!yard.hasRoomOnRail(rail, yard.craneCount, place)) {
            return RULE - 7;
        }
        Crane made = yard.nextCrane();
        if (made == null) {
            return FULL;
        }
        made.begin(kind, rail, place);
        journal.begin();
        return made.number;
    }

    public int wind(int n) {
        if (!isWithin(n, 0, MOST_WIND)) {
            return OUTSIDE;
        }
        int before = yard.windNow;
        yard.windNow = n;
        return before;
    }

    public int engine(int crane, int what) {
        yard.trace.begin();
        Crane asked = yard.craneAt(crane);
        if (asked == null) {
            return UNKNOWN;
        }
        switch (what) {
            case 0: return asked.strength(yard.trace);
            case 1: return asked.stop(yard.trace);
            case 2: return counted(firstBerth(asked));
            default: return OUTSIDE;
        }
    }

    public int look(int crane, int what) {
        Crane asked = yard.craneAt(crane);
        if (asked == null) {
            return UNKNOWN;
        }
        switch (what) {
            case 0: return asked.place;
            case 1: return numberOf(asked.held, NONE);
            case 2: return asked.lifts;
            case 3: return asked.fails;
            case 4: return asBit(asked.brakeOn);
            case 5: return asked.rail;
            default: return OUTSIDE;
        }
    }

    public int may(int crane, int stack) {
        yard.trace.begin();
        Crane asked = yard.craneAt(crane);
        if (asked == null) {
            return UNKNOWN;
        }
        if (asked.held == null) {
            return STATE;
        }
        return yard.meetsSetting(asked, asked.held, stack);
    }

    // ---- acts

    public int go(int crane, int place) {
        yard.trace.begin();
        Crane actor = yard.craneAt(crane);
        if (actor == null) {
            return refused(UNKNOWN);
        }
        if (!isWithin(place, 0, PLACES - 1)) {
            return refused(OUTSIDE);
        }
        actor.brakeOn = false;
        int met = yard.meetsGoing(actor, place);
        if (met == 0) {
            journal.note(null, actor, null);
            actor.place = place;
        }
        return ended(actor, met);
    }

    public int take(int crane, int box) {
        yard.trace.begin();
        Crane actor = yard.craneAt(crane);
        Box taken = yard.boxAt(box);
        if (actor == null || taken == null) {
            return refused(UNKNOWN);
        }
        if (actor.held != null || taken.where != Box.AT_GATE) {
            return refused(STATE);
        }
        actor.brakeOn = false;
        int met = yard.meetsTaking(actor, taken);
        if (met == 0) {
            journal.note(taken, actor, null);
            yard.hold(actor, taken);
        }
        return ended(actor, met);
    }

    public int lift(int crane, int stack) {
        yard.trace.begin();
        Crane actor = yard.craneAt(crane);
        if (actor == null) {
            return refused(UNKNOWN);
        }
        if (actor.held != null) {
            return refused(STATE);
        }
        actor.brakeOn = false;
        int met = yard.meetsLifting(actor, stack);
        Box top = yard.topAt(actor.place, stack);
        if (met == 0 && top != null) {
            journal.note(top, actor, null);
            yard.hold(actor, top);
        }
        return ended(actor, met);
    }

    public int set(int crane, int stack) {
        yard.trace.begin();
        Crane actor = yard.craneAt(crane);
        if (actor == null) {
            return refused(UNKNOWN);
        }
        Box moved = actor.held;
        if (moved == null) {
            return refused(STATE);
        }
        actor.brakeOn = false;
        int met = yard.meetsSetting(actor, moved, stack);
        Bay bay = yard.bayAt(actor.place);
        if (met == 0 && bay != null && bay.hasStack(stack)) {
            journal.note(moved, actor, null);
            yard.bring(moved, Box.IN_STACK, actor.place, stack, bay.filled[stack]);
        }
        return ended(actor, met);
    }

    public int drop(int crane) {
        yard.trace.begin();
        Crane actor = yard.craneAt(crane);
        if (actor == null) {
            return refused(UNKNOWN);
        }
        Box moved = actor.held;
        if (moved == null) {
            return refused(STATE);
        }
        actor.brakeOn = false;
        int met = yard.meetsDropping(actor);
        if (met == 0) {
            journal.note(moved, actor, null);
            yard.bring(moved, Box.GONE, 0, 0, 0);
        }
        return ended(actor, met);
    }

    public int load(int crane) {
        yard.trace.begin();
        Crane actor = yard.craneAt(crane);
        if (actor == null) {
            return refused(UNKNOWN);
        }
        Box moved = actor.held;
        if (moved == null) {
            return refused(STATE);
        }
        actor.brakeOn = false;
        int met = yard.meetsLoading(actor, moved);
        Ship ship = yard.shipAt(moved.linkShip);
        if (met == 0 && ship != null) {
            journal.note(moved, actor, null);
            int place = ship.placeNumber(moved.linkX, moved.linkY, moved.linkZ);
            yard.bring(moved, Box.IN_SHIP, ship.number, place, 0);
        }
        return ended(actor, met);
    }

    public int fetch(int crane, int ship, int x, int y) {
        yard.trace.begin();
        Crane actor = yard.craneAt(crane);
        Ship from = yard.shipAt(ship);
        if (actor == null || from == null) {
            return refused(UNKNOWN);
        }
        if (actor.held != null) {
            return refused(STATE);
        }
        actor.brakeOn = false;
        int met = yard.meetsFetching(actor, from, x, y);
        Box top = from.topAt(x, y);
        if (met == 0 && top != null) {
            journal.note(top, actor, from);
            if (from.isLaterPort(top.port)) {
                from.digs++;
            }
            yard.hold(actor, top);
        }
        return ended(actor, met);
    }

    public int serve(int ship) {
        yard.trace.begin();
        Ship served = yard.shipAt(ship);
        if (served == null) {
            return refused(UNKNOWN);
        }
        if (served.left + 1 >= served.ports) {
            return refused(STATE);
        }
        journal.note(null, null, served);
        served.left++;
        latest = 0;
        return journal.lastNumber;
    }

    // ---- 4 ships

    public int ship(int nx, int ny, int nz, int berth) {
        boolean sized = isWithin(nx, 1, 6) && isWithin(ny, 1, 3) && isWithin(nz, 1, 3);
        if (!sized || !isWithin(berth, 0, PLACES - 1)) {
            return OUTSIDE;
        }
        Ship made = yard.nextShip();
        if (made == null) {
            return FULL;
        }
        made.begin(nx, ny, nz, berth);
        return made.number;
    }

    public int limit(int ship, int what, int n) {
        Ship asked = yard.shipAt(ship);
        if (asked == null) {
            return UNKNOWN;
        }
        if (!isWithin(what, 0, 2) || !isWithin(n, 0, Ship.MOST_LIMIT)) {
            return OUTSIDE;
        }
        int before = asked.limits[what];
        asked.limits[what] = n;
        return before;
    }

    public int route(int ship, int port) {
        Ship asked = yard.shipAt(ship);
        if (asked == null) {
            return UNKNOWN;
        }
        if (!isWithin(port, 0, PORTS - 1)) {
            return OUTSIDE;
        }
        if (asked.indexOfPort(port) >= 0) {
            return STATE;
        }
        return asked.addPort(port);
    }

    public int plan(int box, int ship, int x, int y, int z) {
        Box linked = yard.boxAt(box);
        if (linked == null || (ship != NONE && yard.shipAt(ship) == null)) {
            return UNKNOWN;
        }
        if (ship != NONE && !(isLinkNumber(x) && isLinkNumber(y) && isLinkNumber(z))) {
            return OUTSIDE;
        }
        if (linked.where == Box.IN_SHIP) {
            return STATE;
        }
        linked.link(ship, x, y, z);
        yard.tellLink(linked);
        return 1;
    }

    public int sum(int ship, int what) {
        Ship asked = yard.shipAt(ship);
        if (asked == null) {
            return SUM_UNKNOWN;
        }
        if (!isWithin(what, 0, 6)) {
            return SUM_OUTSIDE;
        }
        if (what == 4) {
            return asked.digs;
        }
        if (what == 5) {
            return asked.servedPort();
        }
        asked.survey();
        if (what == 6) {
            return asked.boxes;
        }
        return asked.sums[what];
    }

    public int mean(int ship) {
        Ship asked = yard.shipAt(ship);
        if (asked == null) {
            return UNKNOWN;
        }
        asked.survey();
        int weight = asked.sums[Ship.WEIGHT];
        if (weight == 0) {
            return counted(FINDING - NOUGHT);
        }
        return asked.sums[Ship.HEIGHT] / weight;
    }

    public int stable(int ship) {
        Ship asked = yard.shipAt(ship);
        if (asked == null) {
            return UNKNOWN;
        }
        return asBit(yard.allCouldCome(asked, broken));
    }

    public int broke(int what) {
        return isWithin(what, 0, 2) ? broken[what] : OUTSIDE;
    }

    // ---- 6 least

    public int want(int box) {
        Box wanted = yard.boxAt(box);
        if (wanted == null) {
            return UNKNOWN;
        }
        if (digging.rankOf(wanted) >= 0) {
            return STATE;
        }
        return digging.addWanted(wanted);
    }

    public int forget() {
        return digging.dropOrder();
    }

    public int least(int bay) {
        Bay asked = yard.bayAt(bay);
        if (asked == null) {
            return UNKNOWN;
        }
        if (asked.stacks > Digging.STACKS || asked.boxes() > Digging.BOXES) {
            return OUTSIDE;
        }
        if (!digging.hasOrderIn(asked)) {
            return STATE;
        }
        return digging.searchIn(asked);
    }

    public int row(int i, int what) {
        if (!isWithin(i, 0, digging.lifts - 1)) {
            return UNKNOWN;
        }
        switch (what) {
            case 0: return digging.froms[i];
            case 1: return digging.tos[i];
            default: return OUTSIDE;
        }
    }

    public int alter(int i, int from, int to) {
        if (!isWithin(i, 0, digging.lifts - 1)) {
            return UNKNOWN;
        }
        digging.froms[i] = from;
        digging.tos[i] = to;
        return 1;
    }

    public int holds() {
        if (digging.dug == null) {
            return STATE;
        }
        return asBit(digging.rowHolds(digging.dug));
    }

    // ---- tasks

    public int task() {
        return tasks.nextTask();
    }

    public int op(int task, int kind, int a, int b) {
        if (!tasks.has(task)) {
            return UNKNOWN;
        }
        if (!isWithin(kind, 0, Tasks.LAST)) {
            return OUTSIDE;
        }
        return tasks.addOp(task, kind, a, b);
    }

    public int run(int task) {
        yard.trace.begin();
        if (!tasks.has(task)) {
            return UNKNOWN;
        }
        return counted(tasks.work(task));
    }

    public long number() {
        return tasks.n;
    }

    public int ran(int what) {
        if (!isWithin(what, 0, 3)) {
            return OUTSIDE;
        }
        return tasks.told(what);
    }

    public int shelf(int shelf, int place) {
        if (!tasks.hasPlace(shelf, place)) {
            return UNKNOWN;
        }
        return tasks.rows[shelf][place];
    }

    // ---- 7 what is told

    public int status() {
        return latest;
    }

    public int found(int finding) {
        return isWithin(finding, NO_BAY, SIZE) ? findings[finding] : UNKNOWN;
    }

    public int trace(int i) {
        return yard.trace.markAt(i);
    }

    public int undo() {
        Act act = journal.takeLatest();
        if (act == null) {
            return STATE;
        }
        yard.restore(act);
        return act.number;
    }

    public long back(int n) {
        if (!isWithin(n, 0, journal.size)) {
            return -1;
        }
        return journal.digestBefore(yard, n);
    }

    public int count(int what) {
        switch (what) {
            case 0: return yard.boxCount;
            case 1: return yard.craneCount;
            case 2: return yard.shipCount;
            case 3: return journal.size;
            case 4: return journal.lastNumber;
            case 5: return yard.wrongBoxes();
            case 6: return tasks.made;
            case 7: return yard.trace.size;
            case 8: return digging.lifts;
            case 9: return yard.windNow;
            case 10: return digging.wanted;
            default: return OUTSIDE;
        }
    }

    public int clear() {
        int boxes = yard.boxCount;
        yard.begin();
        journal.begin();
        digging.begin();
        tasks.begin();
        Arrays.fill(findings, 0);
        Arrays.fill(broken, NONE);
        latest = 0;
        return boxes;
    }

    // ---- what the calls share

    private int refused(int answer) {
        latest = answer;
        return answer;
    }

    /** The end of an ACT that let a BRAKE go: whatever was met, the BRAKE is on again. */
    private int ended(Crane actor, int met) {
        actor.brakeOn = true;
        if (met == 0) {
            latest = 0;
            return journal.lastNumber;
        }
        actor.fails++;
        latest = met;
        return counted(met);
    }

    private int counted(int answer) {
        int finding = FINDING - answer;
        if (finding >= NO_BAY && finding <= SIZE) {
            findings[finding]++;
        }
        return answer;
    }

    private int firstBerth(Crane asked) {
        if (asked.kind != Crane.QUAY) {
            return FINDING - CAST;
        }
        Ship first = yard.shipAt(0);
        return first == null ? FINDING - NOTHING : first.berth;
    }

    private static boolean isWithin(int n, int least, int most) {
        return n >= least && n <= most;
    }

    private static boolean isWeight(int n) {
        return isWithin(n, 1, 400);
    }

    private static boolean isLinkNumber(int n) {
        return isWithin(n, -MOST_LINK, MOST_LINK);
    }

    private static int asBit(boolean yes) {
        return yes ? 1 : 0;
    }

    private static int numberOf(Box box, int ifNone) {
        return box == null ? ifNone : box.number;
    }

    /** The marks of the bodies that began, as far as they are kept. */
    private static final class Trace {
        private static final int KEPT = 100;

        private final int[] marks = new int[KEPT];
        private int size;

        void begin() {
            size = 0;
        }

        void mark(int n) {
            if (size < KEPT) {
                marks[size] = n;
                size++;
            }
        }

        int markAt(int i) {
            return isWithin(i, 0, size - 1) ? marks[i] : NONE;
        }
    }

    private static final class Box {
        private static final int PLAIN = 0, COLD = 1, TANK = 2, OPEN = 3, HIGH = 4, EMPTY = 5;
        private static final int AT_GATE = 0, IN_STACK = 1, AT_CRANE = 2, IN_SHIP = 3, GONE = 4;

        private final int number;
        private int kind;
        private int told;
        private int real;
        private int danger;
        private int port;
        private int where;
        private int first;
        private int second;
        private int third;
        private boolean weighed;
        private int linkShip;
        private int linkX;
        private int linkY;
        private int linkZ;

        Box(int number) {
            this.number = number;
        }

        void begin(int newKind, int newTold, int newReal, int newDanger, int newPort) {
            kind = newKind;
            told = newTold;
            real = newReal;
            danger = newDanger;
            port = newPort;
            weighed = false;
            stand(AT_GATE, 0, 0, 0);
            link(NONE, 0, 0, 0);
        }

        void stand(int newWhere, int newFirst, int newSecond, int newThird) {
            where = newWhere;
            first = newFirst;
            second = newSecond;
            third = newThird;
        }

        void link(int ship, int x, int y, int z) {
            linkShip = ship;
            linkX = x;
            linkY = y;
            linkZ = z;
        }

        int known() {
            return weighed ? real : told;
        }

        boolean isWrong() {
            return weighed && told != real;
        }

        /** Whether it is of a KIND, or is that, too. */
        boolean isOf(int sort) {
            if (sort == PLAIN) {
                return kind == PLAIN || kind == COLD || kind == TANK || kind == EMPTY;
            }
            if (sort == OPEN) {
                return kind == OPEN || kind == HIGH;
            }
            return kind == sort;
        }

        boolean isToComeTo(int ship) {
            boolean inIt = where == IN_SHIP && first == ship;
            return linkShip == ship && !inIt && where != GONE;
        }

        int bears(Trace trace) {
            switch (kind) {
                case COLD:
                    trace.mark(2);
                    return plainBears(trace) - 300;
                case TANK:
                    trace.mark(3);
                    return plainBears(trace) / 4;
                case OPEN:
                case HIGH:
                    trace.mark(4);
                    return 0;
                case EMPTY:
                    trace.mark(6);
                    return plainBears(trace) / 3;
                default:
                    return plainBears(trace);
            }
        }

        private int plainBears(Trace trace) {
            trace.mark(1);
            return 900;
        }

        int tall(Trace trace) {
            switch (kind) {
                case HIGH:
                    trace.mark(15);
                    return boxTall(trace) + 1;
                case EMPTY:
                    trace.mark(16);
                    return 1;
                default:
                    return boxTall(trace);
            }
        }

        private int boxTall(Trace trace) {
            trace.mark(10);
            trace.mark(17);
            return 2;
        }

        int fee(Trace trace) {
            switch (kind) {
                case COLD:
                    trace.mark(22);
                    return boxFee(trace) + 40;
                case TANK:
                    trace.mark(23);
                    return boxFee(trace) + 10 * danger;
                case OPEN:
                    trace.mark(24);
                    return 2 * boxFee(trace);
                case HIGH:
                    trace.mark(25);
                    trace.mark(24);
                    return 2 * boxFee(trace) + 30;
                case EMPTY:
                    trace.mark(26);
                    trace.mark(27);
                    return 3;
                default:
                    return boxFee(trace);
            }
        }

        private int boxFee(Trace trace) {
            trace.mark(20);
            return known() / 10 + 5;
        }

        int watts(Trace trace) {
            if (kind != COLD) {
                return FINDING - CAST;
            }
            trace.mark(32);
            return 4 + known() / 100;
        }
    }

    private static final class Bay {
        private static final int STACKS = 6, TALLEST = 5;

        private final int number;
        private final int[] heights = new int[STACKS];
        private final int[] plugged = new int[STACKS];
        private final int[] filled = new int[STACKS];
        private final Box[] cells = new Box[STACKS * TALLEST];
        private boolean laid;
        private int form;
        private int stacks;

        Bay(int number) {
            this.number = number;
        }

        static boolean areHeights(int digits) {
            if (digits < 1 || digits > 555555) {
                return false;
            }
            int rest = digits;
            for (int s = 0; s < STACKS && rest > 0; s++) {
                if (!isWithin(rest % 10, 1, TALLEST)) {
                    return false;
                }
                rest = rest / 10;
            }
            return true;
        }

        void begin(int newForm, int digits) {
            laid = true;
            form = newForm;
            stacks = 0;
            int rest = digits;
            for (int s = 0; s < STACKS; s++) {
                heights[s] = rest % 10;
                plugged[s] = 0;
                filled[s] = 0;
                stacks += heights[s] > 0 ? 1 : 0;
                rest = rest / 10;
            }
            for (int i = 0; i < cells.length; i++) {
                cells[i] = null;
            }
        }

        boolean hasStack(int stack) {
            return stack >= 0 && stack < stacks;
        }

        private boolean hasPlace(int stack, int place) {
            return stack >= 0 && stack < stacks && place >= 0 && place < heights[stack];
        }

        Box boxIn(int stack, int place) {
            return hasPlace(stack, place) ? cells[stack * TALLEST + place] : null;
        }

        Box topOf(int stack) {
            return hasStack(stack) ? boxIn(stack, filled[stack] - 1) : null;
        }

        void putIn(Box box, int stack, int place) {
            if (hasPlace(stack, place)) {
                cells[stack * TALLEST + place] = box;
                filled[stack]++;
            }
        }

        void takeOut(int stack, int place) {
            if (hasPlace(stack, place)) {
                cells[stack * TALLEST + place] = null;
                filled[stack]--;
            }
        }

        int boxes() {
            int all = 0;
            for (int s = 0; s < stacks; s++) {
                all += filled[s];
            }
            return all;
        }

        int weight() {
            int all = 0;
            for (int i = 0; i < cells.length; i++) {
                if (cells[i] != null) {
                    all += cells[i].known();
                }
            }
            return all;
        }

        boolean takesForm(Box box) {
            switch (form) {
                case 1: return box.isOf(Box.COLD);
                case 2: return box.isOf(Box.EMPTY);
                case 3: return box.isOf(Box.PLAIN);
                default: return true;
            }
        }

        /** RULE 1. */
        boolean topRefuses(Box box, int stack) {
            Box top = topOf(stack);
            if (top == null) {
                return false;
            }
            return top.isOf(Box.OPEN) || (top.isOf(Box.EMPTY) && !box.isOf(Box.EMPTY));
        }

        /** RULE 2; BEARS is asked from place 0 on, and of none above the first that bears not enough. */
        boolean isTooHeavy(Box box, int stack, Trace trace) {
            int above = box.known() + weightOf(stack);
            for (int t = 0; t < TALLEST; t++) {
                Box under = boxIn(stack, t);
                if (under == null) {
                    return false;
                }
                above -= under.known();
                if (above > under.bears(trace)) {
                    return true;
                }
            }
            return false;
        }

        private int weightOf(int stack) {
            int all = 0;
            for (int t = 0; t < TALLEST; t++) {
                Box there = boxIn(stack, t);
                all += there == null ? 0 : there.known();
            }
            return all;
        }

        /** RULE 5. */
        boolean isTooTall(Box box, int stack, Trace trace) {
            int all = 0;
            for (int t = 0; t < TALLEST; t++) {
                Box there = boxIn(stack, t);
                all += there == null ? 0 : there.tall(trace);
            }
            all += box.tall(trace);
            return hasStack(stack) && all > 2 * heights[stack] + 1;
        }
    }

    private static final class Crane {
        private static final int GANTRY = 0, QUAY = 1, RAILED = 2, STRADDLE = 3, REACH = 4;

        private final int number;
        private int kind;
        private int rail;
        private int place;
        private Box held;
        private int lifts;
        private int fails;
        private boolean brakeOn;

        Crane(int number) {
            this.number = number;
        }

        void begin(int newKind, int newRail, int newPlace) {
            kind = newKind;
            rail = newRail;
            place = newPlace;
            held = null;
            lifts = 0;
            fails = 0;
            brakeOn = true;
        }

        /** LOAD. */
        int strength(Trace trace) {
            switch (kind) {
                case QUAY:
                    trace.mark(42);
                    return gantryStrength(trace) + 100;
                case RAILED:
                    trace.mark(43);
                    return gantryStrength(trace) - 50;
                case STRADDLE:
                    return straddleStrength(trace);
                case REACH:
                    trace.mark(45);
                    return straddleStrength(trace) / 2 + 150;
                default:
                    return gantryStrength(trace);
            }
        }

        private int gantryStrength(Trace trace) {
            trace.mark(41);
            return 300;
        }

        private int straddleStrength(Trace trace) {
            trace.mark(44);
            return 200;
        }

        int stop(Trace trace) {
            switch (kind) {
                case QUAY:
                    trace.mark(52);
                    return gantryStop(trace) - 5;
                case STRADDLE:
                    return craneStop(trace);
                case REACH:
                    trace.mark(55);
                    return craneStop(trace) + 2;
                default:
                    return gantryStop(trace);
            }
        }

        private int gantryStop(Trace trace) {
            trace.mark(51);
            return 25;
        }

        private int craneStop(Trace trace) {
            trace.mark(50);
            trace.mark(57);
            return 20;
        }

        boolean reaches(int stack, int t, Trace trace) {
            switch (kind) {
                case QUAY:
                    trace.mark(62);
                    return stack <= 1 && gantryReaches(trace);
                case RAILED:
                    trace.mark(63);
                    return t <= 3 && gantryReaches(trace);
                case STRADDLE:
                    return straddleReaches(t, trace);
                case REACH:
                    trace.mark(65);
                    return stack == 0 || straddleReaches(t, trace);
                default:
                    return gantryReaches(trace);
            }
        }

        private boolean gantryReaches(Trace trace) {
            trace.mark(61);
            return true;
        }

        private boolean straddleReaches(int t, Trace trace) {
            trace.mark(64);
            return t <= 2;
        }
    }

    private static final class Ship {
        private static final int CELLS = 54, MOST_LIMIT = 1000000;
        private static final int TRIM = 0, HEEL = 1, HEIGHT = 2, WEIGHT = 3;

        private final int number;
        private final Box[] cells = new Box[CELLS];
        // What is taken, the sums and how many BOXES as far as a survey (and a trial behind it) came.
        private final boolean[] taken = new boolean[CELLS];
        private final int[] sums = new int[WEIGHT + 1];
        private int boxes;
        private final int[] limits = new int[WEIGHT];
        private final int[] portRow = new int[PORTS];
        private int ports;
        private int nx;
        private int ny;
        private int nz;
        private int berth;
        private int left;
        private int digs;

        Ship(int number) {
            this.number = number;
        }

        void begin(int newNx, int newNy, int newNz, int newBerth) {
            nx = newNx;
            ny = newNy;
            nz = newNz;
            berth = newBerth;
            ports = 0;
            left = 0;
            digs = 0;
            Arrays.fill(limits, MOST_LIMIT);
            for (int i = 0; i < CELLS; i++) {
                cells[i] = null;
            }
        }

        boolean hasColumn(int x, int y) {
            return isWithin(x, 0, nx - 1) && isWithin(y, 0, ny - 1);
        }

        boolean hasCell(int x, int y, int z) {
            return hasColumn(x, y) && isWithin(z, 0, nz - 1);
        }

        int placeNumber(int x, int y, int z) {
            return x + nx * (y + ny * z);
        }

        /** The BOX with the greatest z at x, y. */
        Box topAt(int x, int y) {
            if (!hasColumn(x, y)) {
                return null;
            }
            for (int z = nz - 1; z >= 0; z--) {
                Box there = cells[placeNumber(x, y, z)];
                if (there != null) {
                    return there;
                }
            }
            return null;
        }

        void putIn(Box box, int place) {
            if (isWithin(place, 0, CELLS - 1)) {
                cells[place] = box;
            }
        }

        void survey() {
            Arrays.fill(sums, 0);
            boxes = 0;
            for (int z = 0; z < nz; z++) {
                for (int y = 0; y < ny; y++) {
                    for (int x = 0; x < nx; x++) {
                        Box there = cells[placeNumber(x, y, z)];
                        taken[placeNumber(x, y, z)] = false;
                        if (there != null) {
                            include(there, x, y, z);
                        }
                    }
                }
            }
        }

        void include(Box box, int x, int y, int z) {
            taken[placeNumber(x, y, z)] = true;
            for (int what = TRIM; what <= WEIGHT; what++) {
                sums[what] += box.known() * factor(what, x, y, z);
            }
            boxes++;
        }

        private int factor(int what, int x, int y, int z) {
            switch (what) {
                case TRIM: return 2 * x + 1 - nx;
                case HEEL: return 2 * y + 1 - ny;
                case HEIGHT: return z;
                default: return 1;
            }
        }

        /** What a BOX would meet at x, y, z behind the latest survey: BEYOND, RULE 12, RULE 13, or 0. */
        int meetsAt(Box box, int x, int y, int z) {
            if (!hasCell(x, y, z)) {
                return FINDING - BEYOND;
            }
            if (taken[placeNumber(x, y, z)] || (z > 0 && !taken[placeNumber(x, y, z - 1)])) {
                return RULE - 12;
            }
            for (int what = TRIM; what <= HEIGHT; what++) {
                int then = sums[what] + box.known() * factor(what, x, y, z);
                if (Math.abs(then) > limits[what]) {
                    return RULE - 13;
                }
            }
            return 0;
        }

        int indexOfPort(int port) {
            for (int i = 0; i < ports; i++) {
                if (portRow[i] == port) {
                    return i;
                }
            }
            return NONE;
        }

        int addPort(int port) {
            if (ports < PORTS) {
                portRow[ports] = port;
                ports++;
            }
            return ports;
        }

        int servedPort() {
            return isWithin(left, 0, ports - 1) ? portRow[left] : NONE;
        }

        boolean isLaterPort(int port) {
            return indexOfPort(port) > left;
        }
    }

    /** All that stands in the yard, and what would be met by what a CRANE does there. */
    private static final class Yard {
        private static final int BOXES = 80, CRANES = 12, SHIPS = 3, RAILS = 3, DANGERS = 5;

        private final Box[] boxes = new Box[BOXES];
        private int boxCount;
        private final Bay[] bays = new Bay[PLACES];
        private final Crane[] cranes = new Crane[CRANES];
        private int craneCount;
        private final Ship[] ships = new Ship[SHIPS];
        private int shipCount;
        private final int[] gaps = new int[RAILS];
        private final int[] aparts = new int[DANGERS * DANGERS];
        private int windNow;
        // BOXES with a LINK in the order in which these were told.
        private final Box[] linked = new Box[BOXES];
        private int linkedCount;
        private final Trace trace = new Trace();

        Yard() {
            Arrays.fill(gaps, 1);
        }

        void begin() {
            boxCount = 0;
            craneCount = 0;
            shipCount = 0;
            windNow = 0;
            linkedCount = 0;
            Arrays.fill(gaps, 1);
            Arrays.fill(aparts, 0);
            trace.begin();
            for (int i = 0; i < PLACES; i++) {
                if (bays[i] != null) {
                    bays[i].laid = false;
                }
            }
        }

        // Objects of before a clear() are used again: nothing is made twice.

        Box nextBox() {
            if (boxCount >= BOXES) {
                return null;
            }
            if (boxes[boxCount] == null) {
                boxes[boxCount] = new Box(boxCount);
            }
            boxCount++;
            return boxes[boxCount - 1];
        }

        Crane nextCrane() {
            if (craneCount >= CRANES) {
                return null;
            }
            if (cranes[craneCount] == null) {
                cranes[craneCount] = new Crane(craneCount);
            }
            craneCount++;
            return cranes[craneCount - 1];
        }

        Ship nextShip() {
            if (shipCount >= SHIPS) {
                return null;
            }
            if (ships[shipCount] == null) {
                ships[shipCount] = new Ship(shipCount);
            }
            shipCount++;
            return ships[shipCount - 1];
        }

        int layOut(int bay, int form, int heights) {
            if (!isWithin(bay, 0, PLACES - 1)) {
                return UNKNOWN;
            }
            if (bays[bay] == null) {
                bays[bay] = new Bay(bay);
            }
            bays[bay].begin(form, heights);
            return bays[bay].stacks;
        }

        Box boxAt(int i) {
            return isWithin(i, 0, boxCount - 1) ? boxes[i] : null;
        }

        Crane craneAt(int i) {
            return isWithin(i, 0, craneCount - 1) ? cranes[i] : null;
        }

        Ship shipAt(int i) {
            return isWithin(i, 0, shipCount - 1) ? ships[i] : null;
        }

        /** A BAY that was laid out. */
        Bay bayAt(int i) {
            if (!isWithin(i, 0, PLACES - 1) || bays[i] == null || !bays[i].laid) {
                return null;
            }
            return bays[i];
        }

        Box topAt(int bay, int stack) {
            Bay asked = bayAt(bay);
            return asked == null ? null : asked.topOf(stack);
        }

        int wrongBoxes() {
            int wrong = 0;
            for (int i = 0; i < boxCount; i++) {
                Box asked = boxAt(i);
                if (asked != null && asked.isWrong()) {
                    wrong++;
                }
            }
            return wrong;
        }

        private int apartOf(int danger, int other) {
            boolean both = isWithin(danger, 1, DANGERS - 1) && isWithin(other, 1, DANGERS - 1);
            return both ? aparts[danger * DANGERS + other] : 0;
        }

        int tellApart(int danger, int other, int n) {
            int before = apartOf(danger, other);
            if (isWithin(danger, 1, DANGERS - 1) && isWithin(other, 1, DANGERS - 1)) {
                aparts[danger * DANGERS + other] = n;
                aparts[other * DANGERS + danger] = n;
            }
            return before;
        }

        /** Its LINK becomes the latest that was told; or it is in the order no more. */
        void tellLink(Box box) {
            int kept = 0;
            for (int i = 0; i < linkedCount; i++) {
                if (linked[i] != box) {
                    linked[kept] = linked[i];
                    kept++;
                }
            }
            linkedCount = kept;
            if (box.linkShip != NONE && linkedCount < BOXES) {
                linked[linkedCount] = box;
                linkedCount++;
            }
        }

        boolean allCouldCome(Ship ship, int[] broken) {
            Arrays.fill(broken, NONE);
            ship.survey();
            int ahead = 0;
            for (int i = 0; i < linkedCount; i++) {
                Box box = linked[i];
                if (box == null || !box.isToComeTo(ship.number)) {
                    continue;
                }
                int met = ship.meetsAt(box, box.linkX, box.linkY, box.linkZ);
                if (met != 0) {
                    tellBroken(broken, box.number, ahead, met);
                    return false;
                }
                ship.include(box, box.linkX, box.linkY, box.linkZ);
                ahead++;
            }
            return true;
        }

        private static void tellBroken(int[] broken, int box, int ahead, int met) {
            if (broken.length >= 3) {
                broken[0] = box;
                broken[1] = ahead;
                broken[2] = met;
            }
        }

        /** RULE 7 for a CRANE at a PLACE of a RAIL: those that came before it stand before it. */
        boolean hasRoomOnRail(int rail, int crane, int place) {
            if (!isWithin(rail, 0, RAILS - 1)) {
                return true;
            }
            for (int i = 0; i < craneCount; i++) {
                Crane other = craneAt(i);
                if (other == null || other.rail != rail || i == crane) {
                    continue;
                }
                int between = i < crane ? place - other.place : other.place - place;
                if (between < gaps[rail]) {
                    return false;
                }
            }
            return true;
        }

        boolean takesGap(int rail, int gap) {
            int before = -PLACES;
            for (int i = 0; i < craneCount; i++) {
                Crane asked = craneAt(i);
                if (asked == null || asked.rail != rail) {
                    continue;
                }
                if (asked.place - before < gap) {
                    return false;
                }
                before = asked.place;
            }
            return true;
        }

        private boolean isTooWindy(Crane crane) {
            return windNow > crane.stop(trace);
        }

        int meetsGoing(Crane crane, int place) {
            if (isTooWindy(crane)) {
                return RULE - 6;
            }
            return hasRoomOnRail(crane.rail, crane.number, place) ? 0 : RULE - 7;
        }

        int meetsTaking(Crane crane, Box box) {
            int met = meetsDropping(crane);
            if (met != 0) {
                return met;
            }
            return box.known() > crane.strength(trace) ? RULE - 9 : 0;
        }

        int meetsDropping(Crane crane) {
            if (isTooWindy(crane)) {
                return RULE - 6;
            }
            return crane.place != 0 ? RULE - 10 : 0;
        }

        int meetsLifting(Crane crane, int stack) {
            if (isTooWindy(crane)) {
                return RULE - 6;
            }
            Bay bay = bayAt(crane.place);
            if (bay == null) {
                return FINDING - NO_BAY;
            }
            if (!bay.hasStack(stack)) {
                return FINDING - BEYOND;
            }
            Box top = bay.topOf(stack);
            if (top == null) {
                return FINDING - NOTHING;
            }
            if (!crane.reaches(stack, top.third, trace)) {
                return RULE - 8;
            }
            return top.known() > crane.strength(trace) ? RULE - 9 : 0;
        }

        int meetsSetting(Crane crane, Box box, int stack) {
            if (isTooWindy(crane)) {
                return RULE - 6;
            }
            Bay bay = bayAt(crane.place);
            if (bay == null) {
                return FINDING - NO_BAY;
            }
            if (!bay.hasStack(stack) || bay.filled[stack] >= bay.heights[stack]) {
                return FINDING - BEYOND;
            }
            if (!crane.reaches(stack, bay.filled[stack], trace)) {
                return RULE - 8;
            }
            int met = meetsStanding(bay, box, stack);
            if (met != 0) {
                return met;
            }
            return bay.takesForm(box) ? 0 : FINDING - FORM;
        }

        /** RULES 1 to 5. */
        private int meetsStanding(Bay bay, Box box, int stack) {
            if (bay.topRefuses(box, stack)) {
                return RULE - 1;
            }
            if (bay.isTooHeavy(box, stack, trace)) {
                return RULE - 2;
            }
            if (bay.hasStack(stack) && box.isOf(Box.COLD) && bay.filled[stack] >= bay.plugged[stack]) {
                return RULE - 3;
            }
            if (isTooNear(bay, box, stack)) {
                return RULE - 4;
            }
            return bay.isTooTall(box, stack, trace) ? RULE - 5 : 0;
        }

        private boolean isTooNear(Bay bay, Box box, int stack) {
            for (int i = 0; i < bay.cells.length; i++) {
                Box other = bay.cells[i];
                if (other == null) {
                    continue;
                }
                if (Math.abs(other.second - stack) < apartOf(box.danger, other.danger)) {
                    return true;
                }
            }
            return false;
        }

        int meetsLoading(Crane crane, Box box) {
            if (isTooWindy(crane)) {
                return RULE - 6;
            }
            if (crane.kind != Crane.QUAY) {
                return FINDING - CAST;
            }
            Ship ship = shipAt(box.linkShip);
            if (ship == null) {
                return FINDING - NOTHING;
            }
            if (crane.place != ship.berth) {
                return RULE - 11;
            }
            ship.survey();
            return ship.meetsAt(box, box.linkX, box.linkY, box.linkZ);
        }

        int meetsFetching(Crane crane, Ship ship, int x, int y) {
            if (isTooWindy(crane)) {
                return RULE - 6;
            }
            if (crane.kind != Crane.QUAY) {
                return FINDING - CAST;
            }
            if (crane.place != ship.berth) {
                return RULE - 11;
            }
            if (!ship.hasColumn(x, y)) {
                return FINDING - BEYOND;
            }
            return ship.topAt(x, y) == null ? FINDING - NOTHING : 0;
        }

        /** A CRANE takes hold of a BOX, which is WEIGHED by that. */
        void hold(Crane crane, Box box) {
            bring(box, Box.AT_CRANE, crane.number, 0, 0);
            box.weighed = true;
            crane.lifts++;
        }

        void bring(Box box, int where, int first, int second, int third) {
            leave(box);
            box.stand(where, first, second, third);
            arrive(box);
        }

        private void leave(Box box) {
            if (box.where == Box.IN_STACK) {
                Bay bay = bayAt(box.first);
                if (bay != null) {
                    bay.takeOut(box.second, box.third);
                }
            } else if (box.where == Box.AT_CRANE) {
                Crane crane = craneAt(box.first);
                if (crane != null) {
                    crane.held = null;
                }
            } else if (box.where == Box.IN_SHIP) {
                Ship ship = shipAt(box.first);
                if (ship != null) {
                    ship.putIn(null, box.second);
                }
            }
        }

        private void arrive(Box box) {
            if (box.where == Box.IN_STACK) {
                Bay bay = bayAt(box.first);
                if (bay != null) {
                    bay.putIn(box, box.second, box.third);
                }
            } else if (box.where == Box.AT_CRANE) {
                Crane crane = craneAt(box.first);
                if (crane != null) {
                    crane.held = box;
                }
            } else if (box.where == Box.IN_SHIP) {
                Ship ship = shipAt(box.first);
                if (ship != null) {
                    ship.putIn(box, box.second);
                }
            }
        }

        void restore(Act act) {
            if (act.box != null) {
                bring(act.box, act.where, act.first, act.second, act.third);
                act.box.weighed = act.weighed;
            }
            if (act.crane != null) {
                act.crane.place = act.place;
                act.crane.lifts = act.lifts;
            }
            if (act.ship != null) {
                act.ship.left = act.left;
                act.ship.digs = act.digs;
            }
        }
    }

    /** What an ACT changed (the BOX, the CRANE, the SHIP, or null), as it was before. */
    private static final class Act {
        private int number;
        private Box box;
        private int where;
        private int first;
        private int second;
        private int third;
        private boolean weighed;
        private Crane crane;
        private int place;
        private int held;
        private int lifts;
        private Ship ship;
        private int left;
        private int digs;

        void begin(int newNumber, Box newBox, Crane newCrane, Ship newShip) {
            number = newNumber;
            box = newBox;
            if (newBox != null) {
                where = newBox.where;
                first = newBox.first;
                second = newBox.second;
                third = newBox.third;
                weighed = newBox.weighed;
            }
            crane = newCrane;
            if (newCrane != null) {
                place = newCrane.place;
                held = numberOf(newCrane.held, -1);
                lifts = newCrane.lifts;
            }
            ship = newShip;
            if (newShip != null) {
                left = newShip.left;
                digs = newShip.digs;
            }
        }
    }

    /** The latest ACTS, in a ring, and the NUMBERS. */
    private static final class Journal {
        private static final int KEPT = 60;
        private static final long FACTOR = 0x9E3779B97F4A7C15L;

        private final Act[] acts = new Act[KEPT];
        // For the digest of one that no ACT changed, so that it is read in one form.
        private final Act now = new Act();
        private int oldest;
        private int size;
        private int lastNumber;

        void begin() {
            oldest = 0;
            size = 0;
        }

        /** Is called before the ACT is done: what it changes is kept as it is. */
        void note(Box box, Crane crane, Ship ship) {
            int slot = (oldest + size) % KEPT;
            if (acts[slot] == null) {
                acts[slot] = new Act();
            }
            lastNumber++;
            acts[slot].begin(lastNumber, box, crane, ship);
            if (size < KEPT) {
                size++;
            } else {
                oldest = (oldest + 1) % KEPT;
            }
        }

        Act takeLatest() {
            if (size == 0) {
                return null;
            }
            size--;
            return acts[(oldest + size) % KEPT];
        }

        /** DIGEST of THE STATE before the latest n: of each the first of these ACTS that changed it knows how it was. */
        long digestBefore(Yard yard, int n) {
            long h = 17;
            for (int i = 0; i < yard.boxCount; i++) {
                Act act = firstOfBox(yard.boxAt(i), n);
                if (act != null && act.box != null) {
                    h = mixed(h, act.where);
                    h = mixed(h, act.first);
                    h = mixed(h, act.second);
                    h = mixed(h, act.third);
                    h = mixed(h, act.weighed ? act.box.real : act.box.told);
                }
            }
            for (int i = 0; i < yard.craneCount; i++) {
                Act act = firstOfCrane(yard.craneAt(i), n);
                h = mixed(h, act.place);
                h = mixed(h, act.held);
                h = mixed(h, act.lifts);
            }
            for (int i = 0; i < yard.shipCount; i++) {
                Act act = firstOfShip(yard.shipAt(i), n);
                h = mixed(h, act.left);
                h = mixed(h, act.digs);
            }
            return h;
        }

        private static long mixed(long h, int number) {
            long next = (h ^ number) * FACTOR;
            return next ^ (next >>> 29);
        }

        private Act firstOfBox(Box box, int n) {
            for (int k = n; k >= 1; k--) {
                Act act = fromEnd(k);
                if (act != null && act.box == box) {
                    return act;
                }
            }
            now.begin(0, box, null, null);
            return now;
        }

        private Act firstOfCrane(Crane crane, int n) {
            for (int k = n; k >= 1; k--) {
                Act act = fromEnd(k);
                if (act != null && act.crane == crane) {
                    return act;
                }
            }
            now.begin(0, null, crane, null);
            return now;
        }

        private Act firstOfShip(Ship ship, int n) {
            for (int k = n; k >= 1; k--) {
                Act act = fromEnd(k);
                if (act != null && act.ship == ship) {
                    return act;
                }
            }
            now.begin(0, null, null, ship);
            return now;
        }

        private Act fromEnd(int k) {
            return isWithin(k, 1, size) ? acts[(oldest + size - k) % KEPT] : null;
        }
    }

    /**
     * The search for the first of the shortest rows of LIFTS. A state is a long: for each STACK five digits of
     * three bits from place 0 on (0 nothing, 1 .. 5 by turn in THE ORDER, 6 any other BOX: these are alike), then
     * how many of THE ORDER are out.
     */
    private static final class Search {
        private static final int DIGIT = 3, LANE = 15, OUT_AT = 60, OTHER = 6;
        private static final int LANE_MASK = 0x7FFF, DIGIT_MASK = 7;
        private static final int MOST_STATES = 1 << 20;
        // Of one state: each STACK's TOP to each other STACK, and one of them out.
        private static final int MOST_LIFTS = Digging.STACKS * (Digging.STACKS - 1) + 1;
        private static final long FACTOR = 0x9E3779B97F4A7C15L;
        // How much longer than its lower bound a row may be, in turn: few sweeps, the first ones small.
        private static final int[] SLACKS = {0, 1, 3, 6, MOST_STATES};

        private final int[] heights = new int[Digging.STACKS];
        private final int[] filled = new int[Digging.STACKS];
        private int stacks;
        private int wanted;
        private long[] states = new long[64];
        // Of each state where it came from: the state before it, from, and to + 1 (0: out).
        private int[] steps = new int[64];
        // Where each state stands in states, plus 1, by its hash; twice as long, and a power of two.
        private int[] slots = new int[128];
        private int size;
        private int goal;
        private boolean cut;

        /** LEAST, or NONE. */
        int solve(Bay bay, Digging digging) {
            stacks = Math.min(bay.stacks, Digging.STACKS);
            wanted = digging.wanted;
            long start = startOf(bay, digging);
            int lifts = NONE;
            cut = true;
            for (int i = 0; i < SLACKS.length && cut && lifts < 0; i++) {
                lifts = sweep(start, lowerBound(start) + SLACKS[i]);
            }
            return lifts;
        }

        private long startOf(Bay bay, Digging digging) {
            long start = 0;
            for (int s = 0; s < stacks; s++) {
                heights[s] = bay.heights[s];
                for (int t = 0; t < bay.filled[s]; t++) {
                    int rank = digging.rankOf(bay.boxIn(s, t));
                    long digit = rank >= 0 ? rank + 1 : OTHER;
                    start |= digit << (LANE * s + DIGIT * t);
                }
            }
            return start;
        }

        /**
         * Goes through the states by breadth, LIFTS in their order, and leaves out what cannot end within the bound:
         * the first end that is met is that of the first of the shortest rows. How many LIFTS that has, or NONE.
         */
        private int sweep(long start, int bound) {
            Arrays.fill(slots, 0);
            size = 0;
            cut = false;
            goal = NONE;
            keep(start, 0, slotOf(start));
            int depth = 0;
            int depthEnd = size;
            for (int i = 0; i < MOST_STATES && i < size && goal < 0; i++) {
                if (i == depthEnd) {
                    depth++;
                    depthEnd = size;
                }
                if (size + MOST_LIFTS > states.length) {
                    grow();
                }
                spread(i, bound - depth - 1);
            }
            return goal < 0 ? NONE : depth + 1;
        }

        private void spread(int at, int rest) {
            long state = states[at];
            for (int s = 0; s < stacks; s++) {
                filled[s] = filledOf(state, s);
            }
            for (int from = 0; from < stacks && goal < 0; from++) {
                if (filled[from] == 0) {
                    continue;
                }
                int shift = LANE * from + DIGIT * (filled[from] - 1);
                long top = (state >>> shift) & DIGIT_MASK;
                long without = state & ~(top << shift);
                int step = at * 64 + from * 8;
                if (top == outOf(state) + 1) {
                    reach(without + (1L << OUT_AT), step, rest);
                }
                for (int to = 0; to < stacks && goal < 0; to++) {
                    if (to != from && filled[to] < heights[to]) {
                        reach(without | (top << (LANE * to + DIGIT * filled[to])), step + to + 1, rest);
                    }
                }
            }
        }

        private void reach(long state, int step, int rest) {
            if (lowerBound(state) > rest) {
                cut = true;
                return;
            }
            int slot = slotOf(state);
            if (slots[slot] == 0 && keep(state, step, slot) && outOf(state) == wanted) {
                goal = size - 1;
            }
        }

        private static int filledOf(long state, int stack) {
            int lane = (int) (state >>> (LANE * stack)) & LANE_MASK;
            int digits = 0;
            for (int t = 0; t < Bay.TALLEST && lane != 0; t++) {
                lane >>>= DIGIT;
                digits++;
            }
            return digits;
        }

        private static int outOf(long state) {
            return (int) (state >>> OUT_AT);
        }

        /** Each that is to go out is one LIFT, and each above one that is to go earlier must be brought away. */
        private int lowerBound(long state) {
            int bound = wanted - outOf(state);
            for (int s = 0; s < stacks; s++) {
                int lane = (int) (state >>> (LANE * s)) & LANE_MASK;
                int earliest = OTHER;
                for (int t = 0; t < Bay.TALLEST && lane != 0; t++) {
                    int digit = lane & DIGIT_MASK;
                    bound += digit > earliest ? 1 : 0;
                    earliest = Math.min(earliest, digit);
                    lane >>>= DIGIT;
                }
            }
            return bound;
        }

        /** Whether there was room. */
        private boolean keep(long state, int step, int slot) {
            if (size >= states.length) {
                return false;
            }
            states[size] = state;
            steps[size] = step;
            size++;
            slots[slot] = size;
            return true;
        }

        /** The slot where a state is, or where it belongs. */
        private int slotOf(long state) {
            int mask = slots.length - 1;
            int slot = (int) ((state * FACTOR) >>> 40) & mask;
            for (int i = 0; i < mask; i++) {
                int kept = slots[slot];
                if (kept == 0 || states[kept - 1] == state) {
                    return slot;
                }
                slot = (slot + 1) & mask;
            }
            return slot;
        }

        private void grow() {
            int length = 2 * states.length;
            states = Arrays.copyOf(states, length);
            steps = Arrays.copyOf(steps, length);
            slots = new int[2 * length];
            for (int i = 0; i < size; i++) {
                slots[slotOf(states[i])] = i + 1;
            }
        }

        /** Writes the row that leads to the goal, from its last LIFT on. */
        void writeRow(int[] froms, int[] tos, int lifts) {
            int at = goal;
            for (int i = lifts - 1; i >= 0; i--) {
                if (!isWithin(at, 0, size - 1) || i >= froms.length || i >= tos.length) {
                    return;
                }
                int step = steps[at];
                int to = step % 8;
                froms[i] = step / 8 % 8;
                tos[i] = to == 0 ? NONE : to - 1;
                at = step / 64;
            }
        }
    }

    /** THE ORDER, the searches for it, and THE ROW. */
    private static final class Digging {
        private static final int STACKS = 4, BOXES = 6, WANTED = 5, SEARCHES = 40;

        private final Box[] order = new Box[WANTED];
        private int wanted;
        private int[] froms = new int[16];
        private int[] tos = new int[16];
        private int lifts;
        private int searches;
        private Bay dug;
        private Search search;
        // A BAY as THE ROW leaves it.
        private final Box[] cells = new Box[Bay.STACKS * Bay.TALLEST];
        private final int[] filled = new int[Bay.STACKS];

        void begin() {
            wanted = 0;
            lifts = 0;
            searches = 0;
            dug = null;
        }

        int rankOf(Box box) {
            for (int i = 0; i < wanted; i++) {
                if (order[i] == box) {
                    return i;
                }
            }
            return NONE;
        }

        int addWanted(Box box) {
            if (wanted >= WANTED) {
                return FULL;
            }
            order[wanted] = box;
            wanted++;
            return wanted;
        }

        int dropOrder() {
            int before = wanted;
            wanted = 0;
            return before;
        }

        boolean hasOrderIn(Bay bay) {
            for (int i = 0; i < wanted; i++) {
                Box box = order[i];
                if (box == null || box.where != Box.IN_STACK || box.first != bay.number) {
                    return false;
                }
            }
            return true;
        }

        int searchIn(Bay bay) {
            if (searches >= SEARCHES) {
                return FULL;
            }
            searches++;
            lifts = 0;
            if (search == null) {
                search = new Search();
            }
            int fewest = wanted == 0 ? 0 : search.solve(bay, this);
            if (fewest < 0) {
                return NONE;
            }
            if (fewest > froms.length) {
                froms = new int[fewest];
                tos = new int[fewest];
            }
            search.writeRow(froms, tos, fewest);
            lifts = fewest;
            dug = bay;
            return fewest;
        }

        boolean rowHolds(Bay bay) {
            if (!hasOrderIn(bay)) {
                return false;
            }
            copy(bay);
            int out = 0;
            for (int i = 0; i < lifts; i++) {
                Box top = out < wanted ? topOf(bay, froms[i]) : null;
                if (top == null) {
                    return false;
                }
                filled[froms[i]]--;
                if (tos[i] == NONE) {
                    if (top != order[out]) {
                        return false;
                    }
                    out++;
                } else if (!putOn(bay, top, froms[i], tos[i])) {
                    return false;
                }
            }
            return out == wanted;
        }

        private void copy(Bay bay) {
            for (int s = 0; s < Bay.STACKS; s++) {
                filled[s] = bay.filled[s];
            }
            for (int i = 0; i < cells.length; i++) {
                cells[i] = bay.cells[i];
            }
        }

        private Box topOf(Bay bay, int stack) {
            if (!bay.hasStack(stack) || filled[stack] < 1) {
                return null;
            }
            return cells[stack * Bay.TALLEST + filled[stack] - 1];
        }

        private boolean putOn(Bay bay, Box box, int from, int to) {
            if (to == from || !bay.hasStack(to) || filled[to] >= bay.heights[to]) {
                return false;
            }
            cells[to * Bay.TALLEST + filled[to]] = box;
            filled[to]++;
            return true;
        }
    }

    /** TASKS, their runs, and the SHELVES. */
    private static final class Tasks {
        private static final int TASKS = 6, OPS = 10, SHELVES = 4, PLACES_AT_FIRST = 3;
        private static final int TRY = 14, LAST = 15;
        private static final int A_BOX = 0, A_CRANE = 1, A_BAY = 2;

        private final Yard yard;
        private final int[] kinds = new int[TASKS * OPS];
        private final int[] as = new int[TASKS * OPS];
        private final int[] bs = new int[TASKS * OPS];
        private final int[] sizes = new int[TASKS];
        private int made;
        private boolean worked;
        private int linkKind = NONE;
        private int linkNumber = NONE;
        private long n;
        private int began;
        private int endedAt = NONE;
        // What lies on the SHELVES; a row may be longer than its SHELF.
        private final int[][] rows = new int[SHELVES][PLACES_AT_FIRST];
        private final int[] lengths = new int[SHELVES];

        Tasks(Yard yard) {
            this.yard = yard;
            emptyShelves();
        }

        void begin() {
            made = 0;
            worked = false;
            n = 0;
            emptyShelves();
        }

        private void emptyShelves() {
            for (int i = 0; i < SHELVES; i++) {
                lengths[i] = PLACES_AT_FIRST;
                Arrays.fill(rows[i], NONE);
            }
        }

        boolean has(int task) {
            return isWithin(task, 0, made - 1);
        }

        int nextTask() {
            if (made >= TASKS) {
                return FULL;
            }
            sizes[made] = 0;
            made++;
            return made - 1;
        }

        int addOp(int task, int kind, int a, int b) {
            if (!has(task)) {
                return UNKNOWN;
            }
            if (sizes[task] >= OPS) {
                return FULL;
            }
            int at = task * OPS + sizes[task];
            kinds[at] = kind;
            as[at] = a;
            bs[at] = b;
            sizes[task]++;
            return sizes[task];
        }

        boolean hasPlace(int shelf, int place) {
            return isWithin(shelf, 0, SHELVES - 1) && isWithin(place, 0, lengths[shelf] - 1);
        }

        int told(int what) {
            if (!worked) {
                return NONE;
            }
            switch (what) {
                case 0: return linkKind;
                case 1: return linkNumber;
                case 2: return endedAt;
                default: return began;
            }
        }

        int work(int task) {
            if (!has(task)) {
                return UNKNOWN;
            }
            worked = true;
            n = 0;
            began = 0;
            endedAt = NONE;
            link(NONE, NONE);
            int met = workOps(task * OPS, task * OPS + sizes[task], 0);
            if (met == 0) {
                return 1;
            }
            endedAt = met / 8 - task * OPS;
            return FINDING - met % 8;
        }

        /** 0, or where the FINDING came that nothing ended, times 8, and its number. */
        private int workOps(int from, int end, int depth) {
            if (depth > OPS) {
                return 0;
            }
            int next = from;
            for (int at = from; at < end; at++) {
                // What stands among the OPS of a TRY or a LAST was worked with it.
                if (at < next) {
                    continue;
                }
                int met;
                began++;
                if (kinds[at] == TRY) {
                    next = behind(at + 1, as[at], end);
                    met = tried(bs[at], workOps(at + 1, next, depth + 1));
                } else if (kinds[at] == LAST) {
                    int middle = behind(at + 1, as[at], end);
                    next = behind(middle, bs[at], end);
                    int first = workOps(at + 1, middle, depth + 1);
                    int last = workOps(middle, next, depth + 1);
                    met = last != 0 ? last : first;
                } else {
                    int finding = step(kinds[at], as[at], bs[at]);
                    met = finding == 0 ? 0 : at * 8 + finding;
                }
                if (met != 0) {
                    return met;
                }
            }
            return 0;
        }

        /** Where the OPS end that are told from a place on: not behind those among which they stand. */
        private static int behind(int from, int ops, int end) {
            return from + Math.max(0, Math.min(ops, end - from));
        }

        private int tried(int finding, int met) {
            if (met == 0 || (finding != 0 && finding != met % 8)) {
                return met;
            }
            n = met % 8;
            return 0;
        }

        /** An OP that has none in it: its FINDING, or 0. */
        private int step(int kind, int a, int b) {
            switch (kind) {
                case 0: return linkBox(yard.boxAt(a));
                case 1: return linkCrane(yard.craneAt(a));
                case 2: return linkBay(a);
                case 3: return linkTop(a);
                case 4: return linkHeld();
                case 5: return linkBelow();
                case 6:
                    n = a;
                    return 0;
                case 7: return addOfBox(a);
                case 8: return addOfCrane(a);
                case 9: return divide();
                case 10: return keepLink(a, b);
                case 11: return linkFrom(a, b);
                case 12: return newRow(a);
                case 13: return lookAt(a);
                default: return 0;
            }
        }

        private void link(int kind, int number) {
            linkKind = kind;
            linkNumber = number;
        }

        private int linkBox(Box box) {
            link(box == null ? NONE : A_BOX, numberOf(box, NONE));
            return 0;
        }

        private int linkCrane(Crane crane) {
            link(crane == null ? NONE : A_CRANE, crane == null ? NONE : crane.number);
            return 0;
        }

        private int linkBay(int a) {
            boolean laid = yard.bayAt(a) != null;
            link(laid ? A_BAY : NONE, laid ? a : NONE);
            return 0;
        }

        /** What "as" meets: CAST of another thing, NOTHING of none. */
        private int asKind(int kind) {
            if (linkKind == kind) {
                return 0;
            }
            return linkKind == NONE ? NOTHING : CAST;
        }

        private int linkTop(int stack) {
            Bay bay = yard.bayAt(linkNumber);
            int met = asKind(A_BAY);
            if (met != 0 || bay == null) {
                return met;
            }
            return bay.hasStack(stack) ? linkBox(bay.topOf(stack)) : BEYOND;
        }

        private int linkHeld() {
            Crane crane = yard.craneAt(linkNumber);
            int met = asKind(A_CRANE);
            return met != 0 || crane == null ? met : linkBox(crane.held);
        }

        private int linkBelow() {
            Box box = yard.boxAt(linkNumber);
            int met = asKind(A_BOX);
            if (met != 0 || box == null) {
                return met;
            }
            Bay bay = box.where == Box.IN_STACK ? yard.bayAt(box.first) : null;
            return linkBox(bay == null ? null : bay.boxIn(box.second, box.third - 1));
        }

        private int addOfBox(int a) {
            Box box = yard.boxAt(linkNumber);
            int met = asKind(A_BOX);
            if (met != 0 || box == null) {
                return met;
            }
            if (a == 3 && !box.isOf(Box.COLD)) {
                return CAST;
            }
            switch (a) {
                case 0:
                    n += box.bears(yard.trace);
                    return 0;
                case 1:
                    n += box.tall(yard.trace);
                    return 0;
                case 2:
                    n += box.fee(yard.trace);
                    return 0;
                case 3:
                    n += box.watts(yard.trace);
                    return 0;
                default:
                    n += box.known();
                    return 0;
            }
        }

        private int addOfCrane(int a) {
            Crane crane = yard.craneAt(linkNumber);
            int met = asKind(A_CRANE);
            if (met != 0 || crane == null) {
                return met;
            }
            if (a == 0) {
                n += crane.strength(yard.trace);
            } else if (a == 1) {
                n += crane.stop(yard.trace);
            } else {
                n += crane.place;
            }
            return 0;
        }

        private int divide() {
            Bay bay = yard.bayAt(linkNumber);
            int met = asKind(A_BAY);
            if (met != 0 || bay == null) {
                return met;
            }
            int boxes = bay.boxes();
            if (boxes == 0) {
                return NOUGHT;
            }
            n = n / boxes;
            return 0;
        }

        private static int kindOn(int shelf) {
            return shelf == 3 ? A_CRANE : A_BOX;
        }

        private int keepLink(int shelf, int place) {
            if (!isWithin(shelf, 0, SHELVES - 1)) {
                return BEYOND;
            }
            if (linkKind != NONE && linkKind != kindOn(shelf)) {
                return CAST;
            }
            if (!hasPlace(shelf, place)) {
                return BEYOND;
            }
            Box box = linkKind == A_BOX ? yard.boxAt(linkNumber) : null;
            if (box != null && !takesKind(shelf, box)) {
                return FORM;
            }
            rows[shelf][place] = linkNumber;
            return 0;
        }

        private static boolean takesKind(int shelf, Box box) {
            switch (shelf) {
                case 1: return box.isOf(Box.PLAIN);
                case 2: return box.isOf(Box.COLD);
                default: return true;
            }
        }

        private int linkFrom(int shelf, int place) {
            if (!hasPlace(shelf, place)) {
                return BEYOND;
            }
            int number = rows[shelf][place];
            link(number == NONE ? NONE : kindOn(shelf), number);
            return 0;
        }

        private int newRow(int shelf) {
            if (!isWithin(shelf, 0, SHELVES - 1)) {
                return BEYOND;
            }
            int places = (byte) n;
            if (places < 0) {
                return SIZE;
            }
            if (places > rows[shelf].length) {
                rows[shelf] = new int[places];
            }
            lengths[shelf] = places;
            Arrays.fill(rows[shelf], NONE);
            return 0;
        }

        private int lookAt(int a) {
            if (linkKind == NONE || !isWithin(a, 0, 7)) {
                return 0;
            }
            if (a == 7) {
                return asKind(A_CRANE);
            }
            int met = asKind(A_BOX);
            Box box = yard.boxAt(linkNumber);
            if (met != 0 || a == 6 || box == null) {
                return met;
            }
            return box.isOf(a) ? 0 : CAST;
        }
    }
}
