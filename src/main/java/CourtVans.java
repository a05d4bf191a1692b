import java.util.Arrays;

/** Vans to the courts, as ../shared/DOC.md tells it; README.md says how to use it. */
public final class CourtVans {
    public static final int BAD = -1, FULL = -2, NONE = -3, STATE = -4;

    private static final int NO_CELL = -9;
    private static final int DAY = 1440;
    private static final int JAIL = 0, COURT = 1, POLICE = 2;
    private static final int MOST_PLACES = 8, MOST_PERSONS = 12, MOST_VANS = 3, MOST_DELAYS = 8;
    private static final int MOST_ENTRIES = 40, MOST_THINGS = 16, MOST_LINES = 8;
    private static final int HOURS = 24, GROUPS = 4, CAUSES = 5, NO_CAUSE = 4;
    private static final int MOST_STOPS = 4, MOST_IN_BAND = 8, MOST_AT_NIGHT = 6;
    /** More than any way takes. */
    private static final int FAR = 1000000;

    private final World world = new World();
    private final World kept = new World();
    private boolean isKept;
    private final Trip trip = new Trip(world);
    private final Loads loads = new Loads(world, trip);
    private final Table rows = new Table(3, MOST_IN_BAND);
    private final Cells cells = new Cells(world);
    private final Doors doors = new Doors(world);
    private final Reader reader = new Reader();
    private final Fines fines = new Fines(world);
    private final Night nights = new Night(world, doors);
    private final Host host = new Host(world);

    public CourtVans() {
        isKept = false;
    }

    // ---- places, roads

    public int minutes(int n) {
        if (!isWithin(n, 1, DAY - 1)) {
            return BAD;
        }
        if (world.now + n >= DAY) {
            return STATE;
        }
        world.now += n;
        return world.now;
    }

    public int place(int kind, int room, int cap, int hours) {
        if (!isWithin(kind, JAIL, POLICE) || !isWithin(hours, 0, DAY * DAY - 1)) {
            return BAD;
        }
        boolean isRight = kind == COURT
                ? isWithin(room, 0, 6) && isWithin(cap, 1, 4)
                : isWithin(room, 0, 20) && cap == 1;
        int from = hours / DAY;
        int till = hours % DAY;
        if (!isRight || till < from) {
            return BAD;
        }
        return world.places.add(kind, room, cap, from, till);
    }

    public int road(int a, int b, int n) {
        if (!arePlaces(a, b) || !isWithin(n, 1, 300)) {
            return BAD;
        }
        int was = world.roadMinutes(a, b);
        world.layRoad(a, b, n);
        return was;
    }

    public int traffic(int hour, int n) {
        if (!isWithin(hour, 0, HOURS - 1) || !isWithin(n, 0, 200)) {
            return BAD;
        }
        int was = world.traffic[hour];
        world.traffic[hour] = n;
        return was;
    }

    public int drive(int a, int b, int minute) {
        if (!arePlaces(a, b) || !isMinute(minute)) {
            return BAD;
        }
        return world.driveMinutes(a, b, minute);
    }

    // ---- persons

    public int person(int group, int home, int court, int due) {
        if (!isWithin(group, 0, GROUPS - 1) || !isHome(home) || !isCourt(court)) {
            return BAD;
        }
        if (due < 0 || !isWithin(due / DAY, 1, 120)) {
            return BAD;
        }
        return world.persons.add(group, home, court, due % DAY, due / DAY);
    }

    public int apart(int group, int other, boolean are) {
        if (!isWithin(group, 0, GROUPS - 1) || !isWithin(other, 0, GROUPS - 1)) {
            return BAD;
        }
        return world.tie(world.apart, group, other, are);
    }

    public int bar(int person, int other, boolean are) {
        if (!isPerson(person) || !isPerson(other) || person == other) {
            return BAD;
        }
        return world.tie(world.bars, person, other, are);
    }

    public int foes(int person, int other) {
        if (!isPerson(person) || !isPerson(other) || person == other) {
            return BAD;
        }
        return world.areFoes(person, other) ? 1 : 0;
    }

    public int wire(int person, boolean is) {
        if (!isPerson(person)) {
            return BAD;
        }
        int was = bit(world.wired, person);
        world.wired = withBit(world.wired, person, is);
        return was;
    }

    public int of(int person, int what) {
        if (!isPerson(person) || !isWithin(what, 0, 5)) {
            return BAD;
        }
        return what == 5 ? bit(world.wired, person) : world.persons.cell(person, what);
    }

    // ---- vans, rides

    public int van(int place, int seats, int hours) {
        if (!isHome(place) || !isWithin(seats, 1, 6)) {
            return BAD;
        }
        if (hours < 0 || !isWithin(hours / DAY, 60, 900)) {
            return BAD;
        }
        return world.vans.add(place, seats, hours % DAY, hours / DAY, 0);
    }

    public int delay(int van, int minute, int cause, int n) {
        if (!isVan(van) || !isMinute(minute) || !isWithin(cause, 0, NO_CAUSE - 1) || !isWithin(n, 1, 240)) {
            return BAD;
        }
        return world.delays.add(van, minute, cause, n, 0);
    }

    public int route(int van, int persons, int what) {
        if (!mayRide(van, persons) || what < -2) {
            return BAD;
        }
        if (!trip.find(van, persons)) {
            return STATE;
        }
        switch (what) {
            case -1:
                return trip.late;
            case -2:
                return trip.lastArrival();
            default:
                return what < trip.stops ? trip.bestOrder[what] : NONE;
        }
    }

    public int arrival(int van, int persons, int person) {
        if (!mayRide(van, persons) || !isPerson(person) || bit(persons, person) == 0) {
            return BAD;
        }
        return trip.find(van, persons) ? trip.arrivalOf(person) : STATE;
    }

    // ---- plans

    public int riders(int place) {
        return isHome(place) ? world.ridersOf(place) : BAD;
    }

    public int plan(int place) {
        return isHome(place) ? loads.solve(place) : BAD;
    }

    public int vanOf(int person) {
        if (!isPerson(person)) {
            return BAD;
        }
        if (bit(world.wired, person) == 1) {
            return STATE;
        }
        int sum = loads.solve(world.persons.cell(person, World.HOME));
        return sum < 0 ? sum : loads.vanWith(person);
    }

    public int less(int place) {
        return isHome(place) ? loads.leftOut(place) : BAD;
    }

    public int bound(int place) {
        return isHome(place) ? loads.boundOf(place) : BAD;
    }

    public int prove(int place) {
        if (!isHome(place)) {
            return BAD;
        }
        int sum = loads.solve(place);
        return sum < 0 ? sum : loads.writeRows(rows);
    }

    public int row(int i, int what) {
        return rows.has(i) && isWithin(what, 0, 2) ? rows.cell(i, what) : NO_CELL;
    }

    public int alterRow(int i, int what, int v) {
        if (!rows.has(i) || !isWithin(what, 0, 2)) {
            return NO_CELL;
        }
        int was = rows.cell(i, what);
        rows.change(i, what, v);
        return was;
    }

    public int drop() {
        if (rows.count == 0) {
            return NONE;
        }
        rows.count--;
        return rows.count;
    }

    public int judge(int place) {
        return isHome(place) ? loads.judgeRows(place, rows) : BAD;
    }

    // ---- cells, doors, hearings

    public int held(int court, int persons, int what) {
        if (!isCourt(court) || !arePersons(persons) || what != -1 && !isPerson(what)) {
            return BAD;
        }
        if (Integer.bitCount(persons) > MOST_IN_BAND) {
            return FULL;
        }
        int parts = cells.split(court, persons);
        if (parts < 0 || what == -1) {
            return parts;
        }
        return bit(persons, what) == 1 ? cells.partWith(what) : NONE;
    }

    public int enter(int person, int place, int minute, int proofs) {
        if (!isPerson(person) || !isPlace(place) || !isMinute(minute) || !isWithin(proofs, 0, 3)) {
            return BAD;
        }
        return world.entries.add(person, place, minute, proofs, world.now);
    }

    public int at(int person, int m, int k) {
        if (!isPerson(person) || !isMinute(m) || !isMinute(k)) {
            return BAD;
        }
        return doors.whereIs(person, m, k);
    }

    public int counted(int place, int m, int k, boolean unsure) {
        if (!isPlace(place) || !isMinute(m) || !isMinute(k)) {
            return BAD;
        }
        int n = 0;
        for (int p = 0; p < world.persons.count; p++) {
            if (doors.whereIs(p, m, k) == place && !(unsure && doors.isSure(p, m, k))) {
                n++;
            }
        }
        return n;
    }

    public int came(int person, int k) {
        return isPerson(person) && isMinute(k) ? doors.firstAtCourt(person, k) : BAD;
    }

    public int heard(int person, int k) {
        return isPerson(person) && isMinute(k) ? doors.hearing(person, k) : BAD;
    }

    // ---- contracts

    public int feed(long eight, int n) {
        return isWithin(n, 1, 8) ? reader.take(eight, n) : BAD;
    }

    public int read() {
        int fault = reader.parse();
        if (fault >= 0) {
            return -100 - fault;
        }
        world.lines.become(reader.lines);
        return world.lines.count;
    }

    public int line(int i, int what) {
        return world.lines.has(i) && isWithin(what, 0, 4) ? world.lines.cell(i, what) : NO_CELL;
    }

    public int part(int person, int van, int cause, int k) {
        if (!isPerson(person) || !isVan(van) || !isWithin(cause, 0, CAUSES - 1) || !isMinute(k)) {
            return BAD;
        }
        fines.share(person, van, doors.firstAtCourt(person, k));
        return fines.parts[cause];
    }

    public int fine(int person, int van, int k) {
        if (!isPerson(person) || !isVan(van) || !isMinute(k)) {
            return BAD;
        }
        fines.share(person, van, doors.firstAtCourt(person, k));
        return fines.sum();
    }

    // ---- the night, things

    public int night(int court, int persons, int m, int what) {
        if (!isCourt(court) || !arePersons(persons) || !isMinute(m)) {
            return BAD;
        }
        if (!isWithin(what, -2, -1) && !isPerson(what)) {
            return BAD;
        }
        if (Integer.bitCount(persons) > MOST_AT_NIGHT) {
            return FULL;
        }
        if (!nights.settle(court, persons, m)) {
            return STATE;
        }
        switch (what) {
            case -1:
                return nights.abroad();
            case -2:
                return nights.drives();
            default:
                return bit(persons, what) == 1 ? nights.placeWith(what) : NONE;
        }
    }

    public int thing(int person, int place) {
        if (!isPerson(person) || place != -1 && !isPlace(place)) {
            return BAD;
        }
        return world.things.add(person, place, 0, 0, 0);
    }

    public int carry(int thing, int place) {
        if (!world.things.has(thing) || place != -1 && !isPlace(place)) {
            return BAD;
        }
        int was = world.things.cell(thing, World.LIES);
        world.things.change(thing, World.LIES, place);
        return was < 0 ? NONE : was;
    }

    public int lacks(int person, int place) {
        return isPerson(person) && isPlace(place) ? world.lackedBy(person, place) : BAD;
    }

    public int fetch(int person, int place) {
        if (!isPerson(person) || !isPlace(place)) {
            return BAD;
        }
        return shortest(world, place, place, world.placesOf(world.lackedBy(person, place)), 0);
    }

    // ---- the host

    public int sheet(int sheet, int sort, int n) {
        if (!host.isSheet(sheet) || !isWithin(sort, -1, 3)) {
            return BAD;
        }
        if (sort == -1) {
            return host.tearSheet(sheet);
        }
        if (n > Host.ITEMS) {
            return BAD;
        }
        return n < 0 ? Host.BELOW_0 : host.makeSheet(sheet, sort, n);
    }

    public int put(int sheet, int i, int v) {
        if (!host.isSheet(sheet)) {
            return BAD;
        }
        int refusal = host.refusal(sheet, host.sorts[sheet], i);
        return refusal < 0 ? refusal : host.write(sheet, i, v);
    }

    public int item(int sheet, int sort, int i) {
        if (!host.isSheet(sheet) || !isWithin(sort, 0, 3)) {
            return BAD;
        }
        int refusal = host.refusal(sheet, sort, i);
        return refusal < 0 ? refusal : host.itemAt(sheet, i);
    }

    public int comes(int sheet, int i) {
        if (!host.isSheet(sheet)) {
            return BAD;
        }
        int refusal = host.refusal(sheet, Host.SHORTS, i);
        if (refusal < 0) {
            return refusal;
        }
        // i is a place of the row here, so i + 3 can't wrap
        refusal = host.refusal(sheet, Host.SHORTS, i + 3);
        if (refusal < 0) {
            return refusal;
        }
        return enter(host.itemAt(sheet, i), host.itemAt(sheet, i + 1),
                host.itemAt(sheet, i + 2), host.itemAt(sheet, i + 3));
    }

    public int shelf(int shelf, int what, int n) {
        if (!host.isShelf(shelf)) {
            return BAD;
        }
        switch (what) {
            case Host.A_PERSON:
                return isPerson(n) ? host.hold(shelf, what, n, 0) : BAD;
            case Host.A_VAN:
                return isVan(n) ? host.hold(shelf, what, n, 0) : BAD;
            case Host.A_THING:
                return world.things.has(n) ? host.hold(shelf, what, n, 0) : BAD;
            case Host.A_ROW:
                return host.isSheet(n) ? host.holdRow(shelf, n) : BAD;
            case Host.EMPTY:
                return host.hold(shelf, what, 0, 0);
            default:
                return BAD;
        }
    }

    public int taken(int shelf, int as) {
        if (!host.isShelf(shelf)) {
            return BAD;
        }
        if (isWithin(as, 0, 6)) {
            return host.takenAsKind(shelf, as);
        }
        return isWithin(as, 10, 13) ? host.takenAsRow(shelf, as - 10) : BAD;
    }

    public int act(int shelf, int act, int x) {
        host.ran = 0;
        if (!host.isShelf(shelf) || !isWithin(act, 0, 3)) {
            return 0;
        }
        return host.run(shelf, act, x);
    }

    public int trace(int i) {
        return isWithin(i, 0, host.ran - 1) ? host.trace[i] : NONE;
    }

    public int many(int what) {
        switch (what) {
            case 0:
                return world.now;
            case 1:
                return world.places.count;
            case 2:
                return world.persons.count;
            case 3:
                return world.vans.count;
            case 4:
                return world.delays.count;
            case 5:
                return world.entries.count;
            case 6:
                return world.things.count;
            case 7:
                return rows.count;
            case 8:
                return world.lines.count;
            case 9:
                return reader.count;
            case 10:
                return host.ran;
            case 11:
                return Integer.bitCount(world.wired);
            default:
                return BAD;
        }
    }

    // ---- kept

    public int keep() {
        kept.become(world);
        isKept = true;
        return 1;
    }

    public int again() {
        if (!isKept) {
            return NONE;
        }
        world.become(kept);
        return 1;
    }

    // ---- what the calls ask of their arguments

    private static boolean isWithin(int v, int low, int high) {
        return v >= low && v <= high;
    }

    private static boolean isMinute(int m) {
        return isWithin(m, 0, DAY - 1);
    }

    private static int bit(int bits, int i) {
        return bits >> i & 1;
    }

    private static int withBit(int bits, int i, boolean is) {
        return is ? bits | 1 << i : bits & ~(1 << i);
    }

    private boolean isPlace(int i) {
        return world.places.has(i);
    }

    private boolean isCourt(int i) {
        return isPlace(i) && world.places.cell(i, World.KIND) == COURT;
    }

    private boolean isHome(int i) {
        return isPlace(i) && world.places.cell(i, World.KIND) != COURT;
    }

    private boolean arePlaces(int a, int b) {
        return isPlace(a) && isPlace(b) && a != b;
    }

    private boolean isPerson(int i) {
        return world.persons.has(i);
    }

    private boolean arePersons(int bits) {
        return isWithin(bits, 0, (1 << world.persons.count) - 1);
    }

    private boolean isVan(int i) {
        return world.vans.has(i);
    }

    private boolean mayRide(int van, int persons) {
        if (!isVan(van) || persons == 0 || !arePersons(persons)) {
            return false;
        }
        int place = world.vans.cell(van, World.STANDS);
        return (persons & ~world.personsOf(place)) == 0;
    }

    /** The least MINUTES from a PLACE by all that are left (bits) and to the end. */
    private static int shortest(World world, int from, int end, int left, int depth) {
        if (left == 0 || depth >= MOST_PLACES) {
            return world.roadMinutes(from, end);
        }
        int least = FAR;
        for (int next = 0; next < MOST_PLACES; next++) {
            if (bit(left, next) == 1) {
                int rest = shortest(world, next, end, withBit(left, next, false), depth + 1);
                least = Math.min(least, world.roadMinutes(from, next) + rest);
            }
        }
        return least;
    }

    /** Rows of numbers, all made at once and used again. */
    private static final class Table {
        private final int width;
        private final int limit;
        private final int[] numbers;
        private int count;

        Table(int width, int limit) {
            this.width = Math.max(0, width);
            this.limit = Math.max(0, limit);
            numbers = new int[this.width * this.limit];
            count = 0;
        }

        boolean has(int i) {
            return i >= 0 && i < count && i < limit;
        }

        int cell(int i, int column) {
            boolean is = i >= 0 && i < count && i < limit && column >= 0 && column < width;
            return is ? numbers[i * width + column] : NO_CELL;
        }

        void change(int i, int column, int v) {
            if (i >= 0 && i < count && i < limit && column >= 0 && column < width) {
                numbers[i * width + column] = v;
            }
        }

        /** The new row's number, or FULL; numbers beyond the width are not kept. */
        int add(int a, int b, int c, int d, int e) {
            if (count >= limit) {
                return FULL;
            }
            int i = count;
            count++;
            change(i, 0, a);
            change(i, 1, b);
            change(i, 2, c);
            change(i, 3, d);
            change(i, 4, e);
            return i;
        }

        void become(Table other) {
            count = Math.min(other.count, limit);
            copy(other.numbers, numbers);
        }
    }

    private static void copy(int[] from, int[] to) {
        System.arraycopy(from, 0, to, 0, Math.min(from.length, to.length));
    }

    /** All that keep() keeps. */
    private static final class World {
        private static final int KIND = 0, ROOM = 1, CAP = 2, OPENS = 3, CLOSES = 4;
        private static final int GROUP = 0, HOME = 1, HEARD_AT = 2, DUE = 3, LENGTH = 4;
        private static final int STANDS = 0, SEATS = 1, START = 2, LONGEST = 3;
        private static final int OF_VAN = 0, SINCE = 1, CAUSE = 2, LOST = 3;
        private static final int WHO = 0, WHERE = 1, WHEN = 2, PROOFS = 3, TOLD = 4;
        private static final int OWNER = 0, LIES = 1;
        private static final int SORT = 0, NAMED = 1, FIRST_N = 2, SECOND_N = 3, THIRD_N = 4;

        private final Table places = new Table(5, MOST_PLACES);
        private final Table persons = new Table(5, MOST_PERSONS);
        private final Table vans = new Table(4, MOST_VANS);
        private final Table delays = new Table(4, MOST_DELAYS);
        private final Table entries = new Table(5, MOST_ENTRIES);
        private final Table things = new Table(2, MOST_THINGS);
        private final Table lines = new Table(5, MOST_LINES);
        private final int[] roads = new int[MOST_PLACES * MOST_PLACES];
        private final int[] traffic = new int[HOURS];
        private final int[] apart = new int[GROUPS];
        private final int[] bars = new int[MOST_PERSONS];
        private int wired;
        private int now;

        World() {
            Arrays.fill(roads, 60);
            // groups as bits: children are APART from all others
            apart[0] = 4;
            apart[1] = 4;
            apart[2] = 11;
            apart[3] = 4;
            wired = 0;
            now = 0;
        }

        void become(World other) {
            places.become(other.places);
            persons.become(other.persons);
            vans.become(other.vans);
            delays.become(other.delays);
            entries.become(other.entries);
            things.become(other.things);
            lines.become(other.lines);
            copy(other.roads, roads);
            copy(other.traffic, traffic);
            copy(other.apart, apart);
            copy(other.bars, bars);
            wired = other.wired;
            now = other.now;
        }

        int roadMinutes(int a, int b) {
            if (a == b || !places.has(a) || !places.has(b)) {
                return 0;
            }
            return roads[a * MOST_PLACES + b];
        }

        void layRoad(int a, int b, int n) {
            if (places.has(a) && places.has(b)) {
                roads[a * MOST_PLACES + b] = n;
                roads[b * MOST_PLACES + a] = n;
            }
        }

        int driveMinutes(int a, int b, int time) {
            int road = a * MOST_PLACES + b;
            if (a == b || road < 0 || road >= roads.length) {
                return 0;
            }
            int hour = time < 0 ? 0 : time / 60;
            int more = traffic[hour < HOURS ? hour : HOURS - 1];
            return (roads[road] * (100 + more) + 99) / 100;
        }

        /** Ties two numbers to one another, or unties them: 1 if they were tied. */
        int tie(int[] ties, int a, int b, boolean are) {
            if (a < 0 || a >= ties.length || b < 0 || b >= ties.length) {
                return 0;
            }
            int was = bit(ties[a], b);
            ties[a] = withBit(ties[a], b, are);
            ties[b] = withBit(ties[b], a, are);
            return was;
        }

        boolean areFoes(int person, int other) {
            if (person == other || !persons.has(person) || !persons.has(other)) {
                return false;
            }
            int group = persons.cell(person, GROUP);
            boolean areApart = isWithin(group, 0, GROUPS - 1)
                    && bit(apart[group], persons.cell(other, GROUP)) == 1;
            return areApart || bit(bars[person], other) == 1;
        }

        int personsOf(int place) {
            int bits = 0;
            for (int p = 0; p < persons.count; p++) {
                bits = withBit(bits, p, persons.cell(p, HOME) == place);
            }
            return bits;
        }

        int ridersOf(int place) {
            return personsOf(place) & ~wired;
        }

        int lackedBy(int person, int place) {
            int bits = 0;
            for (int t = 0; t < things.count; t++) {
                int lies = things.cell(t, LIES);
                bits = withBit(bits, t, things.cell(t, OWNER) == person && lies >= 0 && lies != place);
            }
            return bits;
        }

        int placesOf(int thingBits) {
            int bits = 0;
            for (int t = 0; t < things.count; t++) {
                int lies = things.cell(t, LIES);
                if (bit(thingBits, t) == 1 && places.has(lies)) {
                    bits |= 1 << lies;
                }
            }
            return bits;
        }
    }

    /** Some PERSONS, 8 at most, by their numbers; sets of them are bits by their place here. */
    private static final class Band {
        private final int[] who = new int[MOST_IN_BAND];
        private final int[] foes = new int[MOST_IN_BAND];
        private int count;

        Band() {
            count = 0;
        }

        /** False, if there are too many of them. */
        boolean gather(World world, int persons) {
            count = 0;
            if (Integer.bitCount(persons) > MOST_IN_BAND) {
                return false;
            }
            for (int p = 0; p < MOST_PERSONS && count < MOST_IN_BAND; p++) {
                if (bit(persons, p) == 1) {
                    who[count] = p;
                    count++;
                }
            }
            for (int i = 0; i < count; i++) {
                foes[i] = 0;
                for (int j = 0; j < count; j++) {
                    foes[i] = withBit(foes[i], j, world.areFoes(who[i], who[j]));
                }
            }
            return true;
        }

        int indexOf(int person) {
            for (int i = 0; i < count; i++) {
                if (who[i] == person) {
                    return i;
                }
            }
            return NONE;
        }

        int personsIn(int set) {
            int bits = 0;
            for (int i = 0; i < count; i++) {
                if (bit(set, i) == 1) {
                    bits |= 1 << who[i];
                }
            }
            return bits;
        }

        boolean hasFoes(int set) {
            for (int i = 0; i < count; i++) {
                if (bit(set, i) == 1 && (foes[i] & set) != 0) {
                    return true;
                }
            }
            return false;
        }
    }

    /** Looks for THE ROUTE of a VAN with some PERSONS. */
    private static final class Trip {
        private final World world;
        private final int[] courtOf = new int[MOST_PERSONS];
        private final int[] dueOf = new int[MOST_PERSONS];
        private int riders;
        private int van;
        private int latest;
        private final int[] order = new int[MOST_STOPS];
        private final int[] times = new int[MOST_STOPS];
        private final int[] bestOrder = new int[MOST_STOPS];
        private final int[] bestTimes = new int[MOST_STOPS];
        private int stops;
        private int late;

        Trip(World world) {
            this.world = world;
            riders = 0;
            van = 0;
            latest = 0;
            stops = 0;
            late = NONE;
        }

        /** Whether there is one; then late, stops, bestOrder and bestTimes tell it. */
        boolean find(int van, int persons) {
            this.van = van;
            late = NONE;
            int courts = gather(persons);
            stops = Integer.bitCount(courts);
            if (stops < 1 || stops > MOST_STOPS) {
                return false;
            }
            int start = world.vans.cell(van, World.START);
            int place = world.vans.cell(van, World.STANDS);
            latest = start + world.vans.cell(van, World.LONGEST);
            int time = Math.max(start, world.places.cell(place, World.OPENS));
            if (time > world.places.cell(place, World.CLOSES)) {
                return false;
            }
            goOn(this, place, time, 0, courts, 0);
            return late >= 0;
        }

        /** The COURTS of the PERSONS, as bits. */
        private int gather(int persons) {
            int courts = 0;
            riders = 0;
            for (int p = 0; p < world.persons.count && riders < MOST_PERSONS; p++) {
                if (bit(persons, p) == 1) {
                    courtOf[riders] = world.persons.cell(p, World.HEARD_AT);
                    dueOf[riders] = world.persons.cell(p, World.DUE);
                    courts |= 1 << courtOf[riders];
                    riders++;
                }
            }
            return courts;
        }

        /** Tries each order of the COURTS left (bits), from a PLACE that is left at a time. */
        private static void goOn(Trip trip, int from, int time, int lost, int left, int late) {
            int depth = trip.stops - Integer.bitCount(left);
            if (left == 0 || depth < 0 || depth >= MOST_STOPS) {
                trip.keepIfBetter(late);
                return;
            }
            int gone = trip.lostBy(time);
            int leaves = time + trip.lostMinutes(gone & ~lost);
            for (int court = 0; court < MOST_PLACES; court++) {
                if (bit(left, court) == 0) {
                    continue;
                }
                int time2 = trip.reach(from, court, leaves);
                int late2 = late + trip.lateAt(court, time2);
                // a sum that is already above the best one can't become less
                if (time2 >= 0 && (trip.late < 0 || late2 <= trip.late)) {
                    trip.order[depth] = court;
                    trip.times[depth] = time2;
                    goOn(trip, court, time2, lost | gone, withBit(left, court, false), late2);
                }
            }
        }

        /** The VAN's DELAYS from a time on or ahead, as bits. */
        private int lostBy(int time) {
            int bits = 0;
            for (int d = 0; d < world.delays.count; d++) {
                boolean is = world.delays.cell(d, World.OF_VAN) == van
                        && world.delays.cell(d, World.SINCE) <= time;
                bits = withBit(bits, d, is);
            }
            return bits;
        }

        private int lostMinutes(int delays) {
            int sum = 0;
            for (int d = 0; d < world.delays.count; d++) {
                if (bit(delays, d) == 1) {
                    sum += world.delays.cell(d, World.LOST);
                }
            }
            return sum;
        }

        /** ARRIVAL at a COURT, or NONE. */
        private int reach(int from, int court, int leaves) {
            int reached = leaves + world.driveMinutes(from, court, leaves);
            int time = Math.max(reached, world.places.cell(court, World.OPENS));
            return time <= latest && time <= world.places.cell(court, World.CLOSES) ? time : NONE;
        }

        private int lateAt(int court, int time) {
            int sum = 0;
            for (int i = 0; i < riders; i++) {
                if (courtOf[i] == court) {
                    sum += Math.max(0, time - dueOf[i]);
                }
            }
            return sum;
        }

        private void keepIfBetter(int sum) {
            int last = stops - 1;
            if (last < 0 || last >= MOST_STOPS) {
                return;
            }
            boolean isBetter = late < 0 || sum < late || sum == late && times[last] < bestTimes[last];
            if (isBetter) {
                late = sum;
                for (int i = 0; i < MOST_STOPS; i++) {
                    bestOrder[i] = order[i];
                    bestTimes[i] = times[i];
                }
            }
        }

        int lastArrival() {
            return stops >= 1 && stops <= MOST_STOPS ? bestTimes[stops - 1] : NONE;
        }

        int arrivalOf(int person) {
            int court = world.persons.cell(person, World.HEARD_AT);
            for (int i = 0; i < stops && i < MOST_STOPS; i++) {
                if (bestOrder[i] == court) {
                    return bestTimes[i];
                }
            }
            return NONE;
        }
    }

    /** Who of a PLACE's RIDERS is in which of its VANS; sets are those of the Band. */
    private static final class Loads {
        private static final int SETS = 1 << MOST_IN_BAND;
        private static final int UNKNOWN = -100;

        private final World world;
        private final Trip trip;
        private final Band band = new Band();
        private final int[] vans = new int[MOST_VANS];
        private int vanCount;
        private final int[] lates = new int[MOST_VANS * SETS];
        private final int[] sets = new int[MOST_VANS];
        private final int[] bestSets = new int[MOST_VANS];
        private final int[] reached = new int[SETS];

        Loads(World world, Trip trip) {
            this.world = world;
            this.trip = trip;
            vanCount = 0;
        }

        /** False, if the PLACE has too many RIDERS. */
        private boolean gather(int place) {
            vanCount = 0;
            for (int v = 0; v < world.vans.count && vanCount < MOST_VANS; v++) {
                if (world.vans.cell(v, World.STANDS) == place) {
                    vans[vanCount] = v;
                    vanCount++;
                }
            }
            Arrays.fill(lates, UNKNOWN);
            return band.gather(world, world.ridersOf(place));
        }

        /** The sum of LATE of a set in the PLACE's i-th VAN, or NONE if it can't ride so. */
        private int lateOf(int i, int set) {
            if (set == 0) {
                return 0;
            }
            if (i < 0 || i >= vanCount || set < 0 || set >= SETS) {
                return NONE;
            }
            int at = i * SETS + set;
            if (lates[at] == UNKNOWN) {
                boolean hasSeats = Integer.bitCount(set) <= world.vans.cell(vans[i], World.SEATS);
                boolean mayShare = hasSeats && !band.hasFoes(set);
                boolean rides = mayShare && trip.find(vans[i], band.personsIn(set));
                lates[at] = rides ? trip.late : NONE;
            }
            return lates[at];
        }

        /** The PLAN's sum of LATE, or FULL or NONE; bestSets tells who is in which VAN. */
        int solve(int place) {
            if (!gather(place)) {
                return FULL;
            }
            int ways = 1;
            for (int i = 0; i < band.count; i++) {
                ways *= vanCount;
            }
            int least = NONE;
            // ways come with the lesser VAN of the least RIDER first, so the first of equals stays
            for (int way = 0; way < ways && least != 0; way++) {
                spread(way);
                int sum = sumOfSets();
                if (sum >= 0 && (least < 0 || sum < least)) {
                    least = sum;
                    copy(sets, bestSets);
                }
            }
            return least;
        }

        /** The way's digits, one for each RIDER, tell his VAN. */
        private void spread(int way) {
            Arrays.fill(sets, 0);
            if (vanCount < 1) {
                return;
            }
            int rest = way;
            for (int i = band.count - 1; i >= 0; i--) {
                sets[rest % vanCount] |= 1 << i;
                rest /= vanCount;
            }
        }

        private int sumOfSets() {
            int sum = 0;
            for (int i = 0; i < vanCount; i++) {
                int late = lateOf(i, sets[i]);
                if (late < 0) {
                    return NONE;
                }
                sum += late;
            }
            return sum;
        }

        /** The VAN of a PERSON in the PLAN that was solved last. */
        int vanWith(int person) {
            int at = band.indexOf(person);
            for (int i = 0; i < vanCount && at >= 0; i++) {
                if (bit(bestSets[i], at) == 1) {
                    return vans[i];
                }
            }
            return NONE;
        }

        /** ROWS of the PLAN that was solved last: how many. */
        int writeRows(Table rows) {
            rows.count = 0;
            for (int i = 0; i < band.count; i++) {
                rows.add(band.who[i], vanWith(band.who[i]), 0, 0, 0);
            }
            for (int v = 0; v < vanCount; v++) {
                if (bestSets[v] != 0 && trip.find(vans[v], band.personsIn(bestSets[v]))) {
                    writeArrivals(rows, bestSets[v]);
                }
            }
            return rows.count;
        }

        private void writeArrivals(Table rows, int set) {
            for (int i = 0; i < band.count; i++) {
                if (bit(set, i) == 1) {
                    rows.change(i, 2, trip.arrivalOf(band.who[i]));
                }
            }
        }

        /** LESS as bits of PERSONS, or FULL. */
        int leftOut(int place) {
            if (!gather(place)) {
                return FULL;
            }
            int all = (1 << band.count) - 1;
            Arrays.fill(reached, 0);
            reached[0] = 1;
            for (int i = 0; i < vanCount; i++) {
                reachWith(i, all);
            }
            int out = all;
            for (int set = 0; set <= all && set < SETS; set++) {
                int rest = all & ~set;
                int more = Integer.bitCount(rest) - Integer.bitCount(out);
                if (reached[set] == 1 && (more < 0 || more == 0 && rest < out)) {
                    out = rest;
                }
            }
            return band.personsIn(out);
        }

        /** Marks the sets that ride with one VAN more; from above, since lesser ones are asked as they were. */
        private void reachWith(int i, int all) {
            for (int set = Math.min(all, SETS - 1); set > 0; set--) {
                for (int part = 1; part <= set && reached[set] == 0; part++) {
                    boolean isPart = (part & ~set) == 0;
                    if (isPart && reached[set & ~part] == 1 && lateOf(i, part) >= 0) {
                        reached[set] = 1;
                    }
                }
            }
        }

        int boundOf(int place) {
            int riders = world.ridersOf(place);
            int sum = 0;
            for (int p = 0; p < world.persons.count; p++) {
                if (bit(riders, p) == 1) {
                    int least = leastAlone(place, 1 << p);
                    if (least < 0) {
                        return NONE;
                    }
                    sum += least;
                }
            }
            return sum;
        }

        private int leastAlone(int place, int persons) {
            int least = NONE;
            for (int v = 0; v < world.vans.count; v++) {
                boolean rides = world.vans.cell(v, World.STANDS) == place && trip.find(v, persons);
                if (rides && (least < 0 || trip.late < least)) {
                    least = trip.late;
                }
            }
            return least;
        }

        /** THE READER's answer. */
        int judgeRows(int place, Table rows) {
            int riders = world.ridersOf(place);
            int sum = 0;
            int i = 0;
            for (int p = 0; p < world.persons.count; p++) {
                if (bit(riders, p) == 1) {
                    int arrival = rows.cell(i, 0) == p ? arrivalByRows(place, rows, i) : NONE;
                    if (arrival < 0 || rows.cell(i, 2) != arrival) {
                        return -100 - p;
                    }
                    sum += Math.max(0, arrival - world.persons.cell(p, World.DUE));
                    i++;
                }
            }
            return rows.count > i ? -200 : sum;
        }

        /** When the PERSON of ROW i arrives with those whom the ROWS put into his VAN, or NONE. */
        private int arrivalByRows(int place, Table rows, int i) {
            int person = rows.cell(i, 0);
            int van = rows.cell(i, 1);
            if (!world.vans.has(van) || world.vans.cell(van, World.STANDS) != place) {
                return NONE;
            }
            int inVan = inVanByRows(place, rows, van);
            if (Integer.bitCount(inVan) > world.vans.cell(van, World.SEATS)) {
                return NONE;
            }
            for (int p = 0; p < world.persons.count; p++) {
                if (bit(inVan, p) == 1 && world.areFoes(person, p)) {
                    return NONE;
                }
            }
            return trip.find(van, inVan) ? trip.arrivalOf(person) : NONE;
        }

        private int inVanByRows(int place, Table rows, int van) {
            int riders = world.ridersOf(place);
            int bits = 0;
            int i = 0;
            for (int p = 0; p < world.persons.count; p++) {
                if (bit(riders, p) == 1) {
                    boolean is = rows.has(i) && rows.cell(i, 0) == p && rows.cell(i, 1) == van;
                    bits = withBit(bits, p, is);
                    i++;
                }
            }
            return bits;
        }
    }

    /** Splits PERSONS into the parts that share a CELL. */
    private static final class Cells {
        private final World world;
        private final Band band = new Band();
        private final int[] parts = new int[MOST_IN_BAND];
        private int cap;

        Cells(World world) {
            this.world = world;
            cap = 0;
        }

        /** How many parts, or STATE if the COURT has fewer CELLS (FULL for too many PERSONS). */
        int split(int court, int persons) {
            if (!band.gather(world, persons)) {
                return FULL;
            }
            cap = world.places.cell(court, World.CAP);
            int most = Math.min(MOST_IN_BAND, world.places.cell(court, World.ROOM));
            for (int limit = 0; limit <= most; limit++) {
                Arrays.fill(parts, 0);
                if (fits(this, 0, 0, limit)) {
                    return limit;
                }
            }
            return STATE;
        }

        /** Puts the i-th PERSON and those behind him into the first parts that do. */
        private static boolean fits(Cells cells, int i, int used, int limit) {
            if (i >= cells.band.count || i >= MOST_IN_BAND) {
                return true;
            }
            for (int part = 0; part <= used && part < limit && part < MOST_IN_BAND; part++) {
                int members = cells.parts[part];
                boolean hasRoom = Integer.bitCount(members) < cells.cap;
                if (hasRoom && (members & cells.band.foes[i]) == 0) {
                    cells.parts[part] = members | 1 << i;
                    if (fits(cells, i + 1, Math.max(used, part + 1), limit)) {
                        return true;
                    }
                    cells.parts[part] = members;
                }
            }
            return false;
        }

        int partWith(int person) {
            int at = band.indexOf(person);
            for (int part = 0; part < MOST_IN_BAND && at >= 0; part++) {
                if (bit(parts[part], at) == 1) {
                    return part;
                }
            }
            return NONE;
        }
    }

    /** What ENTRIES tell. */
    private static final class Doors {
        private static final int FIRST_HEARING = 540;

        private final World world;
        private final int[] waits = new int[MOST_PERSONS];

        Doors(World world) {
            this.world = world;
        }

        /** The latest ENTRY of a PERSON at m or ahead, as KNOWN at k, or NONE. */
        private int latest(int person, int m, int k) {
            int found = NONE;
            int best = 0;
            for (int e = 0; e < world.entries.count; e++) {
                int when = world.entries.cell(e, World.WHEN);
                if (isOf(e, person, k) && when <= m && when >= best) {
                    found = e;
                    best = when;
                }
            }
            return found;
        }

        private boolean isOf(int entry, int person, int k) {
            return world.entries.cell(entry, World.WHO) == person && world.entries.cell(entry, World.TOLD) <= k;
        }

        int whereIs(int person, int m, int k) {
            int e = latest(person, m, k);
            return e < 0 ? world.persons.cell(person, World.HOME) : world.entries.cell(e, World.WHERE);
        }

        boolean isSure(int person, int m, int k) {
            int e = latest(person, m, k);
            return e < 0 || world.entries.cell(e, World.PROOFS) >= 2;
        }

        /** When a PERSON CAME, or NONE. */
        int firstAtCourt(int person, int k) {
            int court = world.persons.cell(person, World.HEARD_AT);
            int first = NONE;
            for (int e = 0; e < world.entries.count; e++) {
                int when = world.entries.cell(e, World.WHEN);
                boolean isThere = isOf(e, person, k) && world.entries.cell(e, World.WHERE) == court;
                if (isThere && (first < 0 || when < first)) {
                    first = when;
                }
            }
            return first;
        }

        /** When a PERSON's HEARING begins, or NONE. */
        int hearing(int person, int k) {
            int court = world.persons.cell(person, World.HEARD_AT);
            for (int p = 0; p < MOST_PERSONS; p++) {
                boolean isHere = p < world.persons.count && world.persons.cell(p, World.HEARD_AT) == court;
                waits[p] = isHere ? firstAtCourt(p, k) : NONE;
            }
            int time = Math.max(FIRST_HEARING, world.places.cell(court, World.OPENS));
            int closes = world.places.cell(court, World.CLOSES);
            // each PERSON takes two turns at most: one to wait for him, one to hear him
            for (int turn = 0; turn < 2 * MOST_PERSONS && time <= closes; turn++) {
                int next = nextHeard(time);
                if (next == person) {
                    return time;
                }
                if (next >= 0 && next < MOST_PERSONS) {
                    waits[next] = NONE;
                    time += world.persons.cell(next, World.LENGTH);
                } else {
                    time = leastWait();
                    if (time < 0) {
                        return NONE;
                    }
                }
            }
            return NONE;
        }

        private int nextHeard(int time) {
            int found = NONE;
            for (int p = 0; p < MOST_PERSONS; p++) {
                if (waits[p] < 0 || waits[p] > time) {
                    continue;
                }
                int due = world.persons.cell(p, World.DUE);
                if (found < 0 || due < world.persons.cell(found, World.DUE)) {
                    found = p;
                }
            }
            return found;
        }

        private int leastWait() {
            int least = NONE;
            for (int p = 0; p < MOST_PERSONS; p++) {
                if (waits[p] >= 0 && (least < 0 || waits[p] < least)) {
                    least = waits[p];
                }
            }
            return least;
        }
    }

    /** THE TAPE, and how a TEXT on it is read: first split into tokens, then by its grammar. */
    private static final class Reader {
        private static final int MOST_BYTES = 200;
        private static final int BLANK = 32;
        private static final int ROW_BY = 0, ROW_FREE = 1, ROW_MOST = 2;
        // tokens; the causes' ones are the causes' numbers
        private static final int VAN = 0, JAIL_WORD = 1, ROAD = 2, COURT_WORD = 3, NO_ONE = 4;
        private static final int BY = 5, OVER = 6, PAYS = 7, EACH = 8, FREE = 9, MOST = 10, OR = 11;
        private static final int SEMICOLON = 12, OTHER = 13, END = 14;
        // a NUMBER's token is this and its value
        private static final int NUMBER = 1000;

        private final int[] tape = new int[MOST_BYTES];
        private int count;
        private final int[] tokens = new int[MOST_BYTES + 1];
        private final int[] starts = new int[MOST_BYTES + 1];
        private int tokenCount;
        private int now;
        private final Table lines = new Table(5, MOST_LINES);

        Reader() {
            count = 0;
            tokenCount = 0;
            now = 0;
        }

        /** How many bytes there are then, or FULL. */
        int take(long eight, int n) {
            if (n < 0 || n > 8 || count + n > MOST_BYTES) {
                return FULL;
            }
            for (int i = 0; i < n; i++) {
                tape[count] = (int) (eight >> 8 * i) & 255;
                count++;
            }
            return count;
        }

        /** Reads THE TAPE into lines and uses it up: the FAULT, or NONE. */
        int parse() {
            split();
            count = 0;
            lines.count = 0;
            now = 0;
            boolean isRight = true;
            for (int i = 0; i <= MOST_LINES && isRight && token() != END; i++) {
                isRight = i < MOST_LINES && readLine();
            }
            return isRight ? NONE : start();
        }

        private void split() {
            tokenCount = 0;
            int from = 0;
            for (int i = 0; i < MOST_BYTES && from < count; i++) {
                int till = endOf(from);
                if (tape[from] != BLANK) {
                    addToken(tokenOf(from, till), from);
                }
                from = till;
            }
            addToken(END, count);
        }

        private void addToken(int token, int start) {
            if (tokenCount < tokens.length) {
                tokens[tokenCount] = token;
                starts[tokenCount] = start;
                tokenCount++;
            }
        }

        /** Behind the row of bytes of one sort; every other byte stands alone. */
        private int endOf(int from) {
            int sort = sortOf(from);
            if (sort == OTHER) {
                return from + 1;
            }
            for (int till = from + 1; till < count; till++) {
                if (sortOf(till) != sort) {
                    return till;
                }
            }
            return count;
        }

        /** What a byte of THE TAPE may be a part of: NUMBER, BY for any WORD, or OTHER. */
        private int sortOf(int i) {
            int sign = i >= 0 && i < MOST_BYTES ? tape[i] : BLANK;
            if (sign >= '0' && sign <= '9') {
                return NUMBER;
            }
            return sign >= 'a' && sign <= 'z' ? BY : OTHER;
        }

        private int tokenOf(int from, int till) {
            switch (sortOf(from)) {
                case NUMBER:
                    return numberOf(from, till);
                case BY:
                    return wordOf(from, till);
                default:
                    return tape[from] == ';' ? SEMICOLON : OTHER;
            }
        }

        private int numberOf(int from, int till) {
            if (till - from > 3) {
                return OTHER;
            }
            int n = 0;
            for (int i = from; i < till && i < MOST_BYTES; i++) {
                n = n * 10 + tape[i] - '0';
            }
            return NUMBER + n;
        }

        private int wordOf(int from, int till) {
            for (int word = VAN; word <= OR; word++) {
                if (isWord(from, till, textOf(word))) {
                    return word;
                }
            }
            return OTHER;
        }

        private boolean isWord(int from, int till, String text) {
            if (from < 0 || till > MOST_BYTES || till - from != text.length()) {
                return false;
            }
            for (int i = 0; i < text.length(); i++) {
                if (tape[from + i] != text.charAt(i)) {
                    return false;
                }
            }
            return true;
        }

        private static String textOf(int word) {
            switch (word) {
                case VAN:
                    return "van";
                case JAIL_WORD:
                    return "jail";
                case ROAD:
                    return "road";
                case COURT_WORD:
                    return "court";
                case NO_ONE:
                    return "none";
                case BY:
                    return "by";
                case OVER:
                    return "over";
                case PAYS:
                    return "pays";
                case EACH:
                    return "each";
                case FREE:
                    return "free";
                case MOST:
                    return "most";
                case OR:
                    return "or";
                default:
                    return "";
            }
        }

        private int token() {
            return now >= 0 && now < tokenCount ? tokens[now] : END;
        }

        private int start() {
            return now >= 0 && now < tokenCount ? starts[now] : 0;
        }

        /** Goes on behind the token, if it is the one that must come. */
        private boolean pass(int token) {
            if (token() != token || token == END) {
                return false;
            }
            now++;
            return true;
        }

        /** Goes on behind a NUMBER and answers it; NONE if there is none or a lesser one. */
        private int passNumber(int least) {
            int n = token() - NUMBER;
            if (n < least) {
                return NONE;
            }
            now++;
            return n;
        }

        private boolean readLine() {
            if (pass(BY)) {
                return readBy();
            }
            int sort = token() == FREE ? ROW_FREE : ROW_MOST;
            if (!pass(FREE) && !pass(MOST)) {
                return false;
            }
            int n = passNumber(0);
            if (n < 0 || !pass(SEMICOLON)) {
                return false;
            }
            lines.add(sort, 0, n, NO_CELL, NO_CELL);
            return true;
        }

        private boolean readBy() {
            int causes = readCauses();
            if (causes == 0 || !pass(OVER)) {
                return false;
            }
            int over = passNumber(0);
            if (over < 0 || !pass(PAYS)) {
                return false;
            }
            int pays = passNumber(0);
            if (pays < 0 || !pass(EACH)) {
                return false;
            }
            int each = passNumber(1);
            if (each < 0 || !pass(SEMICOLON)) {
                return false;
            }
            lines.add(ROW_BY, causes, over, pays, each);
            return true;
        }

        /** CAUSES as bits; 0 if one isn't as told. */
        private int readCauses() {
            int causes = 0;
            for (int i = 0; i < MOST_BYTES; i++) {
                int cause = token();
                if (cause < VAN || cause > NO_ONE) {
                    return 0;
                }
                causes |= 1 << cause;
                now++;
                if (!pass(OR)) {
                    return causes;
                }
            }
            return 0;
        }
    }

    /** PARTS of a LATE, and the FINE for them. */
    private static final class Fines {
        private final World world;
        private final int[] parts = new int[CAUSES];

        Fines(World world) {
            this.world = world;
        }

        /** Tells the PARTS of a PERSON who CAME at a minute (NONE: he didn't). */
        void share(int person, int van, int came) {
            Arrays.fill(parts, 0);
            int late = came < 0 ? 0 : came - world.persons.cell(person, World.DUE);
            // what is free is what would be told last, so it is as if there was less to tell
            late = Math.max(0, Math.max(0, late) - Math.max(0, latest(Reader.ROW_FREE)));
            for (int d = world.delays.count - 1; d >= 0; d--) {
                boolean counts = world.delays.cell(d, World.OF_VAN) == van
                        && world.delays.cell(d, World.SINCE) <= came;
                int cause = world.delays.cell(d, World.CAUSE);
                if (counts && cause >= 0 && cause < NO_CAUSE) {
                    int n = Math.min(late, world.delays.cell(d, World.LOST));
                    parts[cause] += n;
                    late -= n;
                }
            }
            parts[NO_CAUSE] = late;
        }

        /** N of the latest LINE of a sort, or NONE. */
        private int latest(int sort) {
            for (int i = world.lines.count - 1; i >= 0; i--) {
                if (world.lines.cell(i, World.SORT) == sort) {
                    return world.lines.cell(i, World.FIRST_N);
                }
            }
            return NONE;
        }

        /** The FINE for the PARTS told last. */
        int sum() {
            int sum = 0;
            for (int cause = 0; cause < CAUSES; cause++) {
                sum += fineFor(cause);
            }
            int most = latest(Reader.ROW_MOST);
            return most < 0 ? sum : Math.min(sum, most);
        }

        private int fineFor(int cause) {
            for (int i = 0; i < world.lines.count; i++) {
                if (bit(world.lines.cell(i, World.NAMED), cause) == 1) {
                    int over = Math.max(0, parts[cause] - world.lines.cell(i, World.FIRST_N));
                    int each = Math.max(1, world.lines.cell(i, World.THIRD_N));
                    return (over + each - 1) / each * world.lines.cell(i, World.SECOND_N);
                }
            }
            return 0;
        }
    }

    /** Finds PLACES for the night. */
    private static final class Night {
        /** A PERSON who doesn't go HOME weighs more than all DRIVES. */
        private static final int AWAY = 100000;

        private final World world;
        private final Doors doors;
        private final int[] who = new int[MOST_AT_NIGHT];
        private int count;
        private final int[] costs = new int[MOST_AT_NIGHT * MOST_PLACES];
        private final int[] rest = new int[MOST_AT_NIGHT + 1];
        private final int[] rooms = new int[MOST_PLACES];
        private final int[] goes = new int[MOST_AT_NIGHT];
        private final int[] bestGoes = new int[MOST_AT_NIGHT];
        private int best;

        Night(World world, Doors doors) {
            this.world = world;
            this.doors = doors;
            count = 0;
            best = NONE;
        }

        /** Whether there is a way; then best and bestGoes tell it. */
        boolean settle(int court, int persons, int m) {
            count = 0;
            for (int p = 0; p < MOST_PERSONS && count < MOST_AT_NIGHT; p++) {
                if (bit(persons, p) == 1) {
                    who[count] = p;
                    count++;
                }
            }
            for (int place = 0; place < MOST_PLACES; place++) {
                rooms[place] = roomAt(court, place, persons, m);
            }
            rest[count] = 0;
            for (int i = count - 1; i >= 0; i--) {
                rest[i] = rest[i + 1] + weigh(i, court, m);
            }
            best = NONE;
            send(this, 0, 0);
            return best >= 0;
        }

        private int roomAt(int court, int place, int persons, int m) {
            if (!world.places.has(place) || world.places.cell(place, World.KIND) == COURT) {
                return 0;
            }
            int ends = m + world.driveMinutes(court, place, m);
            if (!isWithin(ends, world.places.cell(place, World.OPENS), world.places.cell(place, World.CLOSES))) {
                return 0;
            }
            int room = world.places.cell(place, World.ROOM);
            for (int p = 0; p < world.persons.count; p++) {
                if (bit(persons, p) == 0 && doors.whereIs(p, m, world.now) == place) {
                    room--;
                }
            }
            return room;
        }

        /** What each PLACE costs for the i-th PERSON; answers the least. */
        private int weigh(int i, int court, int m) {
            int home = world.persons.cell(who[i], World.HOME);
            int least = FAR;
            for (int place = 0; place < MOST_PLACES; place++) {
                int cost = (place == home ? 0 : AWAY) + world.driveMinutes(court, place, m);
                costs[i * MOST_PLACES + place] = cost;
                if (rooms[place] > 0) {
                    least = Math.min(least, cost);
                }
            }
            return least == FAR ? 0 : least;
        }

        /** Sends the i-th PERSON and those behind him, the lesser PLACES first. */
        private static void send(Night night, int i, int cost) {
            if (i >= night.count || i >= MOST_AT_NIGHT) {
                night.best = cost;
                copy(night.goes, night.bestGoes);
                return;
            }
            for (int place = 0; place < MOST_PLACES; place++) {
                int sum = cost + night.costs[i * MOST_PLACES + place];
                // the first of equals stays, so only what can become less goes on
                boolean mayWin = night.best < 0 || sum + night.rest[i + 1] < night.best;
                if (night.rooms[place] > 0 && mayWin) {
                    night.rooms[place]--;
                    night.goes[i] = place;
                    send(night, i + 1, sum);
                    night.rooms[place]++;
                }
            }
        }

        int abroad() {
            return best / AWAY;
        }

        int drives() {
            return best % AWAY;
        }

        int placeWith(int person) {
            for (int i = 0; i < count; i++) {
                if (who[i] == person) {
                    return bestGoes[i];
                }
            }
            return NONE;
        }
    }

    /** SHEETS, SHELVES, and ACTS of what is on them. */
    private static final class Host {
        private static final int NOTHING = -11, OUTSIDE = -12, OTHER_SORT = -13, BELOW_0 = -14, PARTED_BY_0 = -15;
        private static final int SHEETS = 4, SHELVES = 4, ITEMS = 40, BODIES = 30;
        private static final int MISSING = -1, BYTES = 0, SHORTS = 1;
        private static final int A_PERSON = 0, A_VAN = 1, A_THING = 2, A_ROW = 3, EMPTY = 4;
        private static final int ONE = 0, PERSON = 1, WOMAN = 2, CHILD = 3, VAN = 4, PROPERTY = 5, PAPER = 6;
        private static final int NO_KIND = -1, ROW = -2;

        private final World world;
        private final int[] sorts = new int[SHEETS];
        private final int[] sizes = new int[SHEETS];
        private final int[] items = new int[SHEETS * ITEMS];
        private final int[] whats = new int[SHELVES];
        private final int[] numbers = new int[SHELVES];
        private final int[] rowSizes = new int[SHELVES];
        private final int[] trace = new int[BODIES];
        private int ran;
        private int kind;
        private int n;
        private int a;

        Host(World world) {
            this.world = world;
            Arrays.fill(sorts, MISSING);
            Arrays.fill(whats, EMPTY);
            ran = 0;
            kind = NO_KIND;
            n = 0;
            a = 0;
        }

        boolean isSheet(int i) {
            return i >= 0 && i < SHEETS;
        }

        boolean isShelf(int i) {
            return i >= 0 && i < SHELVES;
        }

        int tearSheet(int sheet) {
            sorts[sheet] = MISSING;
            sizes[sheet] = 0;
            return 1;
        }

        int makeSheet(int sheet, int sort, int size) {
            sorts[sheet] = sort;
            sizes[sheet] = size;
            Arrays.fill(items, sheet * ITEMS, sheet * ITEMS + ITEMS, 0);
            return 1;
        }

        /** What refuses a SHEET's item i taken for a sort, or 0. */
        int refusal(int sheet, int sort, int i) {
            if (sorts[sheet] == MISSING) {
                return NOTHING;
            }
            if (sorts[sheet] != sort) {
                return OTHER_SORT;
            }
            return isWithin(i, 0, sizes[sheet] - 1) ? 0 : OUTSIDE;
        }

        int itemAt(int sheet, int i) {
            return isWithin(i, 0, ITEMS - 1) ? items[sheet * ITEMS + i] : 0;
        }

        /** Longs are kept as ints: none is put that isn't one, nor asked for more. */
        int write(int sheet, int i, int v) {
            if (isWithin(i, 0, ITEMS - 1)) {
                int wide = sorts[sheet] == SHORTS ? (short) v : v;
                items[sheet * ITEMS + i] = sorts[sheet] == BYTES ? (byte) v : wide;
            }
            return 1;
        }

        int hold(int shelf, int what, int number, int size) {
            whats[shelf] = what;
            numbers[shelf] = number;
            rowSizes[shelf] = size;
            return 1;
        }

        /** The row stays what it is, whatever becomes of its SHEET; its number here is its sort. */
        int holdRow(int shelf, int sheet) {
            if (sorts[sheet] == MISSING) {
                return hold(shelf, EMPTY, 0, 0);
            }
            return hold(shelf, A_ROW, sorts[sheet], sizes[sheet]);
        }

        /** Tells kind, n and a of what is on a SHELF. */
        private void look(int shelf) {
            n = numbers[shelf];
            kind = NO_KIND;
            a = 0;
            switch (whats[shelf]) {
                case A_PERSON:
                    if (world.persons.has(n)) {
                        kind = kindOf(world.persons.cell(n, World.GROUP));
                        a = world.persons.cell(n, World.DUE);
                    }
                    break;
                case A_VAN:
                    if (world.vans.has(n)) {
                        kind = VAN;
                        a = world.vans.cell(n, World.SEATS);
                    }
                    break;
                case A_THING:
                    if (world.things.has(n)) {
                        kind = n % 2 == 0 ? PROPERTY : PAPER;
                        a = world.things.cell(n, World.OWNER);
                    }
                    break;
                case A_ROW:
                    kind = ROW;
                    break;
                default:
                    break;
            }
        }

        private static int kindOf(int group) {
            if (group == 1) {
                return WOMAN;
            }
            return group == 2 ? CHILD : PERSON;
        }

        int takenAsKind(int shelf, int as) {
            look(shelf);
            if (kind == NO_KIND) {
                return NOTHING;
            }
            boolean isPerson = kind == PERSON || kind == WOMAN || kind == CHILD;
            boolean isProperty = kind == PROPERTY || kind == PAPER;
            boolean is = as == ONE && kind != ROW || as == kind
                    || as == PERSON && isPerson || as == PROPERTY && isProperty;
            return is ? n : OTHER_SORT;
        }

        int takenAsRow(int shelf, int sort) {
            look(shelf);
            if (kind == NO_KIND) {
                return NOTHING;
            }
            return kind == ROW && n == sort ? rowSizes[shelf] : OTHER_SORT;
        }

        int run(int shelf, int act, int x) {
            ran = 0;
            look(shelf);
            if (kind == NO_KIND || kind == ROW) {
                return 0;
            }
            switch (act) {
                case 0:
                    return counts(x);
                case 1:
                    return holds(x);
                case 2:
                    return owes(x);
                default:
                    return tells(x);
            }
        }

        private void mark(int body) {
            if (ran >= 0 && ran < BODIES) {
                trace[ran] = body;
                ran++;
            }
        }

        private int counts(int x) {
            switch (kind) {
                case PERSON:
                case WOMAN:
                    mark(20);
                    mark(10);
                    return (x + n) * 3;
                case CHILD:
                    mark(40);
                    mark(20);
                    mark(10);
                    return (x + n) * 3 - 1;
                case PAPER:
                    mark(70);
                    mark(10);
                    return (x + n) ^ 5;
                default:
                    mark(10);
                    return x + n;
            }
        }

        private int holds(int x) {
            switch (kind) {
                case WOMAN:
                    mark(30);
                    mark(11);
                    return counts(x + 1) - a;
                case VAN:
                    mark(50);
                    mark(11);
                    return (counts(x) - a) * 2;
                default:
                    mark(11);
                    return counts(x) - a;
            }
        }

        private int owes(int x) {
            if (kind == VAN) {
                mark(51);
            }
            if (kind == PAPER) {
                mark(71);
            }
            mark(12);
            int by = n - a;
            if (by == 0) {
                return PARTED_BY_0;
            }
            int part = (kind == VAN ? x + a : x) / by;
            return kind == PAPER ? 0 - part : part;
        }

        private int tells(int x) {
            boolean isProperty = kind == PROPERTY || kind == PAPER;
            if (kind == CHILD) {
                mark(41);
            }
            if (isProperty) {
                mark(60);
            }
            mark(13);
            int told = holds(x);
            told ^= counts(2);
            if (kind == CHILD) {
                told += holds(1);
            }
            return isProperty ? told - n : told;
        }
    }
}
